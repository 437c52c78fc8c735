theorem in_X1_init_X1 : ∀ w ∈ wsX10, w ∈ wsX1_init := fun _ h => List.mem_cons_of_mem _ (List.mem_append_right _ h)
set_option maxHeartbeats 4000000 in
set_option maxRecDepth 100000 in
theorem c_X1_init (l : Launch) (k : K_X) (h0 n : Nat) (hn : n ≤ 100) : k_N (S := Nat → Nat) l yX1_init wsX1_init ({ frames := 1, cells := 1, slots := n * 6, locals := 21 }) k [.ref h0, .int (nI n)] ([(h0, .inr (1, [.int 0, .null, .int 0]))] : va_W) (fun a => a 0 = h0) (fun a => w_L k a n (fun _ _ => 0)) 1 (n * 6) := by
  refine k_mkN (cc := cX1_init) (maxL := 2) (by decide) rfl (Nat.le_of_ble_eq_true rfl) ?_
  intro p e s m below meth c A ls C0 hAO hin hP hD hS hl
  obtain ⟨hx, hb, hr, hts, hown, hlocks, hml, hA, hK⟩ := id C0
  have hown : s.vm.findClass RX1 = some m.cls := hown
  have hl : lv_has ls 2 [(0, .ref h0), (1, .int (nI n))] := hl
  refine lv_aload_n hx hb dX1_init_0 rfl (lv_at hl 0 rfl) ?_
  refine W.objInit hx hb hown (k_w hts 1 rfl) (k_w hts 2 rfl) (k_w hts 3 rfl) rfl (by rw [hml]; exact hl.1) rfl dX1_init_1 (Nat.le_of_ble_eq_true rfl) (Nat.le_of_ble_eq_true rfl) ?_
  refine W.eq (g2 := F0 m 4 ls []) rfl ?_
  refine lv_aload_n hx hb dX1_init_4 rfl (lv_at hl 0 rfl) ?_
  refine lv_iload_n hx hb dX1_init_5 rfl (lv_at hl 1 rfl) ?_
  refine lv_iconst (v := 0) hx hb dX1_init_6 (by decide) ?_
  refine va_mmax hx hb (hml.trans hl.1.symm) hown (k_w hts 4 rfl) (k_w hts 5 rfl) (k_w hts 6 rfl) (k_w hts 7 rfl) (Nat.le_of_ble_eq_true rfl) (Nat.le_of_ble_eq_true rfl) (Nat.zero_le _) (Nat.zero_le _) dX1_init_7 ?_
  rw [if_neg (nI_pos (by omega))]
  refine va_putF (D := k.1) (ci := 1) (v := .int (nI n)) (ty := .int) (C := RX1) (T := TX1) (N := 3) hx hb hts in_X1_init_X1 tyX1 tyX1_ok nmX1 hown hK hP hD hS 0 rfl rfl 0 (by decide) (k_w hts 8 rfl) (fun _ h9 => h9) rfl hin rfl (by decide +kernel) rfl rfl (Nat.le_of_ble_eq_true rfl) dX1_init_10 (fun H locs hP hD hS => ?_)
  have hP : va_P k.1 vwCl ([(h0, .inr (1, [.int (nI n), .null, .int 0]))] : va_W) H := hP
  have hD : va_D A ([(h0, .inr (1, [.int (nI n), .null, .int 0]))] : va_W) := hD
  refine lv_aload_n hx hb dX1_init_13 rfl (lv_at hl 0 rfl) ?_
  refine lv_aload_n hx hb dX1_init_14 rfl (lv_at hl 0 rfl) ?_
  refine va_get (D := k.1) (ci := 1) (v := .int (nI n)) (C := RX1) (T := TX1) (N := 3) hx hb hts in_X1_init_X1 hown hK hP 0 rfl rfl 0 (by decide) (k_w hts 8 rfl) (fun _ h9 => h9) rfl dX1_init_15 ?_
  refine lv_bipush (v := 6) hx hb dX1_init_18 (by decide) ?_
  refine lv_imul hx hb dX1_init_20 ?_
  rw [show (nI n * 6 : Int32) = nI (n * 6) from by rw [show (6 : Int32) = nI 6 from rfl, pk_mul]]
  refine k_newI (N := n * 6) hx hb (k_w hts 9 rfl) hK hP hD hS hA (nI_pos (by omega)) (nI_clamp (by omega)) (by omega) (Nat.le_of_ble_eq_true rfl) (by show 0 + n * 6 ≤ n * 6; omega) dX1_init_21 (fun q1 H hP hD hS => ?_)
  have hP : va_P k.1 vwCl ([(h0, .inr (1, [.int (nI n), .null, .int 0])), (q1, k_aI k (n * 6) (fun _ => 0))] : va_W) H := hP
  have hD : va_D A ([(h0, .inr (1, [.int (nI n), .null, .int 0])), (q1, k_aI k (n * 6) (fun _ => 0))] : va_W) := hD
  refine W.widen (k := 1) (n := n * 6) (by omega) (by omega) ?_
  refine va_putF (D := k.1) (ci := 1) (v := .ref q1) (ty := (.array .int)) (C := RX1) (T := TX1) (N := 3) hx hb hts in_X1_init_X1 tyX1 tyX1_ok nmX1 hown hK hP hD hS 0 rfl rfl 1 (by decide) (k_w hts 10 rfl) (fun _ h9 => h9) rfl hin rfl (by decide +kernel) rfl rfl (Nat.le_of_ble_eq_true rfl) dX1_init_23 (fun H locs hP hD hS => ?_)
  have hP : va_P k.1 vwCl ([(h0, .inr (1, [.int (nI n), .ref q1, .int 0])), (q1, k_aI k (n * 6) (fun _ => 0))] : va_W) H := hP
  have hD : va_D A ([(h0, .inr (1, [.int (nI n), .ref q1, .int 0])), (q1, k_aI k (n * 6) (fun _ => 0))] : va_W) := hD
  have hP9 : va_P k.1 vwCl (w_L k (k_st (k_st (fun _ => 0) 0 h0) 1 q1) n (fun _ _ => 0)) H := hP
  have hD9 : va_D A (w_L k (k_st (k_st (fun _ => 0) 0 h0) 1 q1) n (fun _ _ => 0)) := hD
  exact W.vret hx hb hr (fun t ht hW => ⟨⟨(k_st (k_st (fun _ => 0) 0 h0) 1 q1), rfl, rfl, by rw [ht]; exact hP9, va_K.moved hW.alike hK, hD9⟩, hS.F ht⟩) hS.2.2 dX1_init_26
theorem k_inner (c9 : ClassId) : k_ic c9 10 = vp_cell c9 (10, .inl (fun _ => 0)) := by
  rw [vp_cell_i]
  unfold k_ic
  rw [arrV_new]
theorem k_rows {r : Nat → Nat} {f : Nat → va_E} {e : va_E} : va_pl ([] ++ (List.range 10).map r) (vr_up f ((List.range 10).map r) e) = [(r 0, e), (r 1, e), (r 2, e), (r 3, e), (r 4, e), (r 5, e), (r 6, e), (r 7, e), (r 8, e), (r 9, e)] := by
  rw [List.nil_append]
  unfold va_pl
  rw [List.map_congr_left (g := fun a => (a, e)) (fun a ha => by rw [vr_up_in ha])]
  rfl
def k_ap (h0 q1 q2 q3 q4 q5 qh q6 : Nat) (r : Nat → Nat) : Nat → Nat := fun i => if i < 8 then (k_st (k_st (k_st (k_st (k_st (k_st (k_st (k_st (fun _ => 0) 0 h0) 1 q1) 2 q2) 3 q3) 4 q4) 5 q5) 6 qh) 7 q6) i else r (i - 8)
theorem k_ap_row (h0 q1 q2 q3 q4 q5 qh q6 : Nat) (r : Nat → Nat) (i : Nat) : k_ap h0 q1 q2 q3 q4 q5 qh q6 r (8 + i) = r i := by
  unfold k_ap
  rw [if_neg (by omega), Nat.add_sub_cancel_left]
theorem k_pblk {k : K_X} (h0 q1 q2 q3 q4 q5 qh q6 : Nat) (r : Nat → Nat) : ([0, 1, 2, 3, 4, 5, 6, 17, 7, 8, 9, 10, 11, 12, 13, 14, 15, 16] : List Nat).map (fun i => ([(h0, .inr (2, [.int 0, .ref q1, .ref q2, .ref q3, .int 0, .ref q4, .ref q5, .ref qh, .ref q6])), (q1, k_aI k 10 (fun _ => 0)), (q2, k_aI k 10 (fun _ => 0)), (q3, k_aI k 10 (fun _ => 0)), (q4, k_aI k 10 (fun _ => 0)), (q5, k_aI k 10 (fun _ => 0)), (qh, .inl (k.2.2.2.2, 10, .inr (.inr (.inr (.inr (fun i => if i < 10 then some (r i) else none)))))), ((r 0), k_aI k 10 (fun _ => 0)), ((r 1), k_aI k 10 (fun _ => 0)), ((r 2), k_aI k 10 (fun _ => 0)), ((r 3), k_aI k 10 (fun _ => 0)), ((r 4), k_aI k 10 (fun _ => 0)), ((r 5), k_aI k 10 (fun _ => 0)), ((r 6), k_aI k 10 (fun _ => 0)), ((r 7), k_aI k 10 (fun _ => 0)), ((r 8), k_aI k 10 (fun _ => 0)), ((r 9), k_aI k 10 (fun _ => 0)), (q6, k_aI k 10 (fun _ => 0))] : va_W)[i]?) = (w_P k (k_ap h0 q1 q2 q3 q4 q5 qh q6 r) (fun _ _ => 0)).map some := by
  unfold w_P
  rw [show (fun i => if i < 10 then some (k_ap h0 q1 q2 q3 q4 q5 qh q6 r (8 + i)) else none) = (fun i => if i < 10 then some (r i) else none) from funext fun i => by rw [k_ap_row]]
  rfl
theorem in_X2_init_X2 : ∀ w ∈ wsX20, w ∈ wsX2_init := fun _ h => List.mem_cons_of_mem _ (List.mem_append_right _ h)
set_option maxHeartbeats 4000000 in
set_option maxRecDepth 100000 in
theorem c_X2_init (l : Launch) (k : K_X) (h0 : Nat) : k_N (S := Nat → Nat) l yX2_init wsX2_init ({ frames := 1, cells := 17, slots := 170, locals := 12 }) k [.ref h0] ([(h0, .inr (2, [.int 0, .null, .null, .null, .int 0, .null, .null, .null, .null]))] : va_W) (fun a => a 0 = h0) (fun a => w_P k a (fun _ _ => 0)) 17 170 := by
  refine k_mkN (cc := cX2_init) (maxL := 1) (by decide) rfl (Nat.le_of_ble_eq_true rfl) ?_
  intro p e s m below meth c A ls C0 hAO hin hP hD hS hl
  obtain ⟨hx, hb, hr, hts, hown, hlocks, hml, hA, hK⟩ := id C0
  have hown : s.vm.findClass RX2 = some m.cls := hown
  have hl : lv_has ls 1 [(0, .ref h0)] := hl
  refine lv_aload_n hx hb dX2_init_0 rfl (lv_at hl 0 rfl) ?_
  refine W.objInit hx hb hown (k_w hts 1 rfl) (k_w hts 2 rfl) (k_w hts 3 rfl) rfl (by rw [hml]; exact hl.1) rfl dX2_init_1 (Nat.le_of_ble_eq_true rfl) (Nat.le_of_ble_eq_true rfl) ?_
  refine W.eq (g2 := F0 m 4 ls []) rfl ?_
  refine lv_aload_n hx hb dX2_init_4 rfl (lv_at hl 0 rfl) ?_
  refine lv_bipush (v := 10) hx hb dX2_init_5 (by decide) ?_
  refine k_newI (N := 10) hx hb (k_w hts 4 rfl) hK hP hD hS hA (by decide) (by decide) (by decide) (Nat.le_of_ble_eq_true rfl) (Nat.le_of_ble_eq_true rfl) dX2_init_7 (fun q1 H hP hD hS => ?_)
  have hP : va_P k.1 vwCl ([(h0, .inr (2, [.int 0, .null, .null, .null, .int 0, .null, .null, .null, .null])), (q1, k_aI k 10 (fun _ => 0))] : va_W) H := hP
  have hD : va_D A ([(h0, .inr (2, [.int 0, .null, .null, .null, .int 0, .null, .null, .null, .null])), (q1, k_aI k 10 (fun _ => 0))] : va_W) := hD
  refine W.widen (k := 1) (n := 10) (by omega) (by omega) ?_
  refine va_putF (D := k.1) (ci := 2) (v := .ref q1) (ty := (.array .int)) (C := RX2) (T := TX2) (N := 9) hx hb hts in_X2_init_X2 tyX2 tyX2_ok nmX2 hown hK hP hD hS 0 rfl rfl 1 (by decide) (k_w hts 5 rfl) (fun _ h9 => h9) rfl hin rfl (by decide +kernel) rfl rfl (Nat.le_of_ble_eq_true rfl) dX2_init_9 (fun H locs hP hD hS => ?_)
  have hP : va_P k.1 vwCl ([(h0, .inr (2, [.int 0, .ref q1, .null, .null, .int 0, .null, .null, .null, .null])), (q1, k_aI k 10 (fun _ => 0))] : va_W) H := hP
  have hD : va_D A ([(h0, .inr (2, [.int 0, .ref q1, .null, .null, .int 0, .null, .null, .null, .null])), (q1, k_aI k 10 (fun _ => 0))] : va_W) := hD
  refine lv_aload_n hx hb dX2_init_12 rfl (lv_at hl 0 rfl) ?_
  refine lv_bipush (v := 10) hx hb dX2_init_13 (by decide) ?_
  refine k_newI (N := 10) hx hb (k_w hts 4 rfl) hK hP hD hS hA (by decide) (by decide) (by decide) (Nat.le_of_ble_eq_true rfl) (Nat.le_of_ble_eq_true rfl) dX2_init_15 (fun q2 H hP hD hS => ?_)
  have hP : va_P k.1 vwCl ([(h0, .inr (2, [.int 0, .ref q1, .null, .null, .int 0, .null, .null, .null, .null])), (q1, k_aI k 10 (fun _ => 0)), (q2, k_aI k 10 (fun _ => 0))] : va_W) H := hP
  have hD : va_D A ([(h0, .inr (2, [.int 0, .ref q1, .null, .null, .int 0, .null, .null, .null, .null])), (q1, k_aI k 10 (fun _ => 0)), (q2, k_aI k 10 (fun _ => 0))] : va_W) := hD
  refine W.widen (k := 2) (n := 20) (by omega) (by omega) ?_
  refine va_putF (D := k.1) (ci := 2) (v := .ref q2) (ty := (.array .int)) (C := RX2) (T := TX2) (N := 9) hx hb hts in_X2_init_X2 tyX2 tyX2_ok nmX2 hown hK hP hD hS 0 rfl rfl 2 (by decide) (k_w hts 6 rfl) (fun _ h9 => h9) rfl hin rfl (by decide +kernel) rfl rfl (Nat.le_of_ble_eq_true rfl) dX2_init_17 (fun H locs hP hD hS => ?_)
  have hP : va_P k.1 vwCl ([(h0, .inr (2, [.int 0, .ref q1, .ref q2, .null, .int 0, .null, .null, .null, .null])), (q1, k_aI k 10 (fun _ => 0)), (q2, k_aI k 10 (fun _ => 0))] : va_W) H := hP
  have hD : va_D A ([(h0, .inr (2, [.int 0, .ref q1, .ref q2, .null, .int 0, .null, .null, .null, .null])), (q1, k_aI k 10 (fun _ => 0)), (q2, k_aI k 10 (fun _ => 0))] : va_W) := hD
  refine lv_aload_n hx hb dX2_init_20 rfl (lv_at hl 0 rfl) ?_
  refine lv_bipush (v := 10) hx hb dX2_init_21 (by decide) ?_
  refine k_newI (N := 10) hx hb (k_w hts 4 rfl) hK hP hD hS hA (by decide) (by decide) (by decide) (Nat.le_of_ble_eq_true rfl) (Nat.le_of_ble_eq_true rfl) dX2_init_23 (fun q3 H hP hD hS => ?_)
  have hP : va_P k.1 vwCl ([(h0, .inr (2, [.int 0, .ref q1, .ref q2, .null, .int 0, .null, .null, .null, .null])), (q1, k_aI k 10 (fun _ => 0)), (q2, k_aI k 10 (fun _ => 0)), (q3, k_aI k 10 (fun _ => 0))] : va_W) H := hP
  have hD : va_D A ([(h0, .inr (2, [.int 0, .ref q1, .ref q2, .null, .int 0, .null, .null, .null, .null])), (q1, k_aI k 10 (fun _ => 0)), (q2, k_aI k 10 (fun _ => 0)), (q3, k_aI k 10 (fun _ => 0))] : va_W) := hD
  refine W.widen (k := 3) (n := 30) (by omega) (by omega) ?_
  refine va_putF (D := k.1) (ci := 2) (v := .ref q3) (ty := (.array .int)) (C := RX2) (T := TX2) (N := 9) hx hb hts in_X2_init_X2 tyX2 tyX2_ok nmX2 hown hK hP hD hS 0 rfl rfl 3 (by decide) (k_w hts 7 rfl) (fun _ h9 => h9) rfl hin rfl (by decide +kernel) rfl rfl (Nat.le_of_ble_eq_true rfl) dX2_init_25 (fun H locs hP hD hS => ?_)
  have hP : va_P k.1 vwCl ([(h0, .inr (2, [.int 0, .ref q1, .ref q2, .ref q3, .int 0, .null, .null, .null, .null])), (q1, k_aI k 10 (fun _ => 0)), (q2, k_aI k 10 (fun _ => 0)), (q3, k_aI k 10 (fun _ => 0))] : va_W) H := hP
  have hD : va_D A ([(h0, .inr (2, [.int 0, .ref q1, .ref q2, .ref q3, .int 0, .null, .null, .null, .null])), (q1, k_aI k 10 (fun _ => 0)), (q2, k_aI k 10 (fun _ => 0)), (q3, k_aI k 10 (fun _ => 0))] : va_W) := hD
  refine lv_aload_n hx hb dX2_init_28 rfl (lv_at hl 0 rfl) ?_
  refine lv_bipush (v := 10) hx hb dX2_init_29 (by decide) ?_
  refine k_newI (N := 10) hx hb (k_w hts 4 rfl) hK hP hD hS hA (by decide) (by decide) (by decide) (Nat.le_of_ble_eq_true rfl) (Nat.le_of_ble_eq_true rfl) dX2_init_31 (fun q4 H hP hD hS => ?_)
  have hP : va_P k.1 vwCl ([(h0, .inr (2, [.int 0, .ref q1, .ref q2, .ref q3, .int 0, .null, .null, .null, .null])), (q1, k_aI k 10 (fun _ => 0)), (q2, k_aI k 10 (fun _ => 0)), (q3, k_aI k 10 (fun _ => 0)), (q4, k_aI k 10 (fun _ => 0))] : va_W) H := hP
  have hD : va_D A ([(h0, .inr (2, [.int 0, .ref q1, .ref q2, .ref q3, .int 0, .null, .null, .null, .null])), (q1, k_aI k 10 (fun _ => 0)), (q2, k_aI k 10 (fun _ => 0)), (q3, k_aI k 10 (fun _ => 0)), (q4, k_aI k 10 (fun _ => 0))] : va_W) := hD
  refine W.widen (k := 4) (n := 40) (by omega) (by omega) ?_
  refine va_putF (D := k.1) (ci := 2) (v := .ref q4) (ty := (.array .int)) (C := RX2) (T := TX2) (N := 9) hx hb hts in_X2_init_X2 tyX2 tyX2_ok nmX2 hown hK hP hD hS 0 rfl rfl 5 (by decide) (k_w hts 8 rfl) (fun _ h9 => h9) rfl hin rfl (by decide +kernel) rfl rfl (Nat.le_of_ble_eq_true rfl) dX2_init_33 (fun H locs hP hD hS => ?_)
  have hP : va_P k.1 vwCl ([(h0, .inr (2, [.int 0, .ref q1, .ref q2, .ref q3, .int 0, .ref q4, .null, .null, .null])), (q1, k_aI k 10 (fun _ => 0)), (q2, k_aI k 10 (fun _ => 0)), (q3, k_aI k 10 (fun _ => 0)), (q4, k_aI k 10 (fun _ => 0))] : va_W) H := hP
  have hD : va_D A ([(h0, .inr (2, [.int 0, .ref q1, .ref q2, .ref q3, .int 0, .ref q4, .null, .null, .null])), (q1, k_aI k 10 (fun _ => 0)), (q2, k_aI k 10 (fun _ => 0)), (q3, k_aI k 10 (fun _ => 0)), (q4, k_aI k 10 (fun _ => 0))] : va_W) := hD
  refine lv_aload_n hx hb dX2_init_36 rfl (lv_at hl 0 rfl) ?_
  refine lv_bipush (v := 10) hx hb dX2_init_37 (by decide) ?_
  refine k_newI (N := 10) hx hb (k_w hts 4 rfl) hK hP hD hS hA (by decide) (by decide) (by decide) (Nat.le_of_ble_eq_true rfl) (Nat.le_of_ble_eq_true rfl) dX2_init_39 (fun q5 H hP hD hS => ?_)
  have hP : va_P k.1 vwCl ([(h0, .inr (2, [.int 0, .ref q1, .ref q2, .ref q3, .int 0, .ref q4, .null, .null, .null])), (q1, k_aI k 10 (fun _ => 0)), (q2, k_aI k 10 (fun _ => 0)), (q3, k_aI k 10 (fun _ => 0)), (q4, k_aI k 10 (fun _ => 0)), (q5, k_aI k 10 (fun _ => 0))] : va_W) H := hP
  have hD : va_D A ([(h0, .inr (2, [.int 0, .ref q1, .ref q2, .ref q3, .int 0, .ref q4, .null, .null, .null])), (q1, k_aI k 10 (fun _ => 0)), (q2, k_aI k 10 (fun _ => 0)), (q3, k_aI k 10 (fun _ => 0)), (q4, k_aI k 10 (fun _ => 0)), (q5, k_aI k 10 (fun _ => 0))] : va_W) := hD
  refine W.widen (k := 5) (n := 50) (by omega) (by omega) ?_
  refine va_putF (D := k.1) (ci := 2) (v := .ref q5) (ty := (.array .int)) (C := RX2) (T := TX2) (N := 9) hx hb hts in_X2_init_X2 tyX2 tyX2_ok nmX2 hown hK hP hD hS 0 rfl rfl 6 (by decide) (k_w hts 9 rfl) (fun _ h9 => h9) rfl hin rfl (by decide +kernel) rfl rfl (Nat.le_of_ble_eq_true rfl) dX2_init_41 (fun H locs hP hD hS => ?_)
  have hP : va_P k.1 vwCl ([(h0, .inr (2, [.int 0, .ref q1, .ref q2, .ref q3, .int 0, .ref q4, .ref q5, .null, .null])), (q1, k_aI k 10 (fun _ => 0)), (q2, k_aI k 10 (fun _ => 0)), (q3, k_aI k 10 (fun _ => 0)), (q4, k_aI k 10 (fun _ => 0)), (q5, k_aI k 10 (fun _ => 0))] : va_W) H := hP
  have hD : va_D A ([(h0, .inr (2, [.int 0, .ref q1, .ref q2, .ref q3, .int 0, .ref q4, .ref q5, .null, .null])), (q1, k_aI k 10 (fun _ => 0)), (q2, k_aI k 10 (fun _ => 0)), (q3, k_aI k 10 (fun _ => 0)), (q4, k_aI k 10 (fun _ => 0)), (q5, k_aI k 10 (fun _ => 0))] : va_W) := hD
  refine lv_aload_n hx hb dX2_init_44 rfl (lv_at hl 0 rfl) ?_
  refine lv_bipush (v := 10) hx hb dX2_init_45 (by decide) ?_
  refine lv_bipush (v := 10) hx hb dX2_init_47 (by decide) ?_
  have hP : va_P k.1 vwCl ([(h0, .inr (2, [.int 0, .ref q1, .ref q2, .ref q3, .int 0, .ref q4, .ref q5, .null, .null])), (q1, k_aI k 10 (fun _ => 0)), (q2, k_aI k 10 (fun _ => 0)), (q3, k_aI k 10 (fun _ => 0)), (q4, k_aI k 10 (fun _ => 0)), (q5, k_aI k 10 (fun _ => 0))] ++ va_pl [] (fun _ => k_aI k 10 (fun _ => 0))) H := by
    rw [show va_pl [] (fun _ => k_aI k 10 (fun _ => 0)) = [] from rfl, List.append_nil]; exact hP
  have hD : va_D A ([(h0, .inr (2, [.int 0, .ref q1, .ref q2, .ref q3, .int 0, .ref q4, .ref q5, .null, .null])), (q1, k_aI k 10 (fun _ => 0)), (q2, k_aI k 10 (fun _ => 0)), (q3, k_aI k 10 (fun _ => 0)), (q4, k_aI k 10 (fun _ => 0)), (q5, k_aI k 10 (fun _ => 0))] ++ va_pl [] (fun _ => k_aI k 10 (fun _ => 0))) := by
    rw [show va_pl [] (fun _ => k_aI k 10 (fun _ => 0)) = [] from rfl, List.append_nil]; exact hD
  refine va_mna (N' := 10) (K' := 10) (z := (10, .inl (fun _ => 0))) (cy := k.2.1) hx hb hown (k_w hts 10 rfl) hAO (k_w hts 4 rfl) (va_nm_int (hK.2 0 _ rfl).2) hK hP hD hS hA (by decide) (by decide) (by decide) (by decide) (by decide) (by decide) (Nat.le_of_ble_eq_true rfl) (Nat.le_of_ble_eq_true rfl) (fun c9 => k_inner c9) dX2_init_49 (fun qh r cA H _ _ hK9 hP hD hS => ?_)
  have e3 : cA = k.2.2.2.2 := by
    have e1 := (hK9.2 4 _ rfl).2
    have e2 := (hK.2 3 _ rfl).2
    exact Option.some.inj (e1.symm.trans e2)
  subst e3
  rw [k_rows] at hP hD
  have hP : va_P k.1 vwCl ([(h0, .inr (2, [.int 0, .ref q1, .ref q2, .ref q3, .int 0, .ref q4, .ref q5, .null, .null])), (q1, k_aI k 10 (fun _ => 0)), (q2, k_aI k 10 (fun _ => 0)), (q3, k_aI k 10 (fun _ => 0)), (q4, k_aI k 10 (fun _ => 0)), (q5, k_aI k 10 (fun _ => 0)), (qh, .inl (k.2.2.2.2, 10, .inr (.inr (.inr (.inr (fun i => if i < 10 then some (r i) else none)))))), ((r 0), k_aI k 10 (fun _ => 0)), ((r 1), k_aI k 10 (fun _ => 0)), ((r 2), k_aI k 10 (fun _ => 0)), ((r 3), k_aI k 10 (fun _ => 0)), ((r 4), k_aI k 10 (fun _ => 0)), ((r 5), k_aI k 10 (fun _ => 0)), ((r 6), k_aI k 10 (fun _ => 0)), ((r 7), k_aI k 10 (fun _ => 0)), ((r 8), k_aI k 10 (fun _ => 0)), ((r 9), k_aI k 10 (fun _ => 0))] : va_W) H := hP
  have hD : va_D A ([(h0, .inr (2, [.int 0, .ref q1, .ref q2, .ref q3, .int 0, .ref q4, .ref q5, .null, .null])), (q1, k_aI k 10 (fun _ => 0)), (q2, k_aI k 10 (fun _ => 0)), (q3, k_aI k 10 (fun _ => 0)), (q4, k_aI k 10 (fun _ => 0)), (q5, k_aI k 10 (fun _ => 0)), (qh, .inl (k.2.2.2.2, 10, .inr (.inr (.inr (.inr (fun i => if i < 10 then some (r i) else none)))))), ((r 0), k_aI k 10 (fun _ => 0)), ((r 1), k_aI k 10 (fun _ => 0)), ((r 2), k_aI k 10 (fun _ => 0)), ((r 3), k_aI k 10 (fun _ => 0)), ((r 4), k_aI k 10 (fun _ => 0)), ((r 5), k_aI k 10 (fun _ => 0)), ((r 6), k_aI k 10 (fun _ => 0)), ((r 7), k_aI k 10 (fun _ => 0)), ((r 8), k_aI k 10 (fun _ => 0)), ((r 9), k_aI k 10 (fun _ => 0))] : va_W) := hD
  refine W.widen (k := 16) (n := 160) (by omega) (by omega) ?_
  refine va_putF (D := k.1) (ci := 2) (v := .ref qh) (ty := (.array (.array .int))) (C := RX2) (T := TX2) (N := 9) hx hb hts in_X2_init_X2 tyX2 tyX2_ok nmX2 hown hK hP hD hS 0 rfl rfl 7 (by decide) (k_w hts 11 rfl) (fun _ h9 => h9) rfl hin rfl (by decide +kernel) rfl rfl (Nat.le_of_ble_eq_true rfl) dX2_init_53 (fun H locs hP hD hS => ?_)
  have hP : va_P k.1 vwCl ([(h0, .inr (2, [.int 0, .ref q1, .ref q2, .ref q3, .int 0, .ref q4, .ref q5, .ref qh, .null])), (q1, k_aI k 10 (fun _ => 0)), (q2, k_aI k 10 (fun _ => 0)), (q3, k_aI k 10 (fun _ => 0)), (q4, k_aI k 10 (fun _ => 0)), (q5, k_aI k 10 (fun _ => 0)), (qh, .inl (k.2.2.2.2, 10, .inr (.inr (.inr (.inr (fun i => if i < 10 then some (r i) else none)))))), ((r 0), k_aI k 10 (fun _ => 0)), ((r 1), k_aI k 10 (fun _ => 0)), ((r 2), k_aI k 10 (fun _ => 0)), ((r 3), k_aI k 10 (fun _ => 0)), ((r 4), k_aI k 10 (fun _ => 0)), ((r 5), k_aI k 10 (fun _ => 0)), ((r 6), k_aI k 10 (fun _ => 0)), ((r 7), k_aI k 10 (fun _ => 0)), ((r 8), k_aI k 10 (fun _ => 0)), ((r 9), k_aI k 10 (fun _ => 0))] : va_W) H := hP
  have hD : va_D A ([(h0, .inr (2, [.int 0, .ref q1, .ref q2, .ref q3, .int 0, .ref q4, .ref q5, .ref qh, .null])), (q1, k_aI k 10 (fun _ => 0)), (q2, k_aI k 10 (fun _ => 0)), (q3, k_aI k 10 (fun _ => 0)), (q4, k_aI k 10 (fun _ => 0)), (q5, k_aI k 10 (fun _ => 0)), (qh, .inl (k.2.2.2.2, 10, .inr (.inr (.inr (.inr (fun i => if i < 10 then some (r i) else none)))))), ((r 0), k_aI k 10 (fun _ => 0)), ((r 1), k_aI k 10 (fun _ => 0)), ((r 2), k_aI k 10 (fun _ => 0)), ((r 3), k_aI k 10 (fun _ => 0)), ((r 4), k_aI k 10 (fun _ => 0)), ((r 5), k_aI k 10 (fun _ => 0)), ((r 6), k_aI k 10 (fun _ => 0)), ((r 7), k_aI k 10 (fun _ => 0)), ((r 8), k_aI k 10 (fun _ => 0)), ((r 9), k_aI k 10 (fun _ => 0))] : va_W) := hD
  refine lv_aload_n hx hb dX2_init_56 rfl (lv_at hl 0 rfl) ?_
  refine lv_bipush (v := 10) hx hb dX2_init_57 (by decide) ?_
  refine k_newI (N := 10) hx hb (k_w hts 4 rfl) hK hP hD hS hA (by decide) (by decide) (by decide) (Nat.le_of_ble_eq_true rfl) (Nat.le_of_ble_eq_true rfl) dX2_init_59 (fun q6 H hP hD hS => ?_)
  have hP : va_P k.1 vwCl ([(h0, .inr (2, [.int 0, .ref q1, .ref q2, .ref q3, .int 0, .ref q4, .ref q5, .ref qh, .null])), (q1, k_aI k 10 (fun _ => 0)), (q2, k_aI k 10 (fun _ => 0)), (q3, k_aI k 10 (fun _ => 0)), (q4, k_aI k 10 (fun _ => 0)), (q5, k_aI k 10 (fun _ => 0)), (qh, .inl (k.2.2.2.2, 10, .inr (.inr (.inr (.inr (fun i => if i < 10 then some (r i) else none)))))), ((r 0), k_aI k 10 (fun _ => 0)), ((r 1), k_aI k 10 (fun _ => 0)), ((r 2), k_aI k 10 (fun _ => 0)), ((r 3), k_aI k 10 (fun _ => 0)), ((r 4), k_aI k 10 (fun _ => 0)), ((r 5), k_aI k 10 (fun _ => 0)), ((r 6), k_aI k 10 (fun _ => 0)), ((r 7), k_aI k 10 (fun _ => 0)), ((r 8), k_aI k 10 (fun _ => 0)), ((r 9), k_aI k 10 (fun _ => 0)), (q6, k_aI k 10 (fun _ => 0))] : va_W) H := hP
  have hD : va_D A ([(h0, .inr (2, [.int 0, .ref q1, .ref q2, .ref q3, .int 0, .ref q4, .ref q5, .ref qh, .null])), (q1, k_aI k 10 (fun _ => 0)), (q2, k_aI k 10 (fun _ => 0)), (q3, k_aI k 10 (fun _ => 0)), (q4, k_aI k 10 (fun _ => 0)), (q5, k_aI k 10 (fun _ => 0)), (qh, .inl (k.2.2.2.2, 10, .inr (.inr (.inr (.inr (fun i => if i < 10 then some (r i) else none)))))), ((r 0), k_aI k 10 (fun _ => 0)), ((r 1), k_aI k 10 (fun _ => 0)), ((r 2), k_aI k 10 (fun _ => 0)), ((r 3), k_aI k 10 (fun _ => 0)), ((r 4), k_aI k 10 (fun _ => 0)), ((r 5), k_aI k 10 (fun _ => 0)), ((r 6), k_aI k 10 (fun _ => 0)), ((r 7), k_aI k 10 (fun _ => 0)), ((r 8), k_aI k 10 (fun _ => 0)), ((r 9), k_aI k 10 (fun _ => 0)), (q6, k_aI k 10 (fun _ => 0))] : va_W) := hD
  refine W.widen (k := 17) (n := 170) (by omega) (by omega) ?_
  refine va_putF (D := k.1) (ci := 2) (v := .ref q6) (ty := (.array .int)) (C := RX2) (T := TX2) (N := 9) hx hb hts in_X2_init_X2 tyX2 tyX2_ok nmX2 hown hK hP hD hS 0 rfl rfl 8 (by decide) (k_w hts 12 rfl) (fun _ h9 => h9) rfl hin rfl (by decide +kernel) rfl rfl (Nat.le_of_ble_eq_true rfl) dX2_init_61 (fun H locs hP hD hS => ?_)
  have hP : va_P k.1 vwCl ([(h0, .inr (2, [.int 0, .ref q1, .ref q2, .ref q3, .int 0, .ref q4, .ref q5, .ref qh, .ref q6])), (q1, k_aI k 10 (fun _ => 0)), (q2, k_aI k 10 (fun _ => 0)), (q3, k_aI k 10 (fun _ => 0)), (q4, k_aI k 10 (fun _ => 0)), (q5, k_aI k 10 (fun _ => 0)), (qh, .inl (k.2.2.2.2, 10, .inr (.inr (.inr (.inr (fun i => if i < 10 then some (r i) else none)))))), ((r 0), k_aI k 10 (fun _ => 0)), ((r 1), k_aI k 10 (fun _ => 0)), ((r 2), k_aI k 10 (fun _ => 0)), ((r 3), k_aI k 10 (fun _ => 0)), ((r 4), k_aI k 10 (fun _ => 0)), ((r 5), k_aI k 10 (fun _ => 0)), ((r 6), k_aI k 10 (fun _ => 0)), ((r 7), k_aI k 10 (fun _ => 0)), ((r 8), k_aI k 10 (fun _ => 0)), ((r 9), k_aI k 10 (fun _ => 0)), (q6, k_aI k 10 (fun _ => 0))] : va_W) H := hP
  have hD : va_D A ([(h0, .inr (2, [.int 0, .ref q1, .ref q2, .ref q3, .int 0, .ref q4, .ref q5, .ref qh, .ref q6])), (q1, k_aI k 10 (fun _ => 0)), (q2, k_aI k 10 (fun _ => 0)), (q3, k_aI k 10 (fun _ => 0)), (q4, k_aI k 10 (fun _ => 0)), (q5, k_aI k 10 (fun _ => 0)), (qh, .inl (k.2.2.2.2, 10, .inr (.inr (.inr (.inr (fun i => if i < 10 then some (r i) else none)))))), ((r 0), k_aI k 10 (fun _ => 0)), ((r 1), k_aI k 10 (fun _ => 0)), ((r 2), k_aI k 10 (fun _ => 0)), ((r 3), k_aI k 10 (fun _ => 0)), ((r 4), k_aI k 10 (fun _ => 0)), ((r 5), k_aI k 10 (fun _ => 0)), ((r 6), k_aI k 10 (fun _ => 0)), ((r 7), k_aI k 10 (fun _ => 0)), ((r 8), k_aI k 10 (fun _ => 0)), ((r 9), k_aI k 10 (fun _ => 0)), (q6, k_aI k 10 (fun _ => 0))] : va_W) := hD
  have hP9 : va_P k.1 vwCl (w_P k (k_ap h0 q1 q2 q3 q4 q5 qh q6 r) (fun _ _ => 0)) H := k_subP (is := [0, 1, 2, 3, 4, 5, 6, 17, 7, 8, 9, 10, 11, 12, 13, 14, 15, 16]) hP (k_pblk h0 q1 q2 q3 q4 q5 qh q6 r)
  have hD9 : va_D A (w_P k (k_ap h0 q1 q2 q3 q4 q5 qh q6 r) (fun _ _ => 0)) := hD.sub [0, 1, 2, 3, 4, 5, 6, 17, 7, 8, 9, 10, 11, 12, 13, 14, 15, 16] rfl (k_pblk h0 q1 q2 q3 q4 q5 qh q6 r)
  exact W.vret hx hb hr (fun t ht hW => ⟨⟨(k_ap h0 q1 q2 q3 q4 q5 qh q6 r), rfl, rfl, by rw [ht]; exact hP9, va_K.moved hW.alike hK, hD9⟩, hS.F ht⟩) hS.2.2 dX2_init_64
theorem in_X0_init_X0 : ∀ w ∈ wsX00, w ∈ wsX0_init := fun _ h => List.mem_cons_of_mem _ (List.mem_append_left _ (List.mem_append_right _ h))
theorem in_X0_init_X1 : ∀ w ∈ wsX10, w ∈ wsX0_init := fun _ h => List.mem_cons_of_mem _ (List.mem_append_right _ h)
set_option maxHeartbeats 4000000 in
set_option maxRecDepth 100000 in
theorem c_X0_init (l : Launch) (k : K_X) (h0 p0 n : Nat) (al : Nat → Nat) (sL : Nat → Nat → Int32) : k_N (S := Nat → Nat) l yX0_init wsX0_init ({ frames := 2, cells := 5, slots := 50, locals := 43 }) k [.ref h0, .ref p0, .ref (al 0)] ([(h0, .inr (0, [.null, .null, .int 0, .null, .null, .null, .null, .null])), ((al 0), .inr (1, [.int (nI n), .ref (al 1), .int (sL 0 0)])), ((al 1), k_aI k (n * 6) (sL 1))] : va_W) (fun a => a 0 = h0) (fun a => w_F k a p0 (al 0) (f_X0_startAnew (fun _ _ => 0) sL).1 ++ w_L k al n (f_X0_startAnew (fun _ _ => 0) sL).2) 5 50 := by
  refine k_mkN (cc := cX0_init) (maxL := 3) (by decide) rfl (Nat.le_of_ble_eq_true rfl) ?_
  intro p e s m below meth c A ls C0 hAO hin hP hD hS hl
  obtain ⟨hx, hb, hr, hts, hown, hlocks, hml, hA, hK⟩ := id C0
  have hown : s.vm.findClass RX0 = some m.cls := hown
  have hl : lv_has ls 3 [(0, .ref h0), (1, .ref p0), (2, .ref (al 0))] := hl
  refine lv_aload_n hx hb dX0_init_0 rfl (lv_at hl 0 rfl) ?_
  refine W.objInit hx hb hown (k_w hts 1 rfl) (k_w hts 2 rfl) (k_w hts 3 rfl) rfl (by rw [hml]; exact hl.1) rfl dX0_init_1 (Nat.le_of_ble_eq_true rfl) (Nat.le_of_ble_eq_true rfl) ?_
  refine W.eq (g2 := F0 m 4 ls []) rfl ?_
  refine lv_aload_n hx hb dX0_init_4 rfl (lv_at hl 0 rfl) ?_
  refine lv_aload_n hx hb dX0_init_5 rfl (lv_at hl 1 rfl) ?_
  refine va_putF (D := k.1) (ci := 0) (v := .ref p0) (ty := (.object "HiringFairs$People")) (C := RX0) (T := TX0) (N := 8) hx hb hts in_X0_init_X0 tyX0 tyX0_ok nmX0 hown hK hP hD hS 0 rfl rfl 0 (by decide) (k_w hts 4 rfl) (fun _ h9 => h9) rfl hin rfl (by decide +kernel) rfl rfl (Nat.le_of_ble_eq_true rfl) dX0_init_6 (fun H locs hP hD hS => ?_)
  have hP : va_P k.1 vwCl ([(h0, .inr (0, [.ref p0, .null, .int 0, .null, .null, .null, .null, .null])), ((al 0), .inr (1, [.int (nI n), .ref (al 1), .int (sL 0 0)])), ((al 1), k_aI k (n * 6) (sL 1))] : va_W) H := hP
  have hD : va_D A ([(h0, .inr (0, [.ref p0, .null, .int 0, .null, .null, .null, .null, .null])), ((al 0), .inr (1, [.int (nI n), .ref (al 1), .int (sL 0 0)])), ((al 1), k_aI k (n * 6) (sL 1))] : va_W) := hD
  refine lv_aload_n hx hb dX0_init_9 rfl (lv_at hl 0 rfl) ?_
  refine lv_aload_n hx hb dX0_init_10 rfl (lv_at hl 2 rfl) ?_
  refine va_putF (D := k.1) (ci := 0) (v := .ref (al 0)) (ty := (.object "HiringFairs$Ledger")) (C := RX0) (T := TX0) (N := 8) hx hb hts in_X0_init_X0 tyX0 tyX0_ok nmX0 hown hK hP hD hS 0 rfl rfl 1 (by decide) (k_w hts 5 rfl) (fun _ h9 => h9) rfl hin rfl (by decide +kernel) rfl rfl (Nat.le_of_ble_eq_true rfl) dX0_init_11 (fun H locs hP hD hS => ?_)
  have hP : va_P k.1 vwCl ([(h0, .inr (0, [.ref p0, .ref (al 0), .int 0, .null, .null, .null, .null, .null])), ((al 0), .inr (1, [.int (nI n), .ref (al 1), .int (sL 0 0)])), ((al 1), k_aI k (n * 6) (sL 1))] : va_W) H := hP
  have hD : va_D A ([(h0, .inr (0, [.ref p0, .ref (al 0), .int 0, .null, .null, .null, .null, .null])), ((al 0), .inr (1, [.int (nI n), .ref (al 1), .int (sL 0 0)])), ((al 1), k_aI k (n * 6) (sL 1))] : va_W) := hD
  refine lv_aload_n hx hb dX0_init_14 rfl (lv_at hl 0 rfl) ?_
  refine lv_bipush (v := 10) hx hb dX0_init_15 (by decide) ?_
  refine k_newI (N := 10) hx hb (k_w hts 6 rfl) hK hP hD hS hA (by decide) (by decide) (by decide) (Nat.le_of_ble_eq_true rfl) (Nat.le_of_ble_eq_true rfl) dX0_init_17 (fun q1 H hP hD hS => ?_)
  have hP : va_P k.1 vwCl ([(h0, .inr (0, [.ref p0, .ref (al 0), .int 0, .null, .null, .null, .null, .null])), ((al 0), .inr (1, [.int (nI n), .ref (al 1), .int (sL 0 0)])), ((al 1), k_aI k (n * 6) (sL 1)), (q1, k_aI k 10 (fun _ => 0))] : va_W) H := hP
  have hD : va_D A ([(h0, .inr (0, [.ref p0, .ref (al 0), .int 0, .null, .null, .null, .null, .null])), ((al 0), .inr (1, [.int (nI n), .ref (al 1), .int (sL 0 0)])), ((al 1), k_aI k (n * 6) (sL 1)), (q1, k_aI k 10 (fun _ => 0))] : va_W) := hD
  refine W.widen (k := 1) (n := 10) (by omega) (by omega) ?_
  refine va_putF (D := k.1) (ci := 0) (v := .ref q1) (ty := (.array .int)) (C := RX0) (T := TX0) (N := 8) hx hb hts in_X0_init_X0 tyX0 tyX0_ok nmX0 hown hK hP hD hS 0 rfl rfl 3 (by decide) (k_w hts 7 rfl) (fun _ h9 => h9) rfl hin rfl (by decide +kernel) rfl rfl (Nat.le_of_ble_eq_true rfl) dX0_init_19 (fun H locs hP hD hS => ?_)
  have hP : va_P k.1 vwCl ([(h0, .inr (0, [.ref p0, .ref (al 0), .int 0, .ref q1, .null, .null, .null, .null])), ((al 0), .inr (1, [.int (nI n), .ref (al 1), .int (sL 0 0)])), ((al 1), k_aI k (n * 6) (sL 1)), (q1, k_aI k 10 (fun _ => 0))] : va_W) H := hP
  have hD : va_D A ([(h0, .inr (0, [.ref p0, .ref (al 0), .int 0, .ref q1, .null, .null, .null, .null])), ((al 0), .inr (1, [.int (nI n), .ref (al 1), .int (sL 0 0)])), ((al 1), k_aI k (n * 6) (sL 1)), (q1, k_aI k 10 (fun _ => 0))] : va_W) := hD
  refine lv_aload_n hx hb dX0_init_22 rfl (lv_at hl 0 rfl) ?_
  refine lv_bipush (v := 10) hx hb dX0_init_23 (by decide) ?_
  refine k_newI (N := 10) hx hb (k_w hts 6 rfl) hK hP hD hS hA (by decide) (by decide) (by decide) (Nat.le_of_ble_eq_true rfl) (Nat.le_of_ble_eq_true rfl) dX0_init_25 (fun q2 H hP hD hS => ?_)
  have hP : va_P k.1 vwCl ([(h0, .inr (0, [.ref p0, .ref (al 0), .int 0, .ref q1, .null, .null, .null, .null])), ((al 0), .inr (1, [.int (nI n), .ref (al 1), .int (sL 0 0)])), ((al 1), k_aI k (n * 6) (sL 1)), (q1, k_aI k 10 (fun _ => 0)), (q2, k_aI k 10 (fun _ => 0))] : va_W) H := hP
  have hD : va_D A ([(h0, .inr (0, [.ref p0, .ref (al 0), .int 0, .ref q1, .null, .null, .null, .null])), ((al 0), .inr (1, [.int (nI n), .ref (al 1), .int (sL 0 0)])), ((al 1), k_aI k (n * 6) (sL 1)), (q1, k_aI k 10 (fun _ => 0)), (q2, k_aI k 10 (fun _ => 0))] : va_W) := hD
  refine W.widen (k := 2) (n := 20) (by omega) (by omega) ?_
  refine va_putF (D := k.1) (ci := 0) (v := .ref q2) (ty := (.array .int)) (C := RX0) (T := TX0) (N := 8) hx hb hts in_X0_init_X0 tyX0 tyX0_ok nmX0 hown hK hP hD hS 0 rfl rfl 4 (by decide) (k_w hts 8 rfl) (fun _ h9 => h9) rfl hin rfl (by decide +kernel) rfl rfl (Nat.le_of_ble_eq_true rfl) dX0_init_27 (fun H locs hP hD hS => ?_)
  have hP : va_P k.1 vwCl ([(h0, .inr (0, [.ref p0, .ref (al 0), .int 0, .ref q1, .ref q2, .null, .null, .null])), ((al 0), .inr (1, [.int (nI n), .ref (al 1), .int (sL 0 0)])), ((al 1), k_aI k (n * 6) (sL 1)), (q1, k_aI k 10 (fun _ => 0)), (q2, k_aI k 10 (fun _ => 0))] : va_W) H := hP
  have hD : va_D A ([(h0, .inr (0, [.ref p0, .ref (al 0), .int 0, .ref q1, .ref q2, .null, .null, .null])), ((al 0), .inr (1, [.int (nI n), .ref (al 1), .int (sL 0 0)])), ((al 1), k_aI k (n * 6) (sL 1)), (q1, k_aI k 10 (fun _ => 0)), (q2, k_aI k 10 (fun _ => 0))] : va_W) := hD
  refine lv_aload_n hx hb dX0_init_30 rfl (lv_at hl 0 rfl) ?_
  refine lv_bipush (v := 10) hx hb dX0_init_31 (by decide) ?_
  refine k_newI (N := 10) hx hb (k_w hts 6 rfl) hK hP hD hS hA (by decide) (by decide) (by decide) (Nat.le_of_ble_eq_true rfl) (Nat.le_of_ble_eq_true rfl) dX0_init_33 (fun q3 H hP hD hS => ?_)
  have hP : va_P k.1 vwCl ([(h0, .inr (0, [.ref p0, .ref (al 0), .int 0, .ref q1, .ref q2, .null, .null, .null])), ((al 0), .inr (1, [.int (nI n), .ref (al 1), .int (sL 0 0)])), ((al 1), k_aI k (n * 6) (sL 1)), (q1, k_aI k 10 (fun _ => 0)), (q2, k_aI k 10 (fun _ => 0)), (q3, k_aI k 10 (fun _ => 0))] : va_W) H := hP
  have hD : va_D A ([(h0, .inr (0, [.ref p0, .ref (al 0), .int 0, .ref q1, .ref q2, .null, .null, .null])), ((al 0), .inr (1, [.int (nI n), .ref (al 1), .int (sL 0 0)])), ((al 1), k_aI k (n * 6) (sL 1)), (q1, k_aI k 10 (fun _ => 0)), (q2, k_aI k 10 (fun _ => 0)), (q3, k_aI k 10 (fun _ => 0))] : va_W) := hD
  refine W.widen (k := 3) (n := 30) (by omega) (by omega) ?_
  refine va_putF (D := k.1) (ci := 0) (v := .ref q3) (ty := (.array .int)) (C := RX0) (T := TX0) (N := 8) hx hb hts in_X0_init_X0 tyX0 tyX0_ok nmX0 hown hK hP hD hS 0 rfl rfl 5 (by decide) (k_w hts 9 rfl) (fun _ h9 => h9) rfl hin rfl (by decide +kernel) rfl rfl (Nat.le_of_ble_eq_true rfl) dX0_init_35 (fun H locs hP hD hS => ?_)
  have hP : va_P k.1 vwCl ([(h0, .inr (0, [.ref p0, .ref (al 0), .int 0, .ref q1, .ref q2, .ref q3, .null, .null])), ((al 0), .inr (1, [.int (nI n), .ref (al 1), .int (sL 0 0)])), ((al 1), k_aI k (n * 6) (sL 1)), (q1, k_aI k 10 (fun _ => 0)), (q2, k_aI k 10 (fun _ => 0)), (q3, k_aI k 10 (fun _ => 0))] : va_W) H := hP
  have hD : va_D A ([(h0, .inr (0, [.ref p0, .ref (al 0), .int 0, .ref q1, .ref q2, .ref q3, .null, .null])), ((al 0), .inr (1, [.int (nI n), .ref (al 1), .int (sL 0 0)])), ((al 1), k_aI k (n * 6) (sL 1)), (q1, k_aI k 10 (fun _ => 0)), (q2, k_aI k 10 (fun _ => 0)), (q3, k_aI k 10 (fun _ => 0))] : va_W) := hD
  refine lv_aload_n hx hb dX0_init_38 rfl (lv_at hl 0 rfl) ?_
  refine lv_bipush (v := 10) hx hb dX0_init_39 (by decide) ?_
  refine k_newI (N := 10) hx hb (k_w hts 6 rfl) hK hP hD hS hA (by decide) (by decide) (by decide) (Nat.le_of_ble_eq_true rfl) (Nat.le_of_ble_eq_true rfl) dX0_init_41 (fun q4 H hP hD hS => ?_)
  have hP : va_P k.1 vwCl ([(h0, .inr (0, [.ref p0, .ref (al 0), .int 0, .ref q1, .ref q2, .ref q3, .null, .null])), ((al 0), .inr (1, [.int (nI n), .ref (al 1), .int (sL 0 0)])), ((al 1), k_aI k (n * 6) (sL 1)), (q1, k_aI k 10 (fun _ => 0)), (q2, k_aI k 10 (fun _ => 0)), (q3, k_aI k 10 (fun _ => 0)), (q4, k_aI k 10 (fun _ => 0))] : va_W) H := hP
  have hD : va_D A ([(h0, .inr (0, [.ref p0, .ref (al 0), .int 0, .ref q1, .ref q2, .ref q3, .null, .null])), ((al 0), .inr (1, [.int (nI n), .ref (al 1), .int (sL 0 0)])), ((al 1), k_aI k (n * 6) (sL 1)), (q1, k_aI k 10 (fun _ => 0)), (q2, k_aI k 10 (fun _ => 0)), (q3, k_aI k 10 (fun _ => 0)), (q4, k_aI k 10 (fun _ => 0))] : va_W) := hD
  refine W.widen (k := 4) (n := 40) (by omega) (by omega) ?_
  refine va_putF (D := k.1) (ci := 0) (v := .ref q4) (ty := (.array .int)) (C := RX0) (T := TX0) (N := 8) hx hb hts in_X0_init_X0 tyX0 tyX0_ok nmX0 hown hK hP hD hS 0 rfl rfl 6 (by decide) (k_w hts 10 rfl) (fun _ h9 => h9) rfl hin rfl (by decide +kernel) rfl rfl (Nat.le_of_ble_eq_true rfl) dX0_init_43 (fun H locs hP hD hS => ?_)
  have hP : va_P k.1 vwCl ([(h0, .inr (0, [.ref p0, .ref (al 0), .int 0, .ref q1, .ref q2, .ref q3, .ref q4, .null])), ((al 0), .inr (1, [.int (nI n), .ref (al 1), .int (sL 0 0)])), ((al 1), k_aI k (n * 6) (sL 1)), (q1, k_aI k 10 (fun _ => 0)), (q2, k_aI k 10 (fun _ => 0)), (q3, k_aI k 10 (fun _ => 0)), (q4, k_aI k 10 (fun _ => 0))] : va_W) H := hP
  have hD : va_D A ([(h0, .inr (0, [.ref p0, .ref (al 0), .int 0, .ref q1, .ref q2, .ref q3, .ref q4, .null])), ((al 0), .inr (1, [.int (nI n), .ref (al 1), .int (sL 0 0)])), ((al 1), k_aI k (n * 6) (sL 1)), (q1, k_aI k 10 (fun _ => 0)), (q2, k_aI k 10 (fun _ => 0)), (q3, k_aI k 10 (fun _ => 0)), (q4, k_aI k 10 (fun _ => 0))] : va_W) := hD
  refine lv_aload_n hx hb dX0_init_46 rfl (lv_at hl 0 rfl) ?_
  refine lv_bipush (v := 10) hx hb dX0_init_47 (by decide) ?_
  refine k_newI (N := 10) hx hb (k_w hts 6 rfl) hK hP hD hS hA (by decide) (by decide) (by decide) (Nat.le_of_ble_eq_true rfl) (Nat.le_of_ble_eq_true rfl) dX0_init_49 (fun q5 H hP hD hS => ?_)
  have hP : va_P k.1 vwCl ([(h0, .inr (0, [.ref p0, .ref (al 0), .int 0, .ref q1, .ref q2, .ref q3, .ref q4, .null])), ((al 0), .inr (1, [.int (nI n), .ref (al 1), .int (sL 0 0)])), ((al 1), k_aI k (n * 6) (sL 1)), (q1, k_aI k 10 (fun _ => 0)), (q2, k_aI k 10 (fun _ => 0)), (q3, k_aI k 10 (fun _ => 0)), (q4, k_aI k 10 (fun _ => 0)), (q5, k_aI k 10 (fun _ => 0))] : va_W) H := hP
  have hD : va_D A ([(h0, .inr (0, [.ref p0, .ref (al 0), .int 0, .ref q1, .ref q2, .ref q3, .ref q4, .null])), ((al 0), .inr (1, [.int (nI n), .ref (al 1), .int (sL 0 0)])), ((al 1), k_aI k (n * 6) (sL 1)), (q1, k_aI k 10 (fun _ => 0)), (q2, k_aI k 10 (fun _ => 0)), (q3, k_aI k 10 (fun _ => 0)), (q4, k_aI k 10 (fun _ => 0)), (q5, k_aI k 10 (fun _ => 0))] : va_W) := hD
  refine W.widen (k := 5) (n := 50) (by omega) (by omega) ?_
  refine va_putF (D := k.1) (ci := 0) (v := .ref q5) (ty := (.array .int)) (C := RX0) (T := TX0) (N := 8) hx hb hts in_X0_init_X0 tyX0 tyX0_ok nmX0 hown hK hP hD hS 0 rfl rfl 7 (by decide) (k_w hts 11 rfl) (fun _ h9 => h9) rfl hin rfl (by decide +kernel) rfl rfl (Nat.le_of_ble_eq_true rfl) dX0_init_51 (fun H locs hP hD hS => ?_)
  have hP : va_P k.1 vwCl ([(h0, .inr (0, [.ref p0, .ref (al 0), .int 0, .ref q1, .ref q2, .ref q3, .ref q4, .ref q5])), ((al 0), .inr (1, [.int (nI n), .ref (al 1), .int (sL 0 0)])), ((al 1), k_aI k (n * 6) (sL 1)), (q1, k_aI k 10 (fun _ => 0)), (q2, k_aI k 10 (fun _ => 0)), (q3, k_aI k 10 (fun _ => 0)), (q4, k_aI k 10 (fun _ => 0)), (q5, k_aI k 10 (fun _ => 0))] : va_W) H := hP
  have hD : va_D A ([(h0, .inr (0, [.ref p0, .ref (al 0), .int 0, .ref q1, .ref q2, .ref q3, .ref q4, .ref q5])), ((al 0), .inr (1, [.int (nI n), .ref (al 1), .int (sL 0 0)])), ((al 1), k_aI k (n * 6) (sL 1)), (q1, k_aI k 10 (fun _ => 0)), (q2, k_aI k 10 (fun _ => 0)), (q3, k_aI k 10 (fun _ => 0)), (q4, k_aI k 10 (fun _ => 0)), (q5, k_aI k 10 (fun _ => 0))] : va_W) := hD
  refine lv_aload_n hx hb dX0_init_54 rfl (lv_at hl 0 rfl) ?_
  refine k_Vv (wr := ([] : va_W)) (ws' := w_F k (k_st (k_st (k_st (k_st (k_st (k_st (fun _ => 0) 0 h0) 1 q1) 2 q2) 3 q3) 4 q4) 5 q5) p0 (al 0) (f_X0_startAnew (fun _ _ => 0) sL).1 ++ w_L k al n (f_X0_startAnew (fun _ _ => 0) sL).2) (rest := []) ⟨hx, hb, hml, hown, hts⟩ hK hA hP hD hS (c_X0_startAnew l k (k_st (k_st (k_st (k_st (k_st (k_st (fun _ => 0) 0 h0) 1 q1) 2 q2) 3 q3) 4 q4) 5 q5) al p0 n (fun _ _ => 0) sL) (cwV 0 hts gX0_init_X0_startAnew rfl rfl rfl (by decide +kernel) ⟨Nat.le_of_ble_eq_true rfl, Nat.le_of_ble_eq_true rfl⟩) (va_recv hK hP (ci := 0) (q0 := 0) rfl rfl) rfl hl.1 rfl (Nat.le_of_ble_eq_true rfl) dX0_init_55 (Nat.le_of_ble_eq_true rfl) (Nat.le_of_ble_eq_true rfl) [0, 3, 4, 5, 6, 7, 1, 2] [] [0, 1, 2, 3, 4, 5, 6, 7] rfl rfl rfl (by decide) rfl rfl rfl (fun H locs hP hD hS => ?_)
  exact W.vret hx hb hr (fun t ht hW => ⟨⟨(k_st (k_st (k_st (k_st (k_st (k_st (fun _ => 0) 0 h0) 1 q1) 2 q2) 3 q3) 4 q4) 5 q5), rfl, rfl, by rw [ht]; exact hP, va_K.moved hW.alike hK, hD⟩, hS.F ht⟩) hS.2.2 dX0_init_58
theorem in_X3_init_X3 : ∀ w ∈ wsX30, w ∈ wsX3_init := fun _ h => List.mem_cons_of_mem _ (List.mem_append_right _ h)
set_option maxHeartbeats 4000000 in
set_option maxRecDepth 100000 in
theorem c_X3_init (l : Launch) (k : K_X) (h0 f0 : Nat) : k_N (S := Nat → Nat) l yX3_init wsX3_init ({ frames := 1, cells := 4, slots := 90, locals := 23 }) k [.ref h0, .ref f0] ([(h0, .inr (3, [.null, .int 0, .null, .null, .null, .null]))] : va_W) (fun a => a 0 = h0) (fun a => w_Y k a f0 (k_st (k_st (fun _ _ => 0) 0 (k_st (fun _ => 0) 0 (-9))) 1 (f_J7_fill_53178 10 (fun _ => 0) 363)) (fun _ => 0)) 4 90 := by
  refine k_mkN (cc := cX3_init) (maxL := 2) (by decide) rfl (Nat.le_of_ble_eq_true rfl) ?_
  intro p e s m below meth c A ls C0 hAO hin hP hD hS hl
  obtain ⟨hx, hb, hr, hts, hown, hlocks, hml, hA, hK⟩ := id C0
  have hown : s.vm.findClass RX3 = some m.cls := hown
  have hl : lv_has ls 2 [(0, .ref h0), (1, .ref f0)] := hl
  refine lv_aload_n hx hb dX3_init_0 rfl (lv_at hl 0 rfl) ?_
  refine W.objInit hx hb hown (k_w hts 1 rfl) (k_w hts 2 rfl) (k_w hts 3 rfl) rfl (by rw [hml]; exact hl.1) rfl dX3_init_1 (Nat.le_of_ble_eq_true rfl) (Nat.le_of_ble_eq_true rfl) ?_
  refine W.eq (g2 := F0 m 4 ls []) rfl ?_
  refine lv_aload_n hx hb dX3_init_4 rfl (lv_at hl 0 rfl) ?_
  refine lv_aload_n hx hb dX3_init_5 rfl (lv_at hl 1 rfl) ?_
  refine va_putF (D := k.1) (ci := 3) (v := .ref f0) (ty := (.object "HiringFairs$Fair")) (C := RX3) (T := TX3) (N := 6) hx hb hts in_X3_init_X3 tyX3 tyX3_ok nmX3 hown hK hP hD hS 0 rfl rfl 0 (by decide) (k_w hts 4 rfl) (fun _ h9 => h9) rfl hin rfl (by decide +kernel) rfl rfl (Nat.le_of_ble_eq_true rfl) dX3_init_6 (fun H locs hP hD hS => ?_)
  have hP : va_P k.1 vwCl ([(h0, .inr (3, [.ref f0, .int 0, .null, .null, .null, .null]))] : va_W) H := hP
  have hD : va_D A ([(h0, .inr (3, [.ref f0, .int 0, .null, .null, .null, .null]))] : va_W) := hD
  refine lv_aload_n hx hb dX3_init_9 rfl (lv_at hl 0 rfl) ?_
  refine lv_bipush (v := (-9)) hx hb dX3_init_10 (by decide) ?_
  refine va_put (D := k.1) (ci := 3) (v := .int (-9)) (ty := .int) (C := RX3) (T := TX3) (N := 6) hx hb hts in_X3_init_X3 tyX3 tyX3_ok nmX3 hown hK hP hD hS 0 rfl rfl 1 (by decide) (k_w hts 5 rfl) (fun _ h9 => h9) rfl (by decide +kernel) rfl rfl (Nat.le_of_ble_eq_true rfl) dX3_init_12 (fun H locs hP hD hS => ?_)
  have hP : va_P k.1 vwCl ([(h0, .inr (3, [.ref f0, .int (-9), .null, .null, .null, .null]))] : va_W) H := hP
  have hD : va_D A ([(h0, .inr (3, [.ref f0, .int (-9), .null, .null, .null, .null]))] : va_W) := hD
  refine lv_aload_n hx hb dX3_init_15 rfl (lv_at hl 0 rfl) ?_
  refine lv_bipush (v := 10) hx hb dX3_init_16 (by decide) ?_
  refine k_newI (N := 10) hx hb (k_w hts 6 rfl) hK hP hD hS hA (by decide) (by decide) (by decide) (Nat.le_of_ble_eq_true rfl) (Nat.le_of_ble_eq_true rfl) dX3_init_18 (fun q1 H hP hD hS => ?_)
  have hP : va_P k.1 vwCl ([(h0, .inr (3, [.ref f0, .int (-9), .null, .null, .null, .null])), (q1, k_aI k 10 (fun _ => 0))] : va_W) H := hP
  have hD : va_D A ([(h0, .inr (3, [.ref f0, .int (-9), .null, .null, .null, .null])), (q1, k_aI k 10 (fun _ => 0))] : va_W) := hD
  refine W.widen (k := 1) (n := 10) (by omega) (by omega) ?_
  refine va_putF (D := k.1) (ci := 3) (v := .ref q1) (ty := (.array .int)) (C := RX3) (T := TX3) (N := 6) hx hb hts in_X3_init_X3 tyX3 tyX3_ok nmX3 hown hK hP hD hS 0 rfl rfl 2 (by decide) (k_w hts 7 rfl) (fun _ h9 => h9) rfl hin rfl (by decide +kernel) rfl rfl (Nat.le_of_ble_eq_true rfl) dX3_init_20 (fun H locs hP hD hS => ?_)
  have hP : va_P k.1 vwCl ([(h0, .inr (3, [.ref f0, .int (-9), .ref q1, .null, .null, .null])), (q1, k_aI k 10 (fun _ => 0))] : va_W) H := hP
  have hD : va_D A ([(h0, .inr (3, [.ref f0, .int (-9), .ref q1, .null, .null, .null])), (q1, k_aI k 10 (fun _ => 0))] : va_W) := hD
  refine lv_aload_n hx hb dX3_init_23 rfl (lv_at hl 0 rfl) ?_
  refine va_get (D := k.1) (ci := 3) (v := .ref q1) (C := RX3) (T := TX3) (N := 6) hx hb hts in_X3_init_X3 hown hK hP 0 rfl rfl 2 (by decide) (k_w hts 7 rfl) (fun _ h9 => h9) rfl dX3_init_24 ?_
  refine lv_sipush (v := 363) hx hb dX3_init_27 (by decide) ?_
  refine k_Sv (wr := [(h0, .inr (3, [.ref f0, .int (-9), .ref q1, .null, .null, .null]))]) (ws' := [(h0, .inr (3, [.ref f0, .int (-9), .ref q1, .null, .null, .null])), (q1, k_aI k 10 (f_J7_fill_53178 10 (fun _ => 0) 363))]) (rest := []) ⟨hx, hb, hml, hown, hts⟩ hK hA hP hD hS (c_J7_fill_53178 l k (fun _ => q1) 10 (fun _ => 0) 363 (by decide)) (va_cwS 2 hts gX3_init_J7_fill_53178 rfl rfl rfl (by decide +kernel) ⟨Nat.le_of_ble_eq_true rfl, Nat.le_of_ble_eq_true rfl⟩) rfl hl.1 rfl (Nat.le_of_ble_eq_true rfl) dX3_init_30 (Nat.le_of_ble_eq_true rfl) (Nat.le_of_ble_eq_true rfl) [1] [0] [0, 1] rfl rfl rfl (by decide) rfl rfl rfl (fun H locs hP hD hS => ?_)
  refine lv_aload_n hx hb dX3_init_33 rfl (lv_at hl 0 rfl) ?_
  refine lv_bipush (v := 10) hx hb dX3_init_34 (by decide) ?_
  refine k_newZ (N := 10) hx hb (k_w hts 8 rfl) hK hP hD hS hA (by decide) (by decide) (by decide) (Nat.le_of_ble_eq_true rfl) (Nat.le_of_ble_eq_true rfl) dX3_init_36 (fun q2 H hP hD hS => ?_)
  have hP : va_P k.1 vwCl ([(h0, .inr (3, [.ref f0, .int (-9), .ref q1, .null, .null, .null])), (q1, k_aI k 10 (f_J7_fill_53178 10 (fun _ => 0) 363)), (q2, k_aZ k 10 (fun _ => 0))] : va_W) H := hP
  have hD : va_D A ([(h0, .inr (3, [.ref f0, .int (-9), .ref q1, .null, .null, .null])), (q1, k_aI k 10 (f_J7_fill_53178 10 (fun _ => 0) 363)), (q2, k_aZ k 10 (fun _ => 0))] : va_W) := hD
  refine W.widen (k := 2) (n := 20) (by omega) (by omega) ?_
  refine va_putF (D := k.1) (ci := 3) (v := .ref q2) (ty := (.array .boolean)) (C := RX3) (T := TX3) (N := 6) hx hb hts in_X3_init_X3 tyX3 tyX3_ok nmX3 hown hK hP hD hS 0 rfl rfl 3 (by decide) (k_w hts 9 rfl) (fun _ h9 => h9) rfl hin rfl (by decide +kernel) rfl rfl (Nat.le_of_ble_eq_true rfl) dX3_init_38 (fun H locs hP hD hS => ?_)
  have hP : va_P k.1 vwCl ([(h0, .inr (3, [.ref f0, .int (-9), .ref q1, .ref q2, .null, .null])), (q1, k_aI k 10 (f_J7_fill_53178 10 (fun _ => 0) 363)), (q2, k_aZ k 10 (fun _ => 0))] : va_W) H := hP
  have hD : va_D A ([(h0, .inr (3, [.ref f0, .int (-9), .ref q1, .ref q2, .null, .null])), (q1, k_aI k 10 (f_J7_fill_53178 10 (fun _ => 0) 363)), (q2, k_aZ k 10 (fun _ => 0))] : va_W) := hD
  refine lv_aload_n hx hb dX3_init_41 rfl (lv_at hl 0 rfl) ?_
  refine lv_bipush (v := 10) hx hb dX3_init_42 (by decide) ?_
  refine k_newZ (N := 10) hx hb (k_w hts 8 rfl) hK hP hD hS hA (by decide) (by decide) (by decide) (Nat.le_of_ble_eq_true rfl) (Nat.le_of_ble_eq_true rfl) dX3_init_44 (fun q3 H hP hD hS => ?_)
  have hP : va_P k.1 vwCl ([(h0, .inr (3, [.ref f0, .int (-9), .ref q1, .ref q2, .null, .null])), (q1, k_aI k 10 (f_J7_fill_53178 10 (fun _ => 0) 363)), (q2, k_aZ k 10 (fun _ => 0)), (q3, k_aZ k 10 (fun _ => 0))] : va_W) H := hP
  have hD : va_D A ([(h0, .inr (3, [.ref f0, .int (-9), .ref q1, .ref q2, .null, .null])), (q1, k_aI k 10 (f_J7_fill_53178 10 (fun _ => 0) 363)), (q2, k_aZ k 10 (fun _ => 0)), (q3, k_aZ k 10 (fun _ => 0))] : va_W) := hD
  refine W.widen (k := 3) (n := 30) (by omega) (by omega) ?_
  refine va_putF (D := k.1) (ci := 3) (v := .ref q3) (ty := (.array .boolean)) (C := RX3) (T := TX3) (N := 6) hx hb hts in_X3_init_X3 tyX3 tyX3_ok nmX3 hown hK hP hD hS 0 rfl rfl 4 (by decide) (k_w hts 10 rfl) (fun _ h9 => h9) rfl hin rfl (by decide +kernel) rfl rfl (Nat.le_of_ble_eq_true rfl) dX3_init_46 (fun H locs hP hD hS => ?_)
  have hP : va_P k.1 vwCl ([(h0, .inr (3, [.ref f0, .int (-9), .ref q1, .ref q2, .ref q3, .null])), (q1, k_aI k 10 (f_J7_fill_53178 10 (fun _ => 0) 363)), (q2, k_aZ k 10 (fun _ => 0)), (q3, k_aZ k 10 (fun _ => 0))] : va_W) H := hP
  have hD : va_D A ([(h0, .inr (3, [.ref f0, .int (-9), .ref q1, .ref q2, .ref q3, .null])), (q1, k_aI k 10 (f_J7_fill_53178 10 (fun _ => 0) 363)), (q2, k_aZ k 10 (fun _ => 0)), (q3, k_aZ k 10 (fun _ => 0))] : va_W) := hD
  refine lv_aload_n hx hb dX3_init_49 rfl (lv_at hl 0 rfl) ?_
  refine lv_bipush (v := 60) hx hb dX3_init_50 (by decide) ?_
  refine k_newJ (N := 60) hx hb (k_w hts 11 rfl) hK hP hD hS hA (by decide) (by decide) (by decide) (Nat.le_of_ble_eq_true rfl) (Nat.le_of_ble_eq_true rfl) dX3_init_52 (fun q4 H hP hD hS => ?_)
  have hP : va_P k.1 vwCl ([(h0, .inr (3, [.ref f0, .int (-9), .ref q1, .ref q2, .ref q3, .null])), (q1, k_aI k 10 (f_J7_fill_53178 10 (fun _ => 0) 363)), (q2, k_aZ k 10 (fun _ => 0)), (q3, k_aZ k 10 (fun _ => 0)), (q4, k_aJ k 60 (fun _ => 0))] : va_W) H := hP
  have hD : va_D A ([(h0, .inr (3, [.ref f0, .int (-9), .ref q1, .ref q2, .ref q3, .null])), (q1, k_aI k 10 (f_J7_fill_53178 10 (fun _ => 0) 363)), (q2, k_aZ k 10 (fun _ => 0)), (q3, k_aZ k 10 (fun _ => 0)), (q4, k_aJ k 60 (fun _ => 0))] : va_W) := hD
  refine W.widen (k := 4) (n := 90) (by omega) (by omega) ?_
  refine va_putF (D := k.1) (ci := 3) (v := .ref q4) (ty := (.array .long)) (C := RX3) (T := TX3) (N := 6) hx hb hts in_X3_init_X3 tyX3 tyX3_ok nmX3 hown hK hP hD hS 0 rfl rfl 5 (by decide) (k_w hts 12 rfl) (fun _ h9 => h9) rfl hin rfl (by decide +kernel) rfl rfl (Nat.le_of_ble_eq_true rfl) dX3_init_54 (fun H locs hP hD hS => ?_)
  have hP : va_P k.1 vwCl ([(h0, .inr (3, [.ref f0, .int (-9), .ref q1, .ref q2, .ref q3, .ref q4])), (q1, k_aI k 10 (f_J7_fill_53178 10 (fun _ => 0) 363)), (q2, k_aZ k 10 (fun _ => 0)), (q3, k_aZ k 10 (fun _ => 0)), (q4, k_aJ k 60 (fun _ => 0))] : va_W) H := hP
  have hD : va_D A ([(h0, .inr (3, [.ref f0, .int (-9), .ref q1, .ref q2, .ref q3, .ref q4])), (q1, k_aI k 10 (f_J7_fill_53178 10 (fun _ => 0) 363)), (q2, k_aZ k 10 (fun _ => 0)), (q3, k_aZ k 10 (fun _ => 0)), (q4, k_aJ k 60 (fun _ => 0))] : va_W) := hD
  have hP9 : va_P k.1 vwCl (w_Y k (k_st (k_st (k_st (k_st (k_st (fun _ => 0) 0 h0) 1 q1) 2 q2) 3 q3) 4 q4) f0 (k_st (k_st (fun _ _ => 0) 0 (k_st (fun _ => 0) 0 (-9))) 1 (f_J7_fill_53178 10 (fun _ => 0) 363)) (fun _ => 0)) H := hP
  have hD9 : va_D A (w_Y k (k_st (k_st (k_st (k_st (k_st (fun _ => 0) 0 h0) 1 q1) 2 q2) 3 q3) 4 q4) f0 (k_st (k_st (fun _ _ => 0) 0 (k_st (fun _ => 0) 0 (-9))) 1 (f_J7_fill_53178 10 (fun _ => 0) 363)) (fun _ => 0)) := hD
  exact W.vret hx hb hr (fun t ht hW => ⟨⟨(k_st (k_st (k_st (k_st (k_st (fun _ => 0) 0 h0) 1 q1) 2 q2) 3 q3) 4 q4), rfl, rfl, by rw [ht]; exact hP9, va_K.moved hW.alike hK, hD9⟩, hS.F ht⟩) hS.2.2 dX3_init_57
