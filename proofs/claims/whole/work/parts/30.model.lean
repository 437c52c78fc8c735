theorem k_thr {M : Nat → Nat → Int32} (hT : M 0 0 = 0) : k_st M 0 (k_st (M 0) 0 0) = M := by
  funext i j
  by_cases hi : i = 0
  · subst hi
    rw [k_st_eq]
    by_cases hj : j = 0
    · subst hj; rw [k_st_eq, hT]
    · rw [k_st_ne _ _ hj]
  · rw [k_st_ne _ _ hi]
theorem k_n_int {x : Int32} {b : Nat} (h0 : 0 ≤ x.toInt) (hb : x.toInt ≤ b) (hb2 : b < 2 ^ 31) : k_n x b := by
  have h1 : ¬ x < 0 := by rw [Int32.lt_iff_toInt_lt]; show ¬ x.toInt < 0; omega
  obtain ⟨j, hj, rfl⟩ := nI_of h1
  rw [nI_toInt hj] at hb
  exact k_n.mk (by omega) hb2
theorem k_gec {x : Int32} {c j : Nat} (hx : x = nI c) (h : c ≤ j) (hj : j < 2 ^ 31) : x ≤ nI j := by subst hx; exact nI_le h hj
theorem k_ngec {x : Int32} {c j : Nat} (hx : x = nI c) (h : j < c) (hc : c < 2 ^ 31) : ¬ x ≤ nI j := by subst hx; exact nI_ge h hc
theorem k_gtc {x : Int32} {c j : Nat} (hx : x = nI c) (h : c < j) (hj : j < 2 ^ 31) : x < nI j := by subst hx; exact nI_lt h hj
theorem k_ngtc {x : Int32} {c j : Nat} (hx : x = nI c) (h : j ≤ c) (hc : c < 2 ^ 31) : ¬ x < nI j := by subst hx; exact nI_nlt h hc
theorem k_ne10 {x : Int32} (h : k_n x 10) (hn : ¬ x = 10) : vp_in x 10 := by
  obtain ⟨j, hj, rfl⟩ := h.get
  have : j ≠ 10 := fun q => hn (by rw [q]; rfl)
  exact vp_in_nI (by omega) (by omega)
theorem k_tl0 {b : Int32} (h : k_n b 99) : vp_in (6 * b) 600 := by
  obtain ⟨j, hj, rfl⟩ := h.get
  rw [show (6 : Int32) = nI 6 from rfl, pk_mul]
  exact vp_in_nI (by omega) (by omega)
theorem k_tl {b x : Int32} (h : k_n b 99) (i : Nat) (hi : i < 6) (hx : x = nI i) : vp_in (6 * b + x) 600 := by
  subst hx
  obtain ⟨j, hj, rfl⟩ := h.get
  rw [show (6 : Int32) = nI 6 from rfl, pk_mul, nI_add]
  exact vp_in_nI (by omega) (by omega)
theorem k_sk {s : Int32} {j : Nat} (hs : vp_in s 10) (hj : j < 364) : vp_in (364 * s + nI j) 3640 := by
  obtain ⟨a, ha, rfl⟩ := vp_in_of hs (by omega)
  rw [show (364 : Int32) = nI 364 from rfl, pk_mul, nI_add]
  exact vp_in_nI (by omega) (by omega)
def f_X5_in (i1 : Int64) (i2 : Int64) (i3 : Int64) : Int32 :=
  if (lg_cmp i1 i2) < 0 then 0
  else if 0 < (lg_cmp i1 i3) then 0
  else 1
set_option maxHeartbeats 4000000 in
set_option maxRecDepth 100000 in
theorem c_X5_in (l : Launch) (k : K_X) (i1 : Int64) (i2 : Int64) (i3 : Int64) : k_C l yX5_in wsX5_in (k_rm 0 0) k [.long i1, .long i2, .long i3] (([] : va_W)) (k_qI k (f_X5_in i1 i2 i3) (([] : va_W))) := by
  refine k_mk (cc := cX5_in) (maxL := 6) (ret := (some .boolean)) (by decide) rfl (Nat.le_of_ble_eq_true rfl) ?_
  intro p e s m below meth c A ls C0 hP hD hS hl
  obtain ⟨hx, hb, hr, hts, hown, hlocks, hml, hA, hK⟩ := id C0
  have hown : s.vm.findClass RX5 = some m.cls := hown
  have hl : lv_has ls 6 [(0, .long i1), (2, .long i2), (4, .long i3)] := hl
  refine lv_lload_n hx hb dX5_in_0 rfl (lv_at hl 0 rfl) ?_
  refine lv_lload_n hx hb dX5_in_1 rfl (lv_at hl 1 rfl) ?_
  refine W.lcmp hx hb dX5_in_2 ?_
  refine lv_if_lt (tgt := 17) hx hb dX5_in_3 (by decide) (fun c_1 => ?_) (fun c_1 => ?_)
  ·
    refine lv_iconst (v := 0) hx hb dX5_in_17 (by decide) ?_
    have ef : f_X5_in i1 i2 i3 = 0 := by
      rw [f_X5_in, if_pos c_1]
    exact k_retz hx hb hr (by decide) hK hP hD hS hlocks dX5_in_18 (by rw [ef])
  ·
    refine lv_lload_n hx hb dX5_in_6 rfl (lv_at hl 0 rfl) ?_
    refine lv_lload hx hb dX5_in_7 (lv_at hl 2 rfl) ?_
    refine W.lcmp hx hb dX5_in_9 ?_
    refine lv_if_gt (tgt := 17) hx hb dX5_in_10 (by decide) (fun c_2 => ?_) (fun c_2 => ?_)
    ·
      refine lv_iconst (v := 0) hx hb dX5_in_17 (by decide) ?_
      have ef : f_X5_in i1 i2 i3 = 0 := by
        rw [f_X5_in, if_neg c_1, if_pos c_2]
      exact k_retz hx hb hr (by decide) hK hP hD hS hlocks dX5_in_18 (by rw [ef])
    ·
      refine lv_iconst (v := 1) hx hb dX5_in_13 (by decide) ?_
      refine lv_goto (tgt := 18) hx hb dX5_in_14 (by decide) ?_
      have ef : f_X5_in i1 i2 i3 = 1 := by
        rw [f_X5_in, if_neg c_1, if_neg c_2]
      exact k_retz hx hb hr (by decide) hK hP hD hS hlocks dX5_in_18 (by rw [ef])
theorem in_X5_noServant_X5 : ∀ w ∈ wsX50, w ∈ wsX5_noServant := fun _ h => List.mem_cons_of_mem _ (List.mem_append_right _ h)
def f_X5_noServant (sM : Nat → Nat → Int32) (i1 : Int32) : Int32 :=
  if (f_X5_in i1.toInt64 0 (((sM 0 1) - 1).toInt64)) = 0 then 1
  else 0
set_option maxHeartbeats 4000000 in
set_option maxRecDepth 100000 in
theorem c_X5_noServant (l : Launch) (k : K_X) (am : Nat → Nat) (sM : Nat → Nat → Int32) (i1 : Int32) : k_C l yX5_noServant wsX5_noServant (k_rm 1 25) k [.ref (am 0), .int i1] (w_M k am sM) (k_qI k (f_X5_noServant sM i1) (w_M k am sM)) := by
  refine k_mk (cc := cX5_noServant) (maxL := 2) (ret := (some .boolean)) (by decide) rfl (Nat.le_of_ble_eq_true rfl) ?_
  intro p e s m below meth c A ls C0 hP hD hS hl
  obtain ⟨hx, hb, hr, hts, hown, hlocks, hml, hA, hK⟩ := id C0
  have hown : s.vm.findClass RX5 = some m.cls := hown
  have hl : lv_has ls 2 [(0, .ref (am 0)), (1, .int i1)] := hl
  refine lv_iload_n hx hb dX5_noServant_0 rfl (lv_at hl 1 rfl) ?_
  refine lv_i2l (v := i1.toInt64) hx hb dX5_noServant_1 rfl ?_
  refine lv_lconst (v := 0) hx hb dX5_noServant_2 (by decide) ?_
  refine lv_aload_n hx hb dX5_noServant_3 rfl (lv_at hl 0 rfl) ?_
  refine va_get (D := k.1) (ci := 5) (v := .int (sM 0 1)) (C := RX5) (T := TX5) (N := 28) hx hb hts in_X5_noServant_X5 hown hK hP 0 rfl rfl 1 (by decide) (k_w hts 1 rfl) (fun _ h9 => h9) rfl dX5_noServant_4 ?_
  refine lv_iconst (v := 1) hx hb dX5_noServant_7 (by decide) ?_
  refine lv_isub hx hb dX5_noServant_8 ?_
  refine lv_i2l (v := ((sM 0 1) - 1).toInt64) hx hb dX5_noServant_9 rfl ?_
  refine k_Si (wr := w_M k am sM) (ws' := w_M k am sM) (Rv := (f_X5_in i1.toInt64 0 (((sM 0 1) - 1).toInt64))) (rest := []) ⟨hx, hb, hml, hown, hts⟩ hK hA hP hD hS (c_X5_in l k i1.toInt64 0 (((sM 0 1) - 1).toInt64)) (va_cwS 3 hts gX5_noServant_X5_in rfl rfl rfl (by decide +kernel) ⟨Nat.le_of_ble_eq_true rfl, Nat.le_of_ble_eq_true rfl⟩) rfl hl.1 rfl (Nat.le_of_ble_eq_true rfl) dX5_noServant_10 (Nat.zero_le _) (Nat.zero_le _) [] [0, 1, 2, 3, 4, 5, 6, 7, 8, 9, 10, 11, 12, 13, 14, 15, 16, 17, 18, 19, 20, 21] [0, 1, 2, 3, 4, 5, 6, 7, 8, 9, 10, 11, 12, 13, 14, 15, 16, 17, 18, 19, 20, 21] rfl rfl rfl (by decide) rfl rfl rfl (fun H locs hP hD hS => ?_)
  refine lv_if_ne (tgt := 20) hx hb dX5_noServant_13 (by decide) (fun c_1 => ?_) (fun c_1 => ?_)
  ·
    refine lv_iconst (v := 0) hx hb dX5_noServant_20 (by decide) ?_
    have ef : f_X5_noServant sM i1 = 0 := by
      rw [f_X5_noServant, if_neg c_1]
    exact k_retz hx hb hr (by decide) hK hP hD hS hlocks dX5_noServant_21 (by rw [ef])
  ·
    refine lv_iconst (v := 1) hx hb dX5_noServant_16 (by decide) ?_
    refine lv_goto (tgt := 21) hx hb dX5_noServant_17 (by decide) ?_
    have ef : f_X5_noServant sM i1 = 1 := by
      rw [f_X5_noServant, if_pos c_1]
    exact k_retz hx hb hr (by decide) hK hP hD hS hlocks dX5_noServant_21 (by rw [ef])
theorem in_X5_noMaster_X5 : ∀ w ∈ wsX50, w ∈ wsX5_noMaster := fun _ h => List.mem_cons_of_mem _ (List.mem_append_right _ h)
def f_X5_noMaster (sM : Nat → Nat → Int32) (i1 : Int32) : Int32 :=
  if (f_X5_in i1.toInt64 0 (((sM 0 2) - 1).toInt64)) = 0 then 1
  else 0
set_option maxHeartbeats 4000000 in
set_option maxRecDepth 100000 in
theorem c_X5_noMaster (l : Launch) (k : K_X) (am : Nat → Nat) (sM : Nat → Nat → Int32) (i1 : Int32) : k_C l yX5_noMaster wsX5_noMaster (k_rm 1 25) k [.ref (am 0), .int i1] (w_M k am sM) (k_qI k (f_X5_noMaster sM i1) (w_M k am sM)) := by
  refine k_mk (cc := cX5_noMaster) (maxL := 2) (ret := (some .boolean)) (by decide) rfl (Nat.le_of_ble_eq_true rfl) ?_
  intro p e s m below meth c A ls C0 hP hD hS hl
  obtain ⟨hx, hb, hr, hts, hown, hlocks, hml, hA, hK⟩ := id C0
  have hown : s.vm.findClass RX5 = some m.cls := hown
  have hl : lv_has ls 2 [(0, .ref (am 0)), (1, .int i1)] := hl
  refine lv_iload_n hx hb dX5_noMaster_0 rfl (lv_at hl 1 rfl) ?_
  refine lv_i2l (v := i1.toInt64) hx hb dX5_noMaster_1 rfl ?_
  refine lv_lconst (v := 0) hx hb dX5_noMaster_2 (by decide) ?_
  refine lv_aload_n hx hb dX5_noMaster_3 rfl (lv_at hl 0 rfl) ?_
  refine va_get (D := k.1) (ci := 5) (v := .int (sM 0 2)) (C := RX5) (T := TX5) (N := 28) hx hb hts in_X5_noMaster_X5 hown hK hP 0 rfl rfl 5 (by decide) (k_w hts 1 rfl) (fun _ h9 => h9) rfl dX5_noMaster_4 ?_
  refine lv_iconst (v := 1) hx hb dX5_noMaster_7 (by decide) ?_
  refine lv_isub hx hb dX5_noMaster_8 ?_
  refine lv_i2l (v := ((sM 0 2) - 1).toInt64) hx hb dX5_noMaster_9 rfl ?_
  refine k_Si (wr := w_M k am sM) (ws' := w_M k am sM) (Rv := (f_X5_in i1.toInt64 0 (((sM 0 2) - 1).toInt64))) (rest := []) ⟨hx, hb, hml, hown, hts⟩ hK hA hP hD hS (c_X5_in l k i1.toInt64 0 (((sM 0 2) - 1).toInt64)) (va_cwS 3 hts gX5_noMaster_X5_in rfl rfl rfl (by decide +kernel) ⟨Nat.le_of_ble_eq_true rfl, Nat.le_of_ble_eq_true rfl⟩) rfl hl.1 rfl (Nat.le_of_ble_eq_true rfl) dX5_noMaster_10 (Nat.zero_le _) (Nat.zero_le _) [] [0, 1, 2, 3, 4, 5, 6, 7, 8, 9, 10, 11, 12, 13, 14, 15, 16, 17, 18, 19, 20, 21] [0, 1, 2, 3, 4, 5, 6, 7, 8, 9, 10, 11, 12, 13, 14, 15, 16, 17, 18, 19, 20, 21] rfl rfl rfl (by decide) rfl rfl rfl (fun H locs hP hD hS => ?_)
  refine lv_if_ne (tgt := 20) hx hb dX5_noMaster_13 (by decide) (fun c_1 => ?_) (fun c_1 => ?_)
  ·
    refine lv_iconst (v := 0) hx hb dX5_noMaster_20 (by decide) ?_
    have ef : f_X5_noMaster sM i1 = 0 := by
      rw [f_X5_noMaster, if_neg c_1]
    exact k_retz hx hb hr (by decide) hK hP hD hS hlocks dX5_noMaster_21 (by rw [ef])
  ·
    refine lv_iconst (v := 1) hx hb dX5_noMaster_16 (by decide) ?_
    refine lv_goto (tgt := 21) hx hb dX5_noMaster_17 (by decide) ?_
    have ef : f_X5_noMaster sM i1 = 1 := by
      rw [f_X5_noMaster, if_pos c_1]
    exact k_retz hx hb hr (by decide) hK hP hD hS hlocks dX5_noMaster_21 (by rw [ef])
theorem k_mi {x : Int32} {y z : Int64} (h : ¬ (f_X5_in x.toInt64 y z) = 0) : y.toInt ≤ x.toInt ∧ x.toInt ≤ z.toInt := by
  unfold f_X5_in at h
  repeat' split at h
  all_goals first | exact absurd rfl h | skip
  rename_i h1 h2
  rw [lg_cmp_lt, Int64.lt_iff_toInt_lt, Int32.toInt_toInt64] at h1
  rw [lg_cmp_gt, Int64.lt_iff_toInt_lt, Int32.toInt_toInt64] at h2
  omega
theorem k_mn {x : Int32} {a b : Nat} {y z : Int64} (hy : y.toInt = a) (hz : z.toInt = b) (hb : b < 2 ^ 31) (h : ¬ (f_X5_in x.toInt64 y z) = 0) : k_n x b ∧ a ≤ x.toNatClampNeg := by
  obtain ⟨h1, h2⟩ := k_mi h
  have hk := k_n_int (x := x) (b := b) (by omega) (by omega) hb
  refine ⟨hk, ?_⟩
  obtain ⟨j, hj, rfl⟩ := hk.get
  rw [nI_toInt (by omega)] at h1
  rw [nI_clamp (by omega)]
  omega
theorem k_min10 {x n : Int32} {b : Nat} (hn : k_n n b) (hb : b ≤ 1000) (h : ¬ (f_X5_in x.toInt64 0 (n - 1).toInt64) = 0) : vp_in x b := by
  obtain ⟨h1, h2⟩ := k_mi h
  obtain ⟨a, ha, rfl⟩ := hn.get
  rw [Int32.toInt_toInt64, show (1 : Int32) = nI 1 from rfl, pk_sub_toInt (by omega) (by omega)] at h2
  have h0 : (0 : Int64).toInt = 0 := rfl
  rw [vp_in_iff]
  omega
theorem k_ns {M : Nat → Nat → Int32} {i : Int32} (hNs : k_n (M 0 1) 10) (h : (f_X5_noServant M i) = 0) : vp_in i 10 := by
  unfold f_X5_noServant at h
  split at h
  · exact absurd h (by decide)
  · rename_i q; exact k_min10 hNs (by omega) q
theorem k_nm {M : Nat → Nat → Int32} {i : Int32} (hNm : k_n (M 0 2) 10) (h : (f_X5_noMaster M i) = 0) : vp_in i 10 := by
  unfold f_X5_noMaster at h
  split at h
  · exact absurd h (by decide)
  · rename_i q; exact k_min10 hNm (by omega) q
theorem in_X5_held_X5 : ∀ w ∈ wsX50, w ∈ wsX5_held := fun _ h => List.mem_cons_of_mem _ (List.mem_append_right _ h)
def f_X5_held (sM : Nat → Nat → Int32) (i1 : Int32) (i2 : Int32) : Int32 :=
  if ((sM 6) ((10 * i1) + i2).toNatClampNeg) = 0 then 5
  else (sM 6) ((10 * i1) + i2).toNatClampNeg
set_option maxHeartbeats 4000000 in
set_option maxRecDepth 100000 in
theorem c_X5_held (l : Launch) (k : K_X) (am : Nat → Nat) (sM : Nat → Nat → Int32) (i1 : Int32) (i2 : Int32) (h1 : vp_in i1 10) (h2 : vp_in i2 10) : k_C l yX5_held wsX5_held (k_rm 0 0) k [.ref (am 0), .int i1, .int i2] (w_M k am sM) (k_qI k (f_X5_held sM i1 i2) (w_M k am sM)) := by
  refine k_mk (cc := cX5_held) (maxL := 3) (ret := (some .int)) (by decide) rfl (Nat.le_of_ble_eq_true rfl) ?_
  intro p e s m below meth c A ls C0 hP hD hS hl
  obtain ⟨hx, hb, hr, hts, hown, hlocks, hml, hA, hK⟩ := id C0
  have hown : s.vm.findClass RX5 = some m.cls := hown
  have hl : lv_has ls 3 [(0, .ref (am 0)), (1, .int i1), (2, .int i2)] := hl
  refine lv_aload_n hx hb dX5_held_0 rfl (lv_at hl 0 rfl) ?_
  refine va_get (D := k.1) (ci := 5) (v := .ref (am 6)) (C := RX5) (T := TX5) (N := 28) hx hb hts in_X5_held_X5 hown hK hP 0 rfl rfl 8 (by decide) (k_w hts 1 rfl) (fun _ h9 => h9) rfl dX5_held_1 ?_
  refine lv_bipush (v := 10) hx hb dX5_held_4 (by decide) ?_
  refine lv_iload_n hx hb dX5_held_6 rfl (lv_at hl 1 rfl) ?_
  refine lv_imul hx hb dX5_held_7 ?_
  refine lv_iload_n hx hb dX5_held_8 rfl (lv_at hl 2 rfl) ?_
  refine lv_iadd hx hb dX5_held_9 ?_
  refine va_iald (f := sM 6) hx hb hK hP 6 0 rfl rfl (by first | assumption | exact k_in10 h1 h2) dX5_held_10 ?_
  refine lv_if_ne (tgt := 18) hx hb dX5_held_11 (by decide) (fun c_1 => ?_) (fun c_1 => ?_)
  ·
    refine lv_aload_n hx hb dX5_held_18 rfl (lv_at hl 0 rfl) ?_
    refine va_get (D := k.1) (ci := 5) (v := .ref (am 6)) (C := RX5) (T := TX5) (N := 28) hx hb hts in_X5_held_X5 hown hK hP 0 rfl rfl 8 (by decide) (k_w hts 1 rfl) (fun _ h9 => h9) rfl dX5_held_19 ?_
    refine lv_bipush (v := 10) hx hb dX5_held_22 (by decide) ?_
    refine lv_iload_n hx hb dX5_held_24 rfl (lv_at hl 1 rfl) ?_
    refine lv_imul hx hb dX5_held_25 ?_
    refine lv_iload_n hx hb dX5_held_26 rfl (lv_at hl 2 rfl) ?_
    refine lv_iadd hx hb dX5_held_27 ?_
    refine va_iald (f := sM 6) hx hb hK hP 6 0 rfl rfl (by first | assumption | exact k_in10 h1 h2) dX5_held_28 ?_
    have ef : f_X5_held sM i1 i2 = (sM 6) ((10 * i1) + i2).toNatClampNeg := by
      rw [f_X5_held, if_neg c_1]
    exact k_reti hx hb hr hK hP hD hS hlocks dX5_held_29 (by rw [ef])
  ·
    refine lv_iconst (v := 5) hx hb dX5_held_14 (by decide) ?_
    refine lv_goto (tgt := 29) hx hb dX5_held_15 (by decide) ?_
    have ef : f_X5_held sM i1 i2 = 5 := by
      rw [f_X5_held, if_pos c_1]
    exact k_reti hx hb hr hK hP hD hS hlocks dX5_held_29 (by rw [ef])
theorem in_X5_offerOf_X5 : ∀ w ∈ wsX50, w ∈ wsX5_offerOf := fun _ h => List.mem_cons_of_mem _ (List.mem_append_right _ h)
def f_X5_offerOf (sM : Nat → Nat → Int32) (i1 : Int32) (i2 : Int32) : Int32 :=
  if ((sM 4) i1.toNatClampNeg) = ((sM 1) i2.toNatClampNeg) then (if ((sM 7) ((10 * i1) + i2).toNatClampNeg) = 0 then (if ((sM 3) i2.toNatClampNeg) ≤ (((sM 5) i1.toNatClampNeg) - (3 * (9 - (f_X5_held sM i1 i2)))) then ((((sM 5) i1.toNatClampNeg) - (3 * (9 - (f_X5_held sM i1 i2)))) + ((sM 3) i2.toNatClampNeg)) / 2
      else -9)
    else -9)
  else -9
set_option maxHeartbeats 4000000 in
set_option maxRecDepth 100000 in
theorem c_X5_offerOf (l : Launch) (k : K_X) (am : Nat → Nat) (sM : Nat → Nat → Int32) (i1 : Int32) (i2 : Int32) (h1 : vp_in i1 10) (h2 : vp_in i2 10) : k_C l yX5_offerOf wsX5_offerOf (k_rm 1 22) k [.ref (am 0), .int i1, .int i2] (w_M k am sM) (k_qI k (f_X5_offerOf sM i1 i2) (w_M k am sM)) := by
  refine k_mk (cc := cX5_offerOf) (maxL := 4) (ret := (some .int)) (by decide) rfl (Nat.le_of_ble_eq_true rfl) ?_
  intro p e s m below meth c A ls C0 hP hD hS hl
  obtain ⟨hx, hb, hr, hts, hown, hlocks, hml, hA, hK⟩ := id C0
  have hown : s.vm.findClass RX5 = some m.cls := hown
  have hl : lv_has ls 4 [(0, .ref (am 0)), (1, .int i1), (2, .int i2)] := hl
  refine lv_aload_n hx hb dX5_offerOf_0 rfl (lv_at hl 0 rfl) ?_
  refine va_get (D := k.1) (ci := 5) (v := .ref (am 5)) (C := RX5) (T := TX5) (N := 28) hx hb hts in_X5_offerOf_X5 hown hK hP 0 rfl rfl 7 (by decide) (k_w hts 1 rfl) (fun _ h9 => h9) rfl dX5_offerOf_1 ?_
  refine lv_iload_n hx hb dX5_offerOf_4 rfl (lv_at hl 1 rfl) ?_
  refine va_iald (f := sM 5) hx hb hK hP 5 0 rfl rfl (by first | assumption | exact k_in10 h1 h2) dX5_offerOf_5 ?_
  refine lv_iconst (v := 3) hx hb dX5_offerOf_6 (by decide) ?_
  refine lv_bipush (v := 9) hx hb dX5_offerOf_7 (by decide) ?_
  refine lv_aload_n hx hb dX5_offerOf_9 rfl (lv_at hl 0 rfl) ?_
  refine lv_iload_n hx hb dX5_offerOf_10 rfl (lv_at hl 1 rfl) ?_
  refine lv_iload_n hx hb dX5_offerOf_11 rfl (lv_at hl 2 rfl) ?_
  refine k_Vi (wr := ([] : va_W)) (ws' := w_M k am sM) (Rv := (f_X5_held sM i1 i2)) (rest := [.int 9, .int 3, .int ((sM 5) i1.toNatClampNeg)]) ⟨hx, hb, hml, hown, hts⟩ hK hA hP hD hS (c_X5_held l k am sM i1 i2 (h1) (h2)) (cwV 2 hts gX5_offerOf_X5_held rfl rfl rfl (by decide +kernel) ⟨Nat.le_of_ble_eq_true rfl, Nat.le_of_ble_eq_true rfl⟩) (va_recv hK hP (ci := 5) (q0 := 0) rfl rfl) rfl hl.1 rfl (Nat.le_of_ble_eq_true rfl) dX5_offerOf_12 (Nat.zero_le _) (Nat.zero_le _) [0, 1, 2, 3, 4, 5, 6, 7, 8, 9, 10, 11, 12, 13, 14, 15, 16, 17, 18, 19, 20, 21] [] [0, 1, 2, 3, 4, 5, 6, 7, 8, 9, 10, 11, 12, 13, 14, 15, 16, 17, 18, 19, 20, 21] rfl rfl rfl (by decide) rfl rfl rfl (fun H locs hP hD hS => ?_)
  refine lv_isub hx hb dX5_offerOf_15 ?_
  refine lv_imul hx hb dX5_offerOf_16 ?_
  refine lv_isub hx hb dX5_offerOf_17 ?_
  refine lv_istore_n (lv' := [(3, .int (((sM 5) i1.toNatClampNeg) - (3 * (9 - (f_X5_held sM i1 i2))))), (0, .ref (am 0)), (1, .int i1), (2, .int i2)]) hx hb dX5_offerOf_18 rfl hl (by decide) rfl (fun ls hl => ?_)
  refine lv_aload_n hx hb dX5_offerOf_19 rfl (lv_at hl 1 rfl) ?_
  refine va_get (D := k.1) (ci := 5) (v := .ref (am 4)) (C := RX5) (T := TX5) (N := 28) hx hb hts in_X5_offerOf_X5 hown hK hP 0 rfl rfl 6 (by decide) (k_w hts 2 rfl) (fun _ h9 => h9) rfl dX5_offerOf_20 ?_
  refine lv_iload_n hx hb dX5_offerOf_23 rfl (lv_at hl 2 rfl) ?_
  refine va_iald (f := sM 4) hx hb hK hP 4 0 rfl rfl (by first | assumption | exact k_in10 h1 h2) dX5_offerOf_24 ?_
  refine lv_aload_n hx hb dX5_offerOf_25 rfl (lv_at hl 1 rfl) ?_
  refine va_get (D := k.1) (ci := 5) (v := .ref (am 1)) (C := RX5) (T := TX5) (N := 28) hx hb hts in_X5_offerOf_X5 hown hK hP 0 rfl rfl 2 (by decide) (k_w hts 3 rfl) (fun _ h9 => h9) rfl dX5_offerOf_26 ?_
  refine lv_iload_n hx hb dX5_offerOf_29 rfl (lv_at hl 3 rfl) ?_
  refine va_iald (f := sM 1) hx hb hK hP 1 0 rfl rfl (by first | assumption | exact k_in10 h1 h2) dX5_offerOf_30 ?_
  refine lv_icmp_ne (tgt := 58) hx hb dX5_offerOf_31 (by decide) (fun c_1 => ?_) (fun c_1 => ?_)
  ·
    refine lv_bipush (v := (-9)) hx hb dX5_offerOf_58 (by decide) ?_
    refine lv_goto (tgt := 73) hx hb dX5_offerOf_60 (by decide) ?_
    have ef : f_X5_offerOf sM i1 i2 = -9 := by
      rw [f_X5_offerOf, if_neg c_1]
    exact k_reti hx hb hr hK hP hD hS hlocks dX5_offerOf_73 (by rw [ef])
  ·
    refine lv_aload_n hx hb dX5_offerOf_34 rfl (lv_at hl 1 rfl) ?_
    refine va_get (D := k.1) (ci := 5) (v := .ref (am 7)) (C := RX5) (T := TX5) (N := 28) hx hb hts in_X5_offerOf_X5 hown hK hP 0 rfl rfl 9 (by decide) (k_w hts 4 rfl) (fun _ h9 => h9) rfl dX5_offerOf_35 ?_
    refine lv_bipush (v := 10) hx hb dX5_offerOf_38 (by decide) ?_
    refine lv_iload_n hx hb dX5_offerOf_40 rfl (lv_at hl 2 rfl) ?_
    refine lv_imul hx hb dX5_offerOf_41 ?_
    refine lv_iload_n hx hb dX5_offerOf_42 rfl (lv_at hl 3 rfl) ?_
    refine lv_iadd hx hb dX5_offerOf_43 ?_
    refine va_zald (f := sM 7) hx hb hK hP 7 1 rfl rfl (by first | assumption | exact k_in10 h1 h2) dX5_offerOf_44 ?_
    refine lv_if_ne (tgt := 58) hx hb dX5_offerOf_45 (by decide) (fun c_2 => ?_) (fun c_2 => ?_)
    ·
      refine lv_bipush (v := (-9)) hx hb dX5_offerOf_58 (by decide) ?_
      refine lv_goto (tgt := 73) hx hb dX5_offerOf_60 (by decide) ?_
      have ef : f_X5_offerOf sM i1 i2 = -9 := by
        rw [f_X5_offerOf, if_pos c_1, if_neg c_2]
      exact k_reti hx hb hr hK hP hD hS hlocks dX5_offerOf_73 (by rw [ef])
    ·
      refine lv_iload_n hx hb dX5_offerOf_48 rfl (lv_at hl 0 rfl) ?_
      refine lv_aload_n hx hb dX5_offerOf_49 rfl (lv_at hl 1 rfl) ?_
      refine va_get (D := k.1) (ci := 5) (v := .ref (am 3)) (C := RX5) (T := TX5) (N := 28) hx hb hts in_X5_offerOf_X5 hown hK hP 0 rfl rfl 4 (by decide) (k_w hts 5 rfl) (fun _ h9 => h9) rfl dX5_offerOf_50 ?_
      refine lv_iload_n hx hb dX5_offerOf_53 rfl (lv_at hl 3 rfl) ?_
      refine va_iald (f := sM 3) hx hb hK hP 3 0 rfl rfl (by first | assumption | exact k_in10 h1 h2) dX5_offerOf_54 ?_
      refine lv_icmp_ge (tgt := 63) hx hb dX5_offerOf_55 (by decide) (fun c_3 => ?_) (fun c_3 => ?_)
      ·
        refine lv_iload_n hx hb dX5_offerOf_63 rfl (lv_at hl 0 rfl) ?_
        refine lv_aload_n hx hb dX5_offerOf_64 rfl (lv_at hl 1 rfl) ?_
        refine va_get (D := k.1) (ci := 5) (v := .ref (am 3)) (C := RX5) (T := TX5) (N := 28) hx hb hts in_X5_offerOf_X5 hown hK hP 0 rfl rfl 4 (by decide) (k_w hts 5 rfl) (fun _ h9 => h9) rfl dX5_offerOf_65 ?_
        refine lv_iload_n hx hb dX5_offerOf_68 rfl (lv_at hl 3 rfl) ?_
        refine va_iald (f := sM 3) hx hb hK hP 3 0 rfl rfl (by first | assumption | exact k_in10 h1 h2) dX5_offerOf_69 ?_
        refine lv_iadd hx hb dX5_offerOf_70 ?_
        refine lv_iconst (v := 2) hx hb dX5_offerOf_71 (by decide) ?_
        refine lv_idiv hx hb dX5_offerOf_72 (by decide) ?_
        have ef : f_X5_offerOf sM i1 i2 = ((((sM 5) i1.toNatClampNeg) - (3 * (9 - (f_X5_held sM i1 i2)))) + ((sM 3) i2.toNatClampNeg)) / 2 := by
          rw [f_X5_offerOf, if_pos c_1, if_pos c_2, if_pos c_3]
        exact k_reti hx hb hr hK hP hD hS hlocks dX5_offerOf_73 (by rw [ef])
      ·
        refine lv_bipush (v := (-9)) hx hb dX5_offerOf_58 (by decide) ?_
        refine lv_goto (tgt := 73) hx hb dX5_offerOf_60 (by decide) ?_
        have ef : f_X5_offerOf sM i1 i2 = -9 := by
          rw [f_X5_offerOf, if_pos c_1, if_pos c_2, if_neg c_3]
        exact k_reti hx hb hr hK hP hD hS hlocks dX5_offerOf_73 (by rw [ef])
theorem in_X5_nextOf_X5 : ∀ w ∈ wsX50, w ∈ wsX5_nextOf := fun _ h => List.mem_cons_of_mem _ (List.mem_append_right _ h)
def g_X5_nextOf_lp (sM : Nat → Nat → Int32) (i1 : Int32) : Nat → Nat → Int32 → Int32 → Int32 × Int32
  | 0, j, a1, a2 => (a1, a2)
  | r + 1, j, a1, a2 => if (f_X5_offerOf sM i1 (nI j)) = (-9) then g_X5_nextOf_lp sM i1 r (j + 1) a1 a2
    else if ((sM 8) ((10 * i1) + (nI j)).toNatClampNeg) = 0 then (if a1 = (-9) then g_X5_nextOf_lp sM i1 r (j + 1) (nI j) ((10 * (f_X5_held sM i1 (nI j))) - (f_X5_offerOf sM i1 (nI j)))
      else if ((10 * (f_X5_held sM i1 (nI j))) - (f_X5_offerOf sM i1 (nI j))) ≤ a2 then g_X5_nextOf_lp sM i1 r (j + 1) a1 a2
      else g_X5_nextOf_lp sM i1 r (j + 1) (nI j) ((10 * (f_X5_held sM i1 (nI j))) - (f_X5_offerOf sM i1 (nI j))))
    else g_X5_nextOf_lp sM i1 r (j + 1) a1 a2
set_option maxHeartbeats 4000000 in
set_option maxRecDepth 100000 in
theorem lp_X5_nextOf_lp {p : Program} {l : Launch} {e : Env} {s : State} {m : MethodId} {below : List Frame} {meth : Method} {c : Code} {A : Nat → Prop} {Q : State → Prop} {av : Array Value} (k : K_X) (am : Nat → Nat) (sM : Nat → Nat → Int32) (i1 : Int32) (C0 : k_Cx p s m meth c k cX5_nextOf (some .int) wsX5_nextOf RX5 8 av A) (h1 : vp_in i1 10) (hNs : k_n (sM 0 1) 10) : ∀ (r j : Nat) (a1 : Int32) (a2 : Int32) (H : Heap) (locs : List Loc) (ls : Array Slot), j + r = (sM 0 1).toNatClampNeg → va_P k.1 vwCl (w_M k am sM) H → va_D A (w_M k am sM) → va_S A s.heap H locs → lv_has ls 8 [(0, .ref (am 0)), (1, .int i1), (2, .ref (am 8)), (3, .int a1), (4, .int a2), (5, .int (nI j))] → (∀ (H : Heap) (locs : List Loc) (ls : Array Slot), va_P k.1 vwCl (w_M k am sM) H → va_D A (w_M k am sM) → va_S A s.heap H locs → lv_has ls 8 [(0, .ref (am 0)), (1, .int i1), (2, .ref (am 8)), (3, .int ((g_X5_nextOf_lp sM i1 r j a1 a2).1)), (4, .int ((g_X5_nextOf_lp sM i1 r j a1 a2).2))] → W p l e (k_rm 2 45) s m av below meth c H locs 0 0 Q (F0 m 87 ls [])) → W p l e (k_rm 2 45) s m av below meth c H locs 0 0 Q (F0 m 9 ls []) := by
  obtain ⟨hx, hb, hr, hts, hown, hlocks, hml, hA, hK⟩ := id C0
  have hq := hNs.2
  intro r
  induction r with
  | zero =>
    intro j a1 a2 H locs ls hj hP hD hS hl hQ
    refine lv_iload hx hb dX5_nextOf_9 (lv_at hl 5 rfl) ?_
    refine lv_aload_n hx hb dX5_nextOf_11 rfl (lv_at hl 0 rfl) ?_
    refine va_get (D := k.1) (ci := 5) (v := .int (sM 0 1)) (C := RX5) (T := TX5) (N := 28) hx hb hts in_X5_nextOf_X5 hown hK hP 0 rfl rfl 1 (by decide) (k_w hts 1 rfl) (fun _ h9 => h9) rfl dX5_nextOf_12 ?_
    refine lv_icmp_ge (tgt := 87) hx hb dX5_nextOf_15 (by decide) (fun c_1 => ?_) (fun c_1 => ?_)
    rotate_left
    · exact absurd (hNs.ge (by omega)) c_1
    have eg : g_X5_nextOf_lp sM i1 0 j a1 a2 = (a1, a2) := by
      rw [g_X5_nextOf_lp]
    rw [eg] at hQ
    exact hQ _ _ _ hP hD hS (lv_sub hl [0, 1, 2, 3, 4] rfl)
  | succ r ih =>
    intro j a1 a2 H locs ls hj hP hD hS hl hQ
    refine lv_iload hx hb dX5_nextOf_9 (lv_at hl 5 rfl) ?_
    refine lv_aload_n hx hb dX5_nextOf_11 rfl (lv_at hl 0 rfl) ?_
    refine va_get (D := k.1) (ci := 5) (v := .int (sM 0 1)) (C := RX5) (T := TX5) (N := 28) hx hb hts in_X5_nextOf_X5 hown hK hP 0 rfl rfl 1 (by decide) (k_w hts 1 rfl) (fun _ h9 => h9) rfl dX5_nextOf_12 ?_
    refine lv_icmp_ge (tgt := 87) hx hb dX5_nextOf_15 (by decide) (fun c_1 => ?_) (fun c_1 => ?_)
    · exact absurd c_1 (hNs.nge (by omega))
    refine lv_aload_n hx hb dX5_nextOf_18 rfl (lv_at hl 0 rfl) ?_
    refine lv_iload_n hx hb dX5_nextOf_19 rfl (lv_at hl 1 rfl) ?_
    refine lv_iload hx hb dX5_nextOf_20 (lv_at hl 5 rfl) ?_
    refine k_Vi (wr := ([] : va_W)) (ws' := w_M k am sM) (Rv := (f_X5_offerOf sM i1 (nI j))) (rest := []) ⟨hx, hb, hml, hown, hts⟩ hK hA hP hD hS (c_X5_offerOf l k am sM i1 (nI j) (h1) (vp_in_nI (by omega) (by omega))) (cwV 2 hts gX5_nextOf_X5_offerOf rfl rfl rfl (by decide +kernel) ⟨Nat.le_of_ble_eq_true rfl, Nat.le_of_ble_eq_true rfl⟩) (va_recv hK hP (ci := 5) (q0 := 0) rfl rfl) rfl hl.1 rfl (Nat.le_of_ble_eq_true rfl) dX5_nextOf_22 (Nat.zero_le _) (Nat.zero_le _) [0, 1, 2, 3, 4, 5, 6, 7, 8, 9, 10, 11, 12, 13, 14, 15, 16, 17, 18, 19, 20, 21] [] [0, 1, 2, 3, 4, 5, 6, 7, 8, 9, 10, 11, 12, 13, 14, 15, 16, 17, 18, 19, 20, 21] rfl rfl rfl (by decide) rfl rfl rfl (fun H locs hP hD hS => ?_)
    refine lv_istore (lv' := [(6, .int (f_X5_offerOf sM i1 (nI j))), (0, .ref (am 0)), (1, .int i1), (2, .ref (am 8)), (3, .int a1), (4, .int a2), (5, .int (nI j))]) hx hb dX5_nextOf_25 hl (by decide) rfl (fun ls hl => ?_)
    refine lv_bipush (v := 10) hx hb dX5_nextOf_27 (by decide) ?_
    refine lv_aload_n hx hb dX5_nextOf_29 rfl (lv_at hl 1 rfl) ?_
    refine lv_iload_n hx hb dX5_nextOf_30 rfl (lv_at hl 2 rfl) ?_
    refine lv_iload hx hb dX5_nextOf_31 (lv_at hl 6 rfl) ?_
    refine k_Vi (wr := ([] : va_W)) (ws' := w_M k am sM) (Rv := (f_X5_held sM i1 (nI j))) (rest := [.int 10]) ⟨hx, hb, hml, hown, hts⟩ hK hA hP hD hS (c_X5_held l k am sM i1 (nI j) (h1) (vp_in_nI (by omega) (by omega))) (cwV 2 hts gX5_nextOf_X5_held rfl rfl rfl (by decide +kernel) ⟨Nat.le_of_ble_eq_true rfl, Nat.le_of_ble_eq_true rfl⟩) (va_recv hK hP (ci := 5) (q0 := 0) rfl rfl) rfl hl.1 rfl (Nat.le_of_ble_eq_true rfl) dX5_nextOf_33 (Nat.zero_le _) (Nat.zero_le _) [0, 1, 2, 3, 4, 5, 6, 7, 8, 9, 10, 11, 12, 13, 14, 15, 16, 17, 18, 19, 20, 21] [] [0, 1, 2, 3, 4, 5, 6, 7, 8, 9, 10, 11, 12, 13, 14, 15, 16, 17, 18, 19, 20, 21] rfl rfl rfl (by decide) rfl rfl rfl (fun H locs hP hD hS => ?_)
    refine lv_imul hx hb dX5_nextOf_36 ?_
    refine lv_iload hx hb dX5_nextOf_37 (lv_at hl 0 rfl) ?_
    refine lv_isub hx hb dX5_nextOf_39 ?_
    refine lv_istore (lv' := [(7, .int ((10 * (f_X5_held sM i1 (nI j))) - (f_X5_offerOf sM i1 (nI j)))), (6, .int (f_X5_offerOf sM i1 (nI j))), (0, .ref (am 0)), (1, .int i1), (2, .ref (am 8)), (3, .int a1), (4, .int a2), (5, .int (nI j))]) hx hb dX5_nextOf_40 hl (by decide) rfl (fun ls hl => ?_)
    refine lv_iload hx hb dX5_nextOf_42 (lv_at hl 1 rfl) ?_
    refine lv_bipush (v := (-9)) hx hb dX5_nextOf_44 (by decide) ?_
    refine lv_icmp_eq (tgt := 81) hx hb dX5_nextOf_46 (by decide) (fun c_2 => ?_) (fun c_2 => ?_)
    ·
      refine lv_iinc (v := nI (j + 1)) (lv' := [(5, .int (nI (j + 1))), (7, .int ((10 * (f_X5_held sM i1 (nI j))) - (f_X5_offerOf sM i1 (nI j)))), (6, .int (f_X5_offerOf sM i1 (nI j))), (0, .ref (am 0)), (1, .int i1), (2, .ref (am 8)), (3, .int a1), (4, .int a2)]) hx hb dX5_nextOf_81 hl (k := 7) rfl (nI_1 j) (by decide) rfl (fun ls hl => ?_)
      refine lv_goto (tgt := 9) hx hb dX5_nextOf_84 (by decide) ?_
      have eg : g_X5_nextOf_lp sM i1 (r + 1) j a1 a2 = g_X5_nextOf_lp sM i1 r (j + 1) a1 a2 := by
        rw [g_X5_nextOf_lp, if_pos c_2]
      rw [eg] at hQ
      exact ih (j + 1) a1 a2 _ _ _ (by omega) hP hD hS (lv_sub hl [3, 4, 5, 6, 7, 0] rfl) hQ
    ·
      refine lv_aload_n hx hb dX5_nextOf_49 rfl (lv_at hl 4 rfl) ?_
      refine lv_bipush (v := 10) hx hb dX5_nextOf_50 (by decide) ?_
      refine lv_iload_n hx hb dX5_nextOf_52 rfl (lv_at hl 3 rfl) ?_
      refine lv_imul hx hb dX5_nextOf_53 ?_
      refine lv_iload hx hb dX5_nextOf_54 (lv_at hl 7 rfl) ?_
      refine lv_iadd hx hb dX5_nextOf_56 ?_
      refine va_zald (f := sM 8) hx hb hK hP 8 1 rfl rfl (k_in10 h1 (vp_in_nI (by omega) (by omega))) dX5_nextOf_57 ?_
      refine lv_if_ne (tgt := 81) hx hb dX5_nextOf_58 (by decide) (fun c_3 => ?_) (fun c_3 => ?_)
      ·
        refine lv_iinc (v := nI (j + 1)) (lv' := [(5, .int (nI (j + 1))), (7, .int ((10 * (f_X5_held sM i1 (nI j))) - (f_X5_offerOf sM i1 (nI j)))), (6, .int (f_X5_offerOf sM i1 (nI j))), (0, .ref (am 0)), (1, .int i1), (2, .ref (am 8)), (3, .int a1), (4, .int a2)]) hx hb dX5_nextOf_81 hl (k := 7) rfl (nI_1 j) (by decide) rfl (fun ls hl => ?_)
        refine lv_goto (tgt := 9) hx hb dX5_nextOf_84 (by decide) ?_
        have eg : g_X5_nextOf_lp sM i1 (r + 1) j a1 a2 = g_X5_nextOf_lp sM i1 r (j + 1) a1 a2 := by
          rw [g_X5_nextOf_lp, if_neg c_2, if_neg c_3]
        rw [eg] at hQ
        exact ih (j + 1) a1 a2 _ _ _ (by omega) hP hD hS (lv_sub hl [3, 4, 5, 6, 7, 0] rfl) hQ
      ·
        refine lv_iload_n hx hb dX5_nextOf_61 rfl (lv_at hl 5 rfl) ?_
        refine lv_bipush (v := (-9)) hx hb dX5_nextOf_62 (by decide) ?_
        refine lv_icmp_eq (tgt := 74) hx hb dX5_nextOf_64 (by decide) (fun c_4 => ?_) (fun c_4 => ?_)
        ·
          refine lv_iload hx hb dX5_nextOf_74 (lv_at hl 7 rfl) ?_
          refine lv_istore_n (lv' := [(3, .int (nI j)), (7, .int ((10 * (f_X5_held sM i1 (nI j))) - (f_X5_offerOf sM i1 (nI j)))), (6, .int (f_X5_offerOf sM i1 (nI j))), (0, .ref (am 0)), (1, .int i1), (2, .ref (am 8)), (4, .int a2), (5, .int (nI j))]) hx hb dX5_nextOf_76 rfl hl (by decide) rfl (fun ls hl => ?_)
          refine lv_iload hx hb dX5_nextOf_77 (lv_at hl 1 rfl) ?_
          refine lv_istore (lv' := [(4, .int ((10 * (f_X5_held sM i1 (nI j))) - (f_X5_offerOf sM i1 (nI j)))), (3, .int (nI j)), (7, .int ((10 * (f_X5_held sM i1 (nI j))) - (f_X5_offerOf sM i1 (nI j)))), (6, .int (f_X5_offerOf sM i1 (nI j))), (0, .ref (am 0)), (1, .int i1), (2, .ref (am 8)), (5, .int (nI j))]) hx hb dX5_nextOf_79 hl (by decide) rfl (fun ls hl => ?_)
          refine lv_iinc (v := nI (j + 1)) (lv' := [(5, .int (nI (j + 1))), (4, .int ((10 * (f_X5_held sM i1 (nI j))) - (f_X5_offerOf sM i1 (nI j)))), (3, .int (nI j)), (7, .int ((10 * (f_X5_held sM i1 (nI j))) - (f_X5_offerOf sM i1 (nI j)))), (6, .int (f_X5_offerOf sM i1 (nI j))), (0, .ref (am 0)), (1, .int i1), (2, .ref (am 8))]) hx hb dX5_nextOf_81 hl (k := 7) rfl (nI_1 j) (by decide) rfl (fun ls hl => ?_)
          refine lv_goto (tgt := 9) hx hb dX5_nextOf_84 (by decide) ?_
          have eg : g_X5_nextOf_lp sM i1 (r + 1) j a1 a2 = g_X5_nextOf_lp sM i1 r (j + 1) (nI j) ((10 * (f_X5_held sM i1 (nI j))) - (f_X5_offerOf sM i1 (nI j))) := by
            rw [g_X5_nextOf_lp, if_neg c_2, if_pos c_3, if_pos c_4]
          rw [eg] at hQ
          exact ih (j + 1) (nI j) ((10 * (f_X5_held sM i1 (nI j))) - (f_X5_offerOf sM i1 (nI j))) _ _ _ (by omega) hP hD hS (lv_sub hl [5, 6, 7, 2, 1, 0] rfl) hQ
        ·
          refine lv_iload hx hb dX5_nextOf_67 (lv_at hl 0 rfl) ?_
          refine lv_iload hx hb dX5_nextOf_69 (lv_at hl 6 rfl) ?_
          refine lv_icmp_le (tgt := 81) hx hb dX5_nextOf_71 (by decide) (fun c_5 => ?_) (fun c_5 => ?_)
          ·
            refine lv_iinc (v := nI (j + 1)) (lv' := [(5, .int (nI (j + 1))), (7, .int ((10 * (f_X5_held sM i1 (nI j))) - (f_X5_offerOf sM i1 (nI j)))), (6, .int (f_X5_offerOf sM i1 (nI j))), (0, .ref (am 0)), (1, .int i1), (2, .ref (am 8)), (3, .int a1), (4, .int a2)]) hx hb dX5_nextOf_81 hl (k := 7) rfl (nI_1 j) (by decide) rfl (fun ls hl => ?_)
            refine lv_goto (tgt := 9) hx hb dX5_nextOf_84 (by decide) ?_
            have eg : g_X5_nextOf_lp sM i1 (r + 1) j a1 a2 = g_X5_nextOf_lp sM i1 r (j + 1) a1 a2 := by
              rw [g_X5_nextOf_lp, if_neg c_2, if_pos c_3, if_neg c_4, if_pos c_5]
            rw [eg] at hQ
            exact ih (j + 1) a1 a2 _ _ _ (by omega) hP hD hS (lv_sub hl [3, 4, 5, 6, 7, 0] rfl) hQ
          ·
            refine lv_iload hx hb dX5_nextOf_74 (lv_at hl 7 rfl) ?_
            refine lv_istore_n (lv' := [(3, .int (nI j)), (7, .int ((10 * (f_X5_held sM i1 (nI j))) - (f_X5_offerOf sM i1 (nI j)))), (6, .int (f_X5_offerOf sM i1 (nI j))), (0, .ref (am 0)), (1, .int i1), (2, .ref (am 8)), (4, .int a2), (5, .int (nI j))]) hx hb dX5_nextOf_76 rfl hl (by decide) rfl (fun ls hl => ?_)
            refine lv_iload hx hb dX5_nextOf_77 (lv_at hl 1 rfl) ?_
            refine lv_istore (lv' := [(4, .int ((10 * (f_X5_held sM i1 (nI j))) - (f_X5_offerOf sM i1 (nI j)))), (3, .int (nI j)), (7, .int ((10 * (f_X5_held sM i1 (nI j))) - (f_X5_offerOf sM i1 (nI j)))), (6, .int (f_X5_offerOf sM i1 (nI j))), (0, .ref (am 0)), (1, .int i1), (2, .ref (am 8)), (5, .int (nI j))]) hx hb dX5_nextOf_79 hl (by decide) rfl (fun ls hl => ?_)
            refine lv_iinc (v := nI (j + 1)) (lv' := [(5, .int (nI (j + 1))), (4, .int ((10 * (f_X5_held sM i1 (nI j))) - (f_X5_offerOf sM i1 (nI j)))), (3, .int (nI j)), (7, .int ((10 * (f_X5_held sM i1 (nI j))) - (f_X5_offerOf sM i1 (nI j)))), (6, .int (f_X5_offerOf sM i1 (nI j))), (0, .ref (am 0)), (1, .int i1), (2, .ref (am 8))]) hx hb dX5_nextOf_81 hl (k := 7) rfl (nI_1 j) (by decide) rfl (fun ls hl => ?_)
            refine lv_goto (tgt := 9) hx hb dX5_nextOf_84 (by decide) ?_
            have eg : g_X5_nextOf_lp sM i1 (r + 1) j a1 a2 = g_X5_nextOf_lp sM i1 r (j + 1) (nI j) ((10 * (f_X5_held sM i1 (nI j))) - (f_X5_offerOf sM i1 (nI j))) := by
              rw [g_X5_nextOf_lp, if_neg c_2, if_pos c_3, if_neg c_4, if_neg c_5]
            rw [eg] at hQ
            exact ih (j + 1) (nI j) ((10 * (f_X5_held sM i1 (nI j))) - (f_X5_offerOf sM i1 (nI j))) _ _ _ (by omega) hP hD hS (lv_sub hl [5, 6, 7, 2, 1, 0] rfl) hQ
def f_X5_nextOf (sM : Nat → Nat → Int32) (i1 : Int32) : Int32 :=
  (g_X5_nextOf_lp sM i1 ((sM 0 1).toNatClampNeg) 0 (-9) 0).1
set_option maxHeartbeats 4000000 in
set_option maxRecDepth 100000 in
theorem c_X5_nextOf (l : Launch) (k : K_X) (am : Nat → Nat) (sM : Nat → Nat → Int32) (i1 : Int32) (h1 : vp_in i1 10) (hNs : k_n (sM 0 1) 10) : k_C l yX5_nextOf wsX5_nextOf (k_rm 2 45) k [.ref (am 0), .int i1, .ref (am 8)] (w_M k am sM) (k_qI k (f_X5_nextOf sM i1) (w_M k am sM)) := by
  refine k_mk (cc := cX5_nextOf) (maxL := 8) (ret := (some .int)) (by decide) rfl (Nat.le_of_ble_eq_true rfl) ?_
  intro p e s m below meth c A ls C0 hP hD hS hl
  obtain ⟨hx, hb, hr, hts, hown, hlocks, hml, hA, hK⟩ := id C0
  have hown : s.vm.findClass RX5 = some m.cls := hown
  have hl : lv_has ls 8 [(0, .ref (am 0)), (1, .int i1), (2, .ref (am 8))] := hl
  refine lv_bipush (v := (-9)) hx hb dX5_nextOf_0 (by decide) ?_
  refine lv_istore_n (lv' := [(3, .int (-9)), (0, .ref (am 0)), (1, .int i1), (2, .ref (am 8))]) hx hb dX5_nextOf_2 rfl hl (by decide) rfl (fun ls hl => ?_)
  refine lv_iconst (v := 0) hx hb dX5_nextOf_3 (by decide) ?_
  refine lv_istore (lv' := [(4, .int 0), (3, .int (-9)), (0, .ref (am 0)), (1, .int i1), (2, .ref (am 8))]) hx hb dX5_nextOf_4 hl (by decide) rfl (fun ls hl => ?_)
  refine lv_iconst (v := 0) hx hb dX5_nextOf_6 (by decide) ?_
  refine lv_istore (lv' := [(5, .int 0), (4, .int 0), (3, .int (-9)), (0, .ref (am 0)), (1, .int i1), (2, .ref (am 8))]) hx hb dX5_nextOf_7 hl (by decide) rfl (fun ls hl => ?_)
  have hl : lv_has ls 8 [(0, .ref (am 0)), (1, .int i1), (2, .ref (am 8)), (3, .int (-9)), (4, .int 0), (5, .int (nI 0))] := lv_sub hl [3, 4, 5, 2, 1, 0] rfl
  refine lp_X5_nextOf_lp k am sM i1 C0 (by first | assumption | omega) (by first | assumption | omega) ((sM 0 1).toNatClampNeg) 0 (-9) 0 _ _ _ (by omega) hP hD hS hl (fun H locs ls hP hD hS hl => ?_)
  refine lv_iload_n hx hb dX5_nextOf_87 rfl (lv_at hl 3 rfl) ?_
  have ef : f_X5_nextOf sM i1 = (g_X5_nextOf_lp sM i1 ((sM 0 1).toNatClampNeg) 0 (-9) 0).1 := by
    rw [f_X5_nextOf]
  exact k_reti hx hb hr hK hP hD hS hlocks dX5_nextOf_88 (by rw [ef])
def g_X5_nextOf_t_lp (sM : Nat → Nat → Int32) (i1 : Int32) : Nat → Nat → Int32 → Int32 → Int32 × Int32
  | 0, j, a1, a2 => (a1, a2)
  | r + 1, j, a1, a2 => if (f_X5_offerOf sM i1 (nI j)) = (-9) then g_X5_nextOf_t_lp sM i1 r (j + 1) a1 a2
    else if ((sM 18) ((10 * i1) + (nI j)).toNatClampNeg) = 0 then (if a1 = (-9) then g_X5_nextOf_t_lp sM i1 r (j + 1) (nI j) ((10 * (f_X5_held sM i1 (nI j))) - (f_X5_offerOf sM i1 (nI j)))
      else if ((10 * (f_X5_held sM i1 (nI j))) - (f_X5_offerOf sM i1 (nI j))) ≤ a2 then g_X5_nextOf_t_lp sM i1 r (j + 1) a1 a2
      else g_X5_nextOf_t_lp sM i1 r (j + 1) (nI j) ((10 * (f_X5_held sM i1 (nI j))) - (f_X5_offerOf sM i1 (nI j))))
    else g_X5_nextOf_t_lp sM i1 r (j + 1) a1 a2
set_option maxHeartbeats 4000000 in
set_option maxRecDepth 100000 in
theorem lp_X5_nextOf_t_lp {p : Program} {l : Launch} {e : Env} {s : State} {m : MethodId} {below : List Frame} {meth : Method} {c : Code} {A : Nat → Prop} {Q : State → Prop} {av : Array Value} (k : K_X) (am : Nat → Nat) (sM : Nat → Nat → Int32) (i1 : Int32) (C0 : k_Cx p s m meth c k cX5_nextOf (some .int) wsX5_nextOf RX5 8 av A) (h1 : vp_in i1 10) (hNs : k_n (sM 0 1) 10) : ∀ (r j : Nat) (a1 : Int32) (a2 : Int32) (H : Heap) (locs : List Loc) (ls : Array Slot), j + r = (sM 0 1).toNatClampNeg → va_P k.1 vwCl (w_M k am sM) H → va_D A (w_M k am sM) → va_S A s.heap H locs → lv_has ls 8 [(0, .ref (am 0)), (1, .int i1), (2, .ref (am 18)), (3, .int a1), (4, .int a2), (5, .int (nI j))] → (∀ (H : Heap) (locs : List Loc) (ls : Array Slot), va_P k.1 vwCl (w_M k am sM) H → va_D A (w_M k am sM) → va_S A s.heap H locs → lv_has ls 8 [(0, .ref (am 0)), (1, .int i1), (2, .ref (am 18)), (3, .int ((g_X5_nextOf_t_lp sM i1 r j a1 a2).1)), (4, .int ((g_X5_nextOf_t_lp sM i1 r j a1 a2).2))] → W p l e (k_rm 2 45) s m av below meth c H locs 0 0 Q (F0 m 87 ls [])) → W p l e (k_rm 2 45) s m av below meth c H locs 0 0 Q (F0 m 9 ls []) := by
  obtain ⟨hx, hb, hr, hts, hown, hlocks, hml, hA, hK⟩ := id C0
  have hq := hNs.2
  intro r
  induction r with
  | zero =>
    intro j a1 a2 H locs ls hj hP hD hS hl hQ
    refine lv_iload hx hb dX5_nextOf_9 (lv_at hl 5 rfl) ?_
    refine lv_aload_n hx hb dX5_nextOf_11 rfl (lv_at hl 0 rfl) ?_
    refine va_get (D := k.1) (ci := 5) (v := .int (sM 0 1)) (C := RX5) (T := TX5) (N := 28) hx hb hts in_X5_nextOf_X5 hown hK hP 0 rfl rfl 1 (by decide) (k_w hts 1 rfl) (fun _ h9 => h9) rfl dX5_nextOf_12 ?_
    refine lv_icmp_ge (tgt := 87) hx hb dX5_nextOf_15 (by decide) (fun c_1 => ?_) (fun c_1 => ?_)
    rotate_left
    · exact absurd (hNs.ge (by omega)) c_1
    have eg : g_X5_nextOf_t_lp sM i1 0 j a1 a2 = (a1, a2) := by
      rw [g_X5_nextOf_t_lp]
    rw [eg] at hQ
    exact hQ _ _ _ hP hD hS (lv_sub hl [0, 1, 2, 3, 4] rfl)
  | succ r ih =>
    intro j a1 a2 H locs ls hj hP hD hS hl hQ
    refine lv_iload hx hb dX5_nextOf_9 (lv_at hl 5 rfl) ?_
    refine lv_aload_n hx hb dX5_nextOf_11 rfl (lv_at hl 0 rfl) ?_
    refine va_get (D := k.1) (ci := 5) (v := .int (sM 0 1)) (C := RX5) (T := TX5) (N := 28) hx hb hts in_X5_nextOf_X5 hown hK hP 0 rfl rfl 1 (by decide) (k_w hts 1 rfl) (fun _ h9 => h9) rfl dX5_nextOf_12 ?_
    refine lv_icmp_ge (tgt := 87) hx hb dX5_nextOf_15 (by decide) (fun c_1 => ?_) (fun c_1 => ?_)
    · exact absurd c_1 (hNs.nge (by omega))
    refine lv_aload_n hx hb dX5_nextOf_18 rfl (lv_at hl 0 rfl) ?_
    refine lv_iload_n hx hb dX5_nextOf_19 rfl (lv_at hl 1 rfl) ?_
    refine lv_iload hx hb dX5_nextOf_20 (lv_at hl 5 rfl) ?_
    refine k_Vi (wr := ([] : va_W)) (ws' := w_M k am sM) (Rv := (f_X5_offerOf sM i1 (nI j))) (rest := []) ⟨hx, hb, hml, hown, hts⟩ hK hA hP hD hS (c_X5_offerOf l k am sM i1 (nI j) (h1) (vp_in_nI (by omega) (by omega))) (cwV 2 hts gX5_nextOf_X5_offerOf rfl rfl rfl (by decide +kernel) ⟨Nat.le_of_ble_eq_true rfl, Nat.le_of_ble_eq_true rfl⟩) (va_recv hK hP (ci := 5) (q0 := 0) rfl rfl) rfl hl.1 rfl (Nat.le_of_ble_eq_true rfl) dX5_nextOf_22 (Nat.zero_le _) (Nat.zero_le _) [0, 1, 2, 3, 4, 5, 6, 7, 8, 9, 10, 11, 12, 13, 14, 15, 16, 17, 18, 19, 20, 21] [] [0, 1, 2, 3, 4, 5, 6, 7, 8, 9, 10, 11, 12, 13, 14, 15, 16, 17, 18, 19, 20, 21] rfl rfl rfl (by decide) rfl rfl rfl (fun H locs hP hD hS => ?_)
    refine lv_istore (lv' := [(6, .int (f_X5_offerOf sM i1 (nI j))), (0, .ref (am 0)), (1, .int i1), (2, .ref (am 18)), (3, .int a1), (4, .int a2), (5, .int (nI j))]) hx hb dX5_nextOf_25 hl (by decide) rfl (fun ls hl => ?_)
    refine lv_bipush (v := 10) hx hb dX5_nextOf_27 (by decide) ?_
    refine lv_aload_n hx hb dX5_nextOf_29 rfl (lv_at hl 1 rfl) ?_
    refine lv_iload_n hx hb dX5_nextOf_30 rfl (lv_at hl 2 rfl) ?_
    refine lv_iload hx hb dX5_nextOf_31 (lv_at hl 6 rfl) ?_
    refine k_Vi (wr := ([] : va_W)) (ws' := w_M k am sM) (Rv := (f_X5_held sM i1 (nI j))) (rest := [.int 10]) ⟨hx, hb, hml, hown, hts⟩ hK hA hP hD hS (c_X5_held l k am sM i1 (nI j) (h1) (vp_in_nI (by omega) (by omega))) (cwV 2 hts gX5_nextOf_X5_held rfl rfl rfl (by decide +kernel) ⟨Nat.le_of_ble_eq_true rfl, Nat.le_of_ble_eq_true rfl⟩) (va_recv hK hP (ci := 5) (q0 := 0) rfl rfl) rfl hl.1 rfl (Nat.le_of_ble_eq_true rfl) dX5_nextOf_33 (Nat.zero_le _) (Nat.zero_le _) [0, 1, 2, 3, 4, 5, 6, 7, 8, 9, 10, 11, 12, 13, 14, 15, 16, 17, 18, 19, 20, 21] [] [0, 1, 2, 3, 4, 5, 6, 7, 8, 9, 10, 11, 12, 13, 14, 15, 16, 17, 18, 19, 20, 21] rfl rfl rfl (by decide) rfl rfl rfl (fun H locs hP hD hS => ?_)
    refine lv_imul hx hb dX5_nextOf_36 ?_
    refine lv_iload hx hb dX5_nextOf_37 (lv_at hl 0 rfl) ?_
    refine lv_isub hx hb dX5_nextOf_39 ?_
    refine lv_istore (lv' := [(7, .int ((10 * (f_X5_held sM i1 (nI j))) - (f_X5_offerOf sM i1 (nI j)))), (6, .int (f_X5_offerOf sM i1 (nI j))), (0, .ref (am 0)), (1, .int i1), (2, .ref (am 18)), (3, .int a1), (4, .int a2), (5, .int (nI j))]) hx hb dX5_nextOf_40 hl (by decide) rfl (fun ls hl => ?_)
    refine lv_iload hx hb dX5_nextOf_42 (lv_at hl 1 rfl) ?_
    refine lv_bipush (v := (-9)) hx hb dX5_nextOf_44 (by decide) ?_
    refine lv_icmp_eq (tgt := 81) hx hb dX5_nextOf_46 (by decide) (fun c_2 => ?_) (fun c_2 => ?_)
    ·
      refine lv_iinc (v := nI (j + 1)) (lv' := [(5, .int (nI (j + 1))), (7, .int ((10 * (f_X5_held sM i1 (nI j))) - (f_X5_offerOf sM i1 (nI j)))), (6, .int (f_X5_offerOf sM i1 (nI j))), (0, .ref (am 0)), (1, .int i1), (2, .ref (am 18)), (3, .int a1), (4, .int a2)]) hx hb dX5_nextOf_81 hl (k := 7) rfl (nI_1 j) (by decide) rfl (fun ls hl => ?_)
      refine lv_goto (tgt := 9) hx hb dX5_nextOf_84 (by decide) ?_
      have eg : g_X5_nextOf_t_lp sM i1 (r + 1) j a1 a2 = g_X5_nextOf_t_lp sM i1 r (j + 1) a1 a2 := by
        rw [g_X5_nextOf_t_lp, if_pos c_2]
      rw [eg] at hQ
      exact ih (j + 1) a1 a2 _ _ _ (by omega) hP hD hS (lv_sub hl [3, 4, 5, 6, 7, 0] rfl) hQ
    ·
      refine lv_aload_n hx hb dX5_nextOf_49 rfl (lv_at hl 4 rfl) ?_
      refine lv_bipush (v := 10) hx hb dX5_nextOf_50 (by decide) ?_
      refine lv_iload_n hx hb dX5_nextOf_52 rfl (lv_at hl 3 rfl) ?_
      refine lv_imul hx hb dX5_nextOf_53 ?_
      refine lv_iload hx hb dX5_nextOf_54 (lv_at hl 7 rfl) ?_
      refine lv_iadd hx hb dX5_nextOf_56 ?_
      refine va_zald (f := sM 18) hx hb hK hP 18 1 rfl rfl (k_in10 h1 (vp_in_nI (by omega) (by omega))) dX5_nextOf_57 ?_
      refine lv_if_ne (tgt := 81) hx hb dX5_nextOf_58 (by decide) (fun c_3 => ?_) (fun c_3 => ?_)
      ·
        refine lv_iinc (v := nI (j + 1)) (lv' := [(5, .int (nI (j + 1))), (7, .int ((10 * (f_X5_held sM i1 (nI j))) - (f_X5_offerOf sM i1 (nI j)))), (6, .int (f_X5_offerOf sM i1 (nI j))), (0, .ref (am 0)), (1, .int i1), (2, .ref (am 18)), (3, .int a1), (4, .int a2)]) hx hb dX5_nextOf_81 hl (k := 7) rfl (nI_1 j) (by decide) rfl (fun ls hl => ?_)
        refine lv_goto (tgt := 9) hx hb dX5_nextOf_84 (by decide) ?_
        have eg : g_X5_nextOf_t_lp sM i1 (r + 1) j a1 a2 = g_X5_nextOf_t_lp sM i1 r (j + 1) a1 a2 := by
          rw [g_X5_nextOf_t_lp, if_neg c_2, if_neg c_3]
        rw [eg] at hQ
        exact ih (j + 1) a1 a2 _ _ _ (by omega) hP hD hS (lv_sub hl [3, 4, 5, 6, 7, 0] rfl) hQ
      ·
        refine lv_iload_n hx hb dX5_nextOf_61 rfl (lv_at hl 5 rfl) ?_
        refine lv_bipush (v := (-9)) hx hb dX5_nextOf_62 (by decide) ?_
        refine lv_icmp_eq (tgt := 74) hx hb dX5_nextOf_64 (by decide) (fun c_4 => ?_) (fun c_4 => ?_)
        ·
          refine lv_iload hx hb dX5_nextOf_74 (lv_at hl 7 rfl) ?_
          refine lv_istore_n (lv' := [(3, .int (nI j)), (7, .int ((10 * (f_X5_held sM i1 (nI j))) - (f_X5_offerOf sM i1 (nI j)))), (6, .int (f_X5_offerOf sM i1 (nI j))), (0, .ref (am 0)), (1, .int i1), (2, .ref (am 18)), (4, .int a2), (5, .int (nI j))]) hx hb dX5_nextOf_76 rfl hl (by decide) rfl (fun ls hl => ?_)
          refine lv_iload hx hb dX5_nextOf_77 (lv_at hl 1 rfl) ?_
          refine lv_istore (lv' := [(4, .int ((10 * (f_X5_held sM i1 (nI j))) - (f_X5_offerOf sM i1 (nI j)))), (3, .int (nI j)), (7, .int ((10 * (f_X5_held sM i1 (nI j))) - (f_X5_offerOf sM i1 (nI j)))), (6, .int (f_X5_offerOf sM i1 (nI j))), (0, .ref (am 0)), (1, .int i1), (2, .ref (am 18)), (5, .int (nI j))]) hx hb dX5_nextOf_79 hl (by decide) rfl (fun ls hl => ?_)
          refine lv_iinc (v := nI (j + 1)) (lv' := [(5, .int (nI (j + 1))), (4, .int ((10 * (f_X5_held sM i1 (nI j))) - (f_X5_offerOf sM i1 (nI j)))), (3, .int (nI j)), (7, .int ((10 * (f_X5_held sM i1 (nI j))) - (f_X5_offerOf sM i1 (nI j)))), (6, .int (f_X5_offerOf sM i1 (nI j))), (0, .ref (am 0)), (1, .int i1), (2, .ref (am 18))]) hx hb dX5_nextOf_81 hl (k := 7) rfl (nI_1 j) (by decide) rfl (fun ls hl => ?_)
          refine lv_goto (tgt := 9) hx hb dX5_nextOf_84 (by decide) ?_
          have eg : g_X5_nextOf_t_lp sM i1 (r + 1) j a1 a2 = g_X5_nextOf_t_lp sM i1 r (j + 1) (nI j) ((10 * (f_X5_held sM i1 (nI j))) - (f_X5_offerOf sM i1 (nI j))) := by
            rw [g_X5_nextOf_t_lp, if_neg c_2, if_pos c_3, if_pos c_4]
          rw [eg] at hQ
          exact ih (j + 1) (nI j) ((10 * (f_X5_held sM i1 (nI j))) - (f_X5_offerOf sM i1 (nI j))) _ _ _ (by omega) hP hD hS (lv_sub hl [5, 6, 7, 2, 1, 0] rfl) hQ
        ·
          refine lv_iload hx hb dX5_nextOf_67 (lv_at hl 0 rfl) ?_
          refine lv_iload hx hb dX5_nextOf_69 (lv_at hl 6 rfl) ?_
          refine lv_icmp_le (tgt := 81) hx hb dX5_nextOf_71 (by decide) (fun c_5 => ?_) (fun c_5 => ?_)
          ·
            refine lv_iinc (v := nI (j + 1)) (lv' := [(5, .int (nI (j + 1))), (7, .int ((10 * (f_X5_held sM i1 (nI j))) - (f_X5_offerOf sM i1 (nI j)))), (6, .int (f_X5_offerOf sM i1 (nI j))), (0, .ref (am 0)), (1, .int i1), (2, .ref (am 18)), (3, .int a1), (4, .int a2)]) hx hb dX5_nextOf_81 hl (k := 7) rfl (nI_1 j) (by decide) rfl (fun ls hl => ?_)
            refine lv_goto (tgt := 9) hx hb dX5_nextOf_84 (by decide) ?_
            have eg : g_X5_nextOf_t_lp sM i1 (r + 1) j a1 a2 = g_X5_nextOf_t_lp sM i1 r (j + 1) a1 a2 := by
              rw [g_X5_nextOf_t_lp, if_neg c_2, if_pos c_3, if_neg c_4, if_pos c_5]
            rw [eg] at hQ
            exact ih (j + 1) a1 a2 _ _ _ (by omega) hP hD hS (lv_sub hl [3, 4, 5, 6, 7, 0] rfl) hQ
          ·
            refine lv_iload hx hb dX5_nextOf_74 (lv_at hl 7 rfl) ?_
            refine lv_istore_n (lv' := [(3, .int (nI j)), (7, .int ((10 * (f_X5_held sM i1 (nI j))) - (f_X5_offerOf sM i1 (nI j)))), (6, .int (f_X5_offerOf sM i1 (nI j))), (0, .ref (am 0)), (1, .int i1), (2, .ref (am 18)), (4, .int a2), (5, .int (nI j))]) hx hb dX5_nextOf_76 rfl hl (by decide) rfl (fun ls hl => ?_)
            refine lv_iload hx hb dX5_nextOf_77 (lv_at hl 1 rfl) ?_
            refine lv_istore (lv' := [(4, .int ((10 * (f_X5_held sM i1 (nI j))) - (f_X5_offerOf sM i1 (nI j)))), (3, .int (nI j)), (7, .int ((10 * (f_X5_held sM i1 (nI j))) - (f_X5_offerOf sM i1 (nI j)))), (6, .int (f_X5_offerOf sM i1 (nI j))), (0, .ref (am 0)), (1, .int i1), (2, .ref (am 18)), (5, .int (nI j))]) hx hb dX5_nextOf_79 hl (by decide) rfl (fun ls hl => ?_)
            refine lv_iinc (v := nI (j + 1)) (lv' := [(5, .int (nI (j + 1))), (4, .int ((10 * (f_X5_held sM i1 (nI j))) - (f_X5_offerOf sM i1 (nI j)))), (3, .int (nI j)), (7, .int ((10 * (f_X5_held sM i1 (nI j))) - (f_X5_offerOf sM i1 (nI j)))), (6, .int (f_X5_offerOf sM i1 (nI j))), (0, .ref (am 0)), (1, .int i1), (2, .ref (am 18))]) hx hb dX5_nextOf_81 hl (k := 7) rfl (nI_1 j) (by decide) rfl (fun ls hl => ?_)
            refine lv_goto (tgt := 9) hx hb dX5_nextOf_84 (by decide) ?_
            have eg : g_X5_nextOf_t_lp sM i1 (r + 1) j a1 a2 = g_X5_nextOf_t_lp sM i1 r (j + 1) (nI j) ((10 * (f_X5_held sM i1 (nI j))) - (f_X5_offerOf sM i1 (nI j))) := by
              rw [g_X5_nextOf_t_lp, if_neg c_2, if_pos c_3, if_neg c_4, if_neg c_5]
            rw [eg] at hQ
            exact ih (j + 1) (nI j) ((10 * (f_X5_held sM i1 (nI j))) - (f_X5_offerOf sM i1 (nI j))) _ _ _ (by omega) hP hD hS (lv_sub hl [5, 6, 7, 2, 1, 0] rfl) hQ
def f_X5_nextOf_t (sM : Nat → Nat → Int32) (i1 : Int32) : Int32 :=
  (g_X5_nextOf_t_lp sM i1 ((sM 0 1).toNatClampNeg) 0 (-9) 0).1
set_option maxHeartbeats 4000000 in
set_option maxRecDepth 100000 in
theorem c_X5_nextOf_t (l : Launch) (k : K_X) (am : Nat → Nat) (sM : Nat → Nat → Int32) (i1 : Int32) (h1 : vp_in i1 10) (hNs : k_n (sM 0 1) 10) : k_C l yX5_nextOf wsX5_nextOf (k_rm 2 45) k [.ref (am 0), .int i1, .ref (am 18)] (w_M k am sM) (k_qI k (f_X5_nextOf_t sM i1) (w_M k am sM)) := by
  refine k_mk (cc := cX5_nextOf) (maxL := 8) (ret := (some .int)) (by decide) rfl (Nat.le_of_ble_eq_true rfl) ?_
  intro p e s m below meth c A ls C0 hP hD hS hl
  obtain ⟨hx, hb, hr, hts, hown, hlocks, hml, hA, hK⟩ := id C0
  have hown : s.vm.findClass RX5 = some m.cls := hown
  have hl : lv_has ls 8 [(0, .ref (am 0)), (1, .int i1), (2, .ref (am 18))] := hl
  refine lv_bipush (v := (-9)) hx hb dX5_nextOf_0 (by decide) ?_
  refine lv_istore_n (lv' := [(3, .int (-9)), (0, .ref (am 0)), (1, .int i1), (2, .ref (am 18))]) hx hb dX5_nextOf_2 rfl hl (by decide) rfl (fun ls hl => ?_)
  refine lv_iconst (v := 0) hx hb dX5_nextOf_3 (by decide) ?_
  refine lv_istore (lv' := [(4, .int 0), (3, .int (-9)), (0, .ref (am 0)), (1, .int i1), (2, .ref (am 18))]) hx hb dX5_nextOf_4 hl (by decide) rfl (fun ls hl => ?_)
  refine lv_iconst (v := 0) hx hb dX5_nextOf_6 (by decide) ?_
  refine lv_istore (lv' := [(5, .int 0), (4, .int 0), (3, .int (-9)), (0, .ref (am 0)), (1, .int i1), (2, .ref (am 18))]) hx hb dX5_nextOf_7 hl (by decide) rfl (fun ls hl => ?_)
  have hl : lv_has ls 8 [(0, .ref (am 0)), (1, .int i1), (2, .ref (am 18)), (3, .int (-9)), (4, .int 0), (5, .int (nI 0))] := lv_sub hl [3, 4, 5, 2, 1, 0] rfl
  refine lp_X5_nextOf_t_lp k am sM i1 C0 (by first | assumption | omega) (by first | assumption | omega) ((sM 0 1).toNatClampNeg) 0 (-9) 0 _ _ _ (by omega) hP hD hS hl (fun H locs ls hP hD hS hl => ?_)
  refine lv_iload_n hx hb dX5_nextOf_87 rfl (lv_at hl 3 rfl) ?_
  have ef : f_X5_nextOf_t sM i1 = (g_X5_nextOf_t_lp sM i1 ((sM 0 1).toNatClampNeg) 0 (-9) 0).1 := by
    rw [f_X5_nextOf_t]
  exact k_reti hx hb hr hK hP hD hS hlocks dX5_nextOf_88 (by rw [ef])
theorem in_X5_isTorn_X5 : ∀ w ∈ wsX50, w ∈ wsX5_isTorn := fun _ h => List.mem_cons_of_mem _ (List.mem_append_right _ h)
def f_X5_isTorn (sM : Nat → Nat → Int32) (i1 : Int32) (i2 : Int32) : Int32 :=
  if (f_X5_offerOf sM i2 i1) = (-9) then 0
  else if ((sM 9) i1.toNatClampNeg) = i2 then 0
  else if ((sM 9) i1.toNatClampNeg) = (-9) then (if ((sM 12) i2.toNatClampNeg) = (-9) then 1
    else if ((10 * (f_X5_held sM i2 i1)) - (f_X5_offerOf sM i2 i1)) ≤ ((10 * (f_X5_held sM i2 ((sM 12) i2.toNatClampNeg))) - ((sM 10) ((sM 12) i2.toNatClampNeg).toNatClampNeg)) then 0
    else 1)
  else if (f_X5_offerOf sM i2 i1) ≤ ((sM 10) i1.toNatClampNeg) then (if ((sM 12) i2.toNatClampNeg) = (-9) then 0
    else if ((10 * (f_X5_held sM i2 i1)) - (f_X5_offerOf sM i2 i1)) ≤ ((10 * (f_X5_held sM i2 ((sM 12) i2.toNatClampNeg))) - ((sM 10) ((sM 12) i2.toNatClampNeg).toNatClampNeg)) then 0
    else 0)
  else if ((sM 12) i2.toNatClampNeg) = (-9) then 1
  else if ((10 * (f_X5_held sM i2 i1)) - (f_X5_offerOf sM i2 i1)) ≤ ((10 * (f_X5_held sM i2 ((sM 12) i2.toNatClampNeg))) - ((sM 10) ((sM 12) i2.toNatClampNeg).toNatClampNeg)) then 0
  else 1
set_option maxHeartbeats 4000000 in
set_option maxRecDepth 100000 in
theorem c_X5_isTorn (l : Launch) (k : K_X) (am : Nat → Nat) (sM : Nat → Nat → Int32) (i1 : Int32) (i2 : Int32) (h1 : vp_in i1 10) (h2 : vp_in i2 10) (ho : k_o (sM 12 i2.toNatClampNeg) 10) : k_C l yX5_isTorn wsX5_isTorn (k_rm 2 45) k [.ref (am 0), .int i1, .int i2, .ref (am 9), .ref (am 10), .ref (am 12)] (w_M k am sM) (k_qI k (f_X5_isTorn sM i1 i2) (w_M k am sM)) := by
  refine k_mk (cc := cX5_isTorn) (maxL := 9) (ret := (some .boolean)) (by decide) rfl (Nat.le_of_ble_eq_true rfl) ?_
  intro p e s m below meth c A ls C0 hP hD hS hl
  obtain ⟨hx, hb, hr, hts, hown, hlocks, hml, hA, hK⟩ := id C0
  have hown : s.vm.findClass RX5 = some m.cls := hown
  have hl : lv_has ls 9 [(0, .ref (am 0)), (1, .int i1), (2, .int i2), (3, .ref (am 9)), (4, .ref (am 10)), (5, .ref (am 12))] := hl
  refine lv_aload_n hx hb dX5_isTorn_0 rfl (lv_at hl 0 rfl) ?_
  refine lv_iload_n hx hb dX5_isTorn_1 rfl (lv_at hl 2 rfl) ?_
  refine lv_iload_n hx hb dX5_isTorn_2 rfl (lv_at hl 1 rfl) ?_
  refine k_Vi (wr := ([] : va_W)) (ws' := w_M k am sM) (Rv := (f_X5_offerOf sM i2 i1)) (rest := []) ⟨hx, hb, hml, hown, hts⟩ hK hA hP hD hS (c_X5_offerOf l k am sM i2 i1 (h2) (h1)) (cwV 2 hts gX5_isTorn_X5_offerOf rfl rfl rfl (by decide +kernel) ⟨Nat.le_of_ble_eq_true rfl, Nat.le_of_ble_eq_true rfl⟩) (va_recv hK hP (ci := 5) (q0 := 0) rfl rfl) rfl hl.1 rfl (Nat.le_of_ble_eq_true rfl) dX5_isTorn_3 (Nat.zero_le _) (Nat.zero_le _) [0, 1, 2, 3, 4, 5, 6, 7, 8, 9, 10, 11, 12, 13, 14, 15, 16, 17, 18, 19, 20, 21] [] [0, 1, 2, 3, 4, 5, 6, 7, 8, 9, 10, 11, 12, 13, 14, 15, 16, 17, 18, 19, 20, 21] rfl rfl rfl (by decide) rfl rfl rfl (fun H locs hP hD hS => ?_)
  refine lv_istore (lv' := [(6, .int (f_X5_offerOf sM i2 i1)), (0, .ref (am 0)), (1, .int i1), (2, .int i2), (3, .ref (am 9)), (4, .ref (am 10)), (5, .ref (am 12))]) hx hb dX5_isTorn_6 hl (by decide) rfl (fun ls hl => ?_)
  refine lv_iload hx hb dX5_isTorn_8 (lv_at hl 0 rfl) ?_
  refine lv_bipush (v := (-9)) hx hb dX5_isTorn_10 (by decide) ?_
  refine lv_icmp_eq (tgt := 22) hx hb dX5_isTorn_12 (by decide) (fun c_1 => ?_) (fun c_1 => ?_)
  ·
    refine lv_iconst (v := 0) hx hb dX5_isTorn_22 (by decide) ?_
    have ef : f_X5_isTorn sM i1 i2 = 0 := by
      rw [f_X5_isTorn, if_pos c_1]
    exact k_retz hx hb hr (by decide) hK hP hD hS hlocks dX5_isTorn_23 (by rw [ef])
  ·
    refine lv_aload_n hx hb dX5_isTorn_15 rfl (lv_at hl 4 rfl) ?_
    refine lv_iload_n hx hb dX5_isTorn_16 rfl (lv_at hl 2 rfl) ?_
    refine va_iald (f := sM 9) hx hb hK hP 9 0 rfl rfl (by first | assumption | exact ho.in (by assumption)) dX5_isTorn_17 ?_
    refine lv_iload_n hx hb dX5_isTorn_18 rfl (lv_at hl 3 rfl) ?_
    refine lv_icmp_ne (tgt := 24) hx hb dX5_isTorn_19 (by decide) (fun c_2 => ?_) (fun c_2 => ?_)
    ·
      refine lv_aload_n hx hb dX5_isTorn_24 rfl (lv_at hl 4 rfl) ?_
      refine lv_iload_n hx hb dX5_isTorn_25 rfl (lv_at hl 2 rfl) ?_
      refine va_iald (f := sM 9) hx hb hK hP 9 0 rfl rfl (by first | assumption | exact ho.in (by assumption)) dX5_isTorn_26 ?_
      refine lv_bipush (v := (-9)) hx hb dX5_isTorn_27 (by decide) ?_
      refine lv_icmp_eq (tgt := 41) hx hb dX5_isTorn_29 (by decide) (fun c_3 => ?_) (fun c_3 => ?_)
      ·
        refine lv_iconst (v := 1) hx hb dX5_isTorn_41 (by decide) ?_
        refine lv_goto (tgt := 46) hx hb dX5_isTorn_42 (by decide) ?_
        refine lv_istore (lv' := [(7, .int 1), (6, .int (f_X5_offerOf sM i2 i1)), (0, .ref (am 0)), (1, .int i1), (2, .int i2), (3, .ref (am 9)), (4, .ref (am 10)), (5, .ref (am 12))]) hx hb dX5_isTorn_46 hl (by decide) rfl (fun ls hl => ?_)
        refine lv_aload hx hb dX5_isTorn_48 (lv_at hl 7 rfl) ?_
        refine lv_iload_n hx hb dX5_isTorn_50 rfl (lv_at hl 4 rfl) ?_
        refine va_iald (f := sM 12) hx hb hK hP 12 0 rfl rfl (by first | assumption | exact ho.in (by assumption)) dX5_isTorn_51 ?_
        refine lv_bipush (v := (-9)) hx hb dX5_isTorn_52 (by decide) ?_
        refine lv_icmp_eq (tgt := 92) hx hb dX5_isTorn_54 (by decide) (fun c_4 => ?_) (fun c_4 => ?_)
        ·
          refine lv_iconst (v := 1) hx hb dX5_isTorn_92 (by decide) ?_
          refine lv_goto (tgt := 97) hx hb dX5_isTorn_93 (by decide) ?_
          refine lv_istore (lv' := [(8, .int 1), (7, .int 1), (6, .int (f_X5_offerOf sM i2 i1)), (0, .ref (am 0)), (1, .int i1), (2, .int i2), (3, .ref (am 9)), (4, .ref (am 10)), (5, .ref (am 12))]) hx hb dX5_isTorn_97 hl (by decide) rfl (fun ls hl => ?_)
          refine lv_iload hx hb dX5_isTorn_99 (lv_at hl 1 rfl) ?_
          refine lv_if_eq (tgt := 113) hx hb dX5_isTorn_101 (by decide) (fun c_5 => ?_) (fun c_5 => ?_)
          · exact absurd c_5 (by decide)
          refine lv_iload hx hb dX5_isTorn_104 (lv_at hl 0 rfl) ?_
          refine lv_if_eq (tgt := 113) hx hb dX5_isTorn_106 (by decide) (fun c_6 => ?_) (fun c_6 => ?_)
          · exact absurd c_6 (by decide)
          refine lv_iconst (v := 1) hx hb dX5_isTorn_109 (by decide) ?_
          refine lv_goto (tgt := 114) hx hb dX5_isTorn_110 (by decide) ?_
          have ef : f_X5_isTorn sM i1 i2 = 1 := by
            rw [f_X5_isTorn, if_neg c_1, if_neg c_2, if_pos c_3, if_pos c_4]
          exact k_retz hx hb hr (by decide) hK hP hD hS hlocks dX5_isTorn_114 (by rw [ef])
        ·
          refine lv_bipush (v := 10) hx hb dX5_isTorn_57 (by decide) ?_
          refine lv_aload_n hx hb dX5_isTorn_59 rfl (lv_at hl 2 rfl) ?_
          refine lv_iload_n hx hb dX5_isTorn_60 rfl (lv_at hl 4 rfl) ?_
          refine lv_aload hx hb dX5_isTorn_61 (lv_at hl 7 rfl) ?_
          refine lv_iload_n hx hb dX5_isTorn_63 rfl (lv_at hl 4 rfl) ?_
          refine va_iald (f := sM 12) hx hb hK hP 12 0 rfl rfl (by first | assumption | exact ho.in (by assumption)) dX5_isTorn_64 ?_
          refine k_Vi (wr := ([] : va_W)) (ws' := w_M k am sM) (Rv := (f_X5_held sM i2 ((sM 12) i2.toNatClampNeg))) (rest := [.int 10]) ⟨hx, hb, hml, hown, hts⟩ hK hA hP hD hS (c_X5_held l k am sM i2 ((sM 12) i2.toNatClampNeg) (h2) (by first | assumption | exact ho.in (by assumption))) (cwV 2 hts gX5_isTorn_X5_held rfl rfl rfl (by decide +kernel) ⟨Nat.le_of_ble_eq_true rfl, Nat.le_of_ble_eq_true rfl⟩) (va_recv hK hP (ci := 5) (q0 := 0) rfl rfl) rfl hl.1 rfl (Nat.le_of_ble_eq_true rfl) dX5_isTorn_65 (Nat.zero_le _) (Nat.zero_le _) [0, 1, 2, 3, 4, 5, 6, 7, 8, 9, 10, 11, 12, 13, 14, 15, 16, 17, 18, 19, 20, 21] [] [0, 1, 2, 3, 4, 5, 6, 7, 8, 9, 10, 11, 12, 13, 14, 15, 16, 17, 18, 19, 20, 21] rfl rfl rfl (by decide) rfl rfl rfl (fun H locs hP hD hS => ?_)
          refine lv_imul hx hb dX5_isTorn_68 ?_
          refine lv_aload hx hb dX5_isTorn_69 (lv_at hl 6 rfl) ?_
          refine lv_aload hx hb dX5_isTorn_71 (lv_at hl 7 rfl) ?_
          refine lv_iload_n hx hb dX5_isTorn_73 rfl (lv_at hl 4 rfl) ?_
          refine va_iald (f := sM 12) hx hb hK hP 12 0 rfl rfl (by first | assumption | exact ho.in (by assumption)) dX5_isTorn_74 ?_
          refine va_iald (f := sM 10) hx hb hK hP 10 0 rfl rfl (by first | assumption | exact ho.in (by assumption)) dX5_isTorn_75 ?_
          refine lv_isub hx hb dX5_isTorn_76 ?_
          refine lv_bipush (v := 10) hx hb dX5_isTorn_77 (by decide) ?_
          refine lv_aload_n hx hb dX5_isTorn_79 rfl (lv_at hl 2 rfl) ?_
          refine lv_iload_n hx hb dX5_isTorn_80 rfl (lv_at hl 4 rfl) ?_
          refine lv_iload_n hx hb dX5_isTorn_81 rfl (lv_at hl 3 rfl) ?_
          refine k_Vi (wr := ([] : va_W)) (ws' := w_M k am sM) (Rv := (f_X5_held sM i2 i1)) (rest := [.int 10, .int ((10 * (f_X5_held sM i2 ((sM 12) i2.toNatClampNeg))) - ((sM 10) ((sM 12) i2.toNatClampNeg).toNatClampNeg))]) ⟨hx, hb, hml, hown, hts⟩ hK hA hP hD hS (c_X5_held l k am sM i2 i1 (h2) (h1)) (cwV 2 hts gX5_isTorn_X5_held rfl rfl rfl (by decide +kernel) ⟨Nat.le_of_ble_eq_true rfl, Nat.le_of_ble_eq_true rfl⟩) (va_recv hK hP (ci := 5) (q0 := 0) rfl rfl) rfl hl.1 rfl (Nat.le_of_ble_eq_true rfl) dX5_isTorn_82 (Nat.zero_le _) (Nat.zero_le _) [0, 1, 2, 3, 4, 5, 6, 7, 8, 9, 10, 11, 12, 13, 14, 15, 16, 17, 18, 19, 20, 21] [] [0, 1, 2, 3, 4, 5, 6, 7, 8, 9, 10, 11, 12, 13, 14, 15, 16, 17, 18, 19, 20, 21] rfl rfl rfl (by decide) rfl rfl rfl (fun H locs hP hD hS => ?_)
          refine lv_imul hx hb dX5_isTorn_85 ?_
          refine lv_iload hx hb dX5_isTorn_86 (lv_at hl 1 rfl) ?_
          refine lv_isub hx hb dX5_isTorn_88 ?_
          refine lv_icmp_ge (tgt := 96) hx hb dX5_isTorn_89 (by decide) (fun c_7 => ?_) (fun c_7 => ?_)
          ·
            refine lv_iconst (v := 0) hx hb dX5_isTorn_96 (by decide) ?_
            refine lv_istore (lv' := [(8, .int 0), (7, .int 1), (6, .int (f_X5_offerOf sM i2 i1)), (0, .ref (am 0)), (1, .int i1), (2, .int i2), (3, .ref (am 9)), (4, .ref (am 10)), (5, .ref (am 12))]) hx hb dX5_isTorn_97 hl (by decide) rfl (fun ls hl => ?_)
            refine lv_iload hx hb dX5_isTorn_99 (lv_at hl 1 rfl) ?_
            refine lv_if_eq (tgt := 113) hx hb dX5_isTorn_101 (by decide) (fun c_8 => ?_) (fun c_8 => ?_)
            · exact absurd c_8 (by decide)
            refine lv_iload hx hb dX5_isTorn_104 (lv_at hl 0 rfl) ?_
            refine lv_if_eq (tgt := 113) hx hb dX5_isTorn_106 (by decide) (fun c_9 => ?_) (fun c_9 => ?_)
            rotate_left
            · exact absurd (by decide) c_9
            refine lv_iconst (v := 0) hx hb dX5_isTorn_113 (by decide) ?_
            have ef : f_X5_isTorn sM i1 i2 = 0 := by
              rw [f_X5_isTorn, if_neg c_1, if_neg c_2, if_pos c_3, if_neg c_4, if_pos c_7]
            exact k_retz hx hb hr (by decide) hK hP hD hS hlocks dX5_isTorn_114 (by rw [ef])
          ·
            refine lv_iconst (v := 1) hx hb dX5_isTorn_92 (by decide) ?_
            refine lv_goto (tgt := 97) hx hb dX5_isTorn_93 (by decide) ?_
            refine lv_istore (lv' := [(8, .int 1), (7, .int 1), (6, .int (f_X5_offerOf sM i2 i1)), (0, .ref (am 0)), (1, .int i1), (2, .int i2), (3, .ref (am 9)), (4, .ref (am 10)), (5, .ref (am 12))]) hx hb dX5_isTorn_97 hl (by decide) rfl (fun ls hl => ?_)
            refine lv_iload hx hb dX5_isTorn_99 (lv_at hl 1 rfl) ?_
            refine lv_if_eq (tgt := 113) hx hb dX5_isTorn_101 (by decide) (fun c_10 => ?_) (fun c_10 => ?_)
            · exact absurd c_10 (by decide)
            refine lv_iload hx hb dX5_isTorn_104 (lv_at hl 0 rfl) ?_
            refine lv_if_eq (tgt := 113) hx hb dX5_isTorn_106 (by decide) (fun c_11 => ?_) (fun c_11 => ?_)
            · exact absurd c_11 (by decide)
            refine lv_iconst (v := 1) hx hb dX5_isTorn_109 (by decide) ?_
            refine lv_goto (tgt := 114) hx hb dX5_isTorn_110 (by decide) ?_
            have ef : f_X5_isTorn sM i1 i2 = 1 := by
              rw [f_X5_isTorn, if_neg c_1, if_neg c_2, if_pos c_3, if_neg c_4, if_neg c_7]
            exact k_retz hx hb hr (by decide) hK hP hD hS hlocks dX5_isTorn_114 (by rw [ef])
      ·
        refine lv_aload hx hb dX5_isTorn_32 (lv_at hl 5 rfl) ?_
        refine lv_iload_n hx hb dX5_isTorn_34 rfl (lv_at hl 2 rfl) ?_
        refine va_iald (f := sM 10) hx hb hK hP 10 0 rfl rfl (by first | assumption | exact ho.in (by assumption)) dX5_isTorn_35 ?_
        refine lv_iload hx hb dX5_isTorn_36 (lv_at hl 0 rfl) ?_
        refine lv_icmp_ge (tgt := 45) hx hb dX5_isTorn_38 (by decide) (fun c_12 => ?_) (fun c_12 => ?_)
        ·
          refine lv_iconst (v := 0) hx hb dX5_isTorn_45 (by decide) ?_
          refine lv_istore (lv' := [(7, .int 0), (6, .int (f_X5_offerOf sM i2 i1)), (0, .ref (am 0)), (1, .int i1), (2, .int i2), (3, .ref (am 9)), (4, .ref (am 10)), (5, .ref (am 12))]) hx hb dX5_isTorn_46 hl (by decide) rfl (fun ls hl => ?_)
          refine lv_aload hx hb dX5_isTorn_48 (lv_at hl 7 rfl) ?_
          refine lv_iload_n hx hb dX5_isTorn_50 rfl (lv_at hl 4 rfl) ?_
          refine va_iald (f := sM 12) hx hb hK hP 12 0 rfl rfl (by first | assumption | exact ho.in (by assumption)) dX5_isTorn_51 ?_
          refine lv_bipush (v := (-9)) hx hb dX5_isTorn_52 (by decide) ?_
          refine lv_icmp_eq (tgt := 92) hx hb dX5_isTorn_54 (by decide) (fun c_13 => ?_) (fun c_13 => ?_)
          ·
            refine lv_iconst (v := 1) hx hb dX5_isTorn_92 (by decide) ?_
            refine lv_goto (tgt := 97) hx hb dX5_isTorn_93 (by decide) ?_
            refine lv_istore (lv' := [(8, .int 1), (7, .int 0), (6, .int (f_X5_offerOf sM i2 i1)), (0, .ref (am 0)), (1, .int i1), (2, .int i2), (3, .ref (am 9)), (4, .ref (am 10)), (5, .ref (am 12))]) hx hb dX5_isTorn_97 hl (by decide) rfl (fun ls hl => ?_)
            refine lv_iload hx hb dX5_isTorn_99 (lv_at hl 1 rfl) ?_
            refine lv_if_eq (tgt := 113) hx hb dX5_isTorn_101 (by decide) (fun c_14 => ?_) (fun c_14 => ?_)
            rotate_left
            · exact absurd (by decide) c_14
            refine lv_iconst (v := 0) hx hb dX5_isTorn_113 (by decide) ?_
            have ef : f_X5_isTorn sM i1 i2 = 0 := by
              rw [f_X5_isTorn, if_neg c_1, if_neg c_2, if_neg c_3, if_pos c_12, if_pos c_13]
            exact k_retz hx hb hr (by decide) hK hP hD hS hlocks dX5_isTorn_114 (by rw [ef])
          ·
            refine lv_bipush (v := 10) hx hb dX5_isTorn_57 (by decide) ?_
            refine lv_aload_n hx hb dX5_isTorn_59 rfl (lv_at hl 2 rfl) ?_
            refine lv_iload_n hx hb dX5_isTorn_60 rfl (lv_at hl 4 rfl) ?_
            refine lv_aload hx hb dX5_isTorn_61 (lv_at hl 7 rfl) ?_
            refine lv_iload_n hx hb dX5_isTorn_63 rfl (lv_at hl 4 rfl) ?_
            refine va_iald (f := sM 12) hx hb hK hP 12 0 rfl rfl (by first | assumption | exact ho.in (by assumption)) dX5_isTorn_64 ?_
            refine k_Vi (wr := ([] : va_W)) (ws' := w_M k am sM) (Rv := (f_X5_held sM i2 ((sM 12) i2.toNatClampNeg))) (rest := [.int 10]) ⟨hx, hb, hml, hown, hts⟩ hK hA hP hD hS (c_X5_held l k am sM i2 ((sM 12) i2.toNatClampNeg) (h2) (by first | assumption | exact ho.in (by assumption))) (cwV 2 hts gX5_isTorn_X5_held rfl rfl rfl (by decide +kernel) ⟨Nat.le_of_ble_eq_true rfl, Nat.le_of_ble_eq_true rfl⟩) (va_recv hK hP (ci := 5) (q0 := 0) rfl rfl) rfl hl.1 rfl (Nat.le_of_ble_eq_true rfl) dX5_isTorn_65 (Nat.zero_le _) (Nat.zero_le _) [0, 1, 2, 3, 4, 5, 6, 7, 8, 9, 10, 11, 12, 13, 14, 15, 16, 17, 18, 19, 20, 21] [] [0, 1, 2, 3, 4, 5, 6, 7, 8, 9, 10, 11, 12, 13, 14, 15, 16, 17, 18, 19, 20, 21] rfl rfl rfl (by decide) rfl rfl rfl (fun H locs hP hD hS => ?_)
            refine lv_imul hx hb dX5_isTorn_68 ?_
            refine lv_aload hx hb dX5_isTorn_69 (lv_at hl 6 rfl) ?_
            refine lv_aload hx hb dX5_isTorn_71 (lv_at hl 7 rfl) ?_
            refine lv_iload_n hx hb dX5_isTorn_73 rfl (lv_at hl 4 rfl) ?_
            refine va_iald (f := sM 12) hx hb hK hP 12 0 rfl rfl (by first | assumption | exact ho.in (by assumption)) dX5_isTorn_74 ?_
            refine va_iald (f := sM 10) hx hb hK hP 10 0 rfl rfl (by first | assumption | exact ho.in (by assumption)) dX5_isTorn_75 ?_
            refine lv_isub hx hb dX5_isTorn_76 ?_
            refine lv_bipush (v := 10) hx hb dX5_isTorn_77 (by decide) ?_
            refine lv_aload_n hx hb dX5_isTorn_79 rfl (lv_at hl 2 rfl) ?_
            refine lv_iload_n hx hb dX5_isTorn_80 rfl (lv_at hl 4 rfl) ?_
            refine lv_iload_n hx hb dX5_isTorn_81 rfl (lv_at hl 3 rfl) ?_
            refine k_Vi (wr := ([] : va_W)) (ws' := w_M k am sM) (Rv := (f_X5_held sM i2 i1)) (rest := [.int 10, .int ((10 * (f_X5_held sM i2 ((sM 12) i2.toNatClampNeg))) - ((sM 10) ((sM 12) i2.toNatClampNeg).toNatClampNeg))]) ⟨hx, hb, hml, hown, hts⟩ hK hA hP hD hS (c_X5_held l k am sM i2 i1 (h2) (h1)) (cwV 2 hts gX5_isTorn_X5_held rfl rfl rfl (by decide +kernel) ⟨Nat.le_of_ble_eq_true rfl, Nat.le_of_ble_eq_true rfl⟩) (va_recv hK hP (ci := 5) (q0 := 0) rfl rfl) rfl hl.1 rfl (Nat.le_of_ble_eq_true rfl) dX5_isTorn_82 (Nat.zero_le _) (Nat.zero_le _) [0, 1, 2, 3, 4, 5, 6, 7, 8, 9, 10, 11, 12, 13, 14, 15, 16, 17, 18, 19, 20, 21] [] [0, 1, 2, 3, 4, 5, 6, 7, 8, 9, 10, 11, 12, 13, 14, 15, 16, 17, 18, 19, 20, 21] rfl rfl rfl (by decide) rfl rfl rfl (fun H locs hP hD hS => ?_)
            refine lv_imul hx hb dX5_isTorn_85 ?_
            refine lv_iload hx hb dX5_isTorn_86 (lv_at hl 1 rfl) ?_
            refine lv_isub hx hb dX5_isTorn_88 ?_
            refine lv_icmp_ge (tgt := 96) hx hb dX5_isTorn_89 (by decide) (fun c_15 => ?_) (fun c_15 => ?_)
            ·
              refine lv_iconst (v := 0) hx hb dX5_isTorn_96 (by decide) ?_
              refine lv_istore (lv' := [(8, .int 0), (7, .int 0), (6, .int (f_X5_offerOf sM i2 i1)), (0, .ref (am 0)), (1, .int i1), (2, .int i2), (3, .ref (am 9)), (4, .ref (am 10)), (5, .ref (am 12))]) hx hb dX5_isTorn_97 hl (by decide) rfl (fun ls hl => ?_)
              refine lv_iload hx hb dX5_isTorn_99 (lv_at hl 1 rfl) ?_
              refine lv_if_eq (tgt := 113) hx hb dX5_isTorn_101 (by decide) (fun c_16 => ?_) (fun c_16 => ?_)
              rotate_left
              · exact absurd (by decide) c_16
              refine lv_iconst (v := 0) hx hb dX5_isTorn_113 (by decide) ?_
              have ef : f_X5_isTorn sM i1 i2 = 0 := by
                rw [f_X5_isTorn, if_neg c_1, if_neg c_2, if_neg c_3, if_pos c_12, if_neg c_13, if_pos c_15]
              exact k_retz hx hb hr (by decide) hK hP hD hS hlocks dX5_isTorn_114 (by rw [ef])
            ·
              refine lv_iconst (v := 1) hx hb dX5_isTorn_92 (by decide) ?_
              refine lv_goto (tgt := 97) hx hb dX5_isTorn_93 (by decide) ?_
              refine lv_istore (lv' := [(8, .int 1), (7, .int 0), (6, .int (f_X5_offerOf sM i2 i1)), (0, .ref (am 0)), (1, .int i1), (2, .int i2), (3, .ref (am 9)), (4, .ref (am 10)), (5, .ref (am 12))]) hx hb dX5_isTorn_97 hl (by decide) rfl (fun ls hl => ?_)
              refine lv_iload hx hb dX5_isTorn_99 (lv_at hl 1 rfl) ?_
              refine lv_if_eq (tgt := 113) hx hb dX5_isTorn_101 (by decide) (fun c_17 => ?_) (fun c_17 => ?_)
              rotate_left
              · exact absurd (by decide) c_17
              refine lv_iconst (v := 0) hx hb dX5_isTorn_113 (by decide) ?_
              have ef : f_X5_isTorn sM i1 i2 = 0 := by
                rw [f_X5_isTorn, if_neg c_1, if_neg c_2, if_neg c_3, if_pos c_12, if_neg c_13, if_neg c_15]
              exact k_retz hx hb hr (by decide) hK hP hD hS hlocks dX5_isTorn_114 (by rw [ef])
        ·
          refine lv_iconst (v := 1) hx hb dX5_isTorn_41 (by decide) ?_
          refine lv_goto (tgt := 46) hx hb dX5_isTorn_42 (by decide) ?_
          refine lv_istore (lv' := [(7, .int 1), (6, .int (f_X5_offerOf sM i2 i1)), (0, .ref (am 0)), (1, .int i1), (2, .int i2), (3, .ref (am 9)), (4, .ref (am 10)), (5, .ref (am 12))]) hx hb dX5_isTorn_46 hl (by decide) rfl (fun ls hl => ?_)
          refine lv_aload hx hb dX5_isTorn_48 (lv_at hl 7 rfl) ?_
          refine lv_iload_n hx hb dX5_isTorn_50 rfl (lv_at hl 4 rfl) ?_
          refine va_iald (f := sM 12) hx hb hK hP 12 0 rfl rfl (by first | assumption | exact ho.in (by assumption)) dX5_isTorn_51 ?_
          refine lv_bipush (v := (-9)) hx hb dX5_isTorn_52 (by decide) ?_
          refine lv_icmp_eq (tgt := 92) hx hb dX5_isTorn_54 (by decide) (fun c_18 => ?_) (fun c_18 => ?_)
          ·
            refine lv_iconst (v := 1) hx hb dX5_isTorn_92 (by decide) ?_
            refine lv_goto (tgt := 97) hx hb dX5_isTorn_93 (by decide) ?_
            refine lv_istore (lv' := [(8, .int 1), (7, .int 1), (6, .int (f_X5_offerOf sM i2 i1)), (0, .ref (am 0)), (1, .int i1), (2, .int i2), (3, .ref (am 9)), (4, .ref (am 10)), (5, .ref (am 12))]) hx hb dX5_isTorn_97 hl (by decide) rfl (fun ls hl => ?_)
            refine lv_iload hx hb dX5_isTorn_99 (lv_at hl 1 rfl) ?_
            refine lv_if_eq (tgt := 113) hx hb dX5_isTorn_101 (by decide) (fun c_19 => ?_) (fun c_19 => ?_)
            · exact absurd c_19 (by decide)
            refine lv_iload hx hb dX5_isTorn_104 (lv_at hl 0 rfl) ?_
            refine lv_if_eq (tgt := 113) hx hb dX5_isTorn_106 (by decide) (fun c_20 => ?_) (fun c_20 => ?_)
            · exact absurd c_20 (by decide)
            refine lv_iconst (v := 1) hx hb dX5_isTorn_109 (by decide) ?_
            refine lv_goto (tgt := 114) hx hb dX5_isTorn_110 (by decide) ?_
            have ef : f_X5_isTorn sM i1 i2 = 1 := by
              rw [f_X5_isTorn, if_neg c_1, if_neg c_2, if_neg c_3, if_neg c_12, if_pos c_18]
            exact k_retz hx hb hr (by decide) hK hP hD hS hlocks dX5_isTorn_114 (by rw [ef])
          ·
            refine lv_bipush (v := 10) hx hb dX5_isTorn_57 (by decide) ?_
            refine lv_aload_n hx hb dX5_isTorn_59 rfl (lv_at hl 2 rfl) ?_
            refine lv_iload_n hx hb dX5_isTorn_60 rfl (lv_at hl 4 rfl) ?_
            refine lv_aload hx hb dX5_isTorn_61 (lv_at hl 7 rfl) ?_
            refine lv_iload_n hx hb dX5_isTorn_63 rfl (lv_at hl 4 rfl) ?_
            refine va_iald (f := sM 12) hx hb hK hP 12 0 rfl rfl (by first | assumption | exact ho.in (by assumption)) dX5_isTorn_64 ?_
            refine k_Vi (wr := ([] : va_W)) (ws' := w_M k am sM) (Rv := (f_X5_held sM i2 ((sM 12) i2.toNatClampNeg))) (rest := [.int 10]) ⟨hx, hb, hml, hown, hts⟩ hK hA hP hD hS (c_X5_held l k am sM i2 ((sM 12) i2.toNatClampNeg) (h2) (by first | assumption | exact ho.in (by assumption))) (cwV 2 hts gX5_isTorn_X5_held rfl rfl rfl (by decide +kernel) ⟨Nat.le_of_ble_eq_true rfl, Nat.le_of_ble_eq_true rfl⟩) (va_recv hK hP (ci := 5) (q0 := 0) rfl rfl) rfl hl.1 rfl (Nat.le_of_ble_eq_true rfl) dX5_isTorn_65 (Nat.zero_le _) (Nat.zero_le _) [0, 1, 2, 3, 4, 5, 6, 7, 8, 9, 10, 11, 12, 13, 14, 15, 16, 17, 18, 19, 20, 21] [] [0, 1, 2, 3, 4, 5, 6, 7, 8, 9, 10, 11, 12, 13, 14, 15, 16, 17, 18, 19, 20, 21] rfl rfl rfl (by decide) rfl rfl rfl (fun H locs hP hD hS => ?_)
            refine lv_imul hx hb dX5_isTorn_68 ?_
            refine lv_aload hx hb dX5_isTorn_69 (lv_at hl 6 rfl) ?_
            refine lv_aload hx hb dX5_isTorn_71 (lv_at hl 7 rfl) ?_
            refine lv_iload_n hx hb dX5_isTorn_73 rfl (lv_at hl 4 rfl) ?_
            refine va_iald (f := sM 12) hx hb hK hP 12 0 rfl rfl (by first | assumption | exact ho.in (by assumption)) dX5_isTorn_74 ?_
            refine va_iald (f := sM 10) hx hb hK hP 10 0 rfl rfl (by first | assumption | exact ho.in (by assumption)) dX5_isTorn_75 ?_
            refine lv_isub hx hb dX5_isTorn_76 ?_
            refine lv_bipush (v := 10) hx hb dX5_isTorn_77 (by decide) ?_
            refine lv_aload_n hx hb dX5_isTorn_79 rfl (lv_at hl 2 rfl) ?_
            refine lv_iload_n hx hb dX5_isTorn_80 rfl (lv_at hl 4 rfl) ?_
            refine lv_iload_n hx hb dX5_isTorn_81 rfl (lv_at hl 3 rfl) ?_
            refine k_Vi (wr := ([] : va_W)) (ws' := w_M k am sM) (Rv := (f_X5_held sM i2 i1)) (rest := [.int 10, .int ((10 * (f_X5_held sM i2 ((sM 12) i2.toNatClampNeg))) - ((sM 10) ((sM 12) i2.toNatClampNeg).toNatClampNeg))]) ⟨hx, hb, hml, hown, hts⟩ hK hA hP hD hS (c_X5_held l k am sM i2 i1 (h2) (h1)) (cwV 2 hts gX5_isTorn_X5_held rfl rfl rfl (by decide +kernel) ⟨Nat.le_of_ble_eq_true rfl, Nat.le_of_ble_eq_true rfl⟩) (va_recv hK hP (ci := 5) (q0 := 0) rfl rfl) rfl hl.1 rfl (Nat.le_of_ble_eq_true rfl) dX5_isTorn_82 (Nat.zero_le _) (Nat.zero_le _) [0, 1, 2, 3, 4, 5, 6, 7, 8, 9, 10, 11, 12, 13, 14, 15, 16, 17, 18, 19, 20, 21] [] [0, 1, 2, 3, 4, 5, 6, 7, 8, 9, 10, 11, 12, 13, 14, 15, 16, 17, 18, 19, 20, 21] rfl rfl rfl (by decide) rfl rfl rfl (fun H locs hP hD hS => ?_)
            refine lv_imul hx hb dX5_isTorn_85 ?_
            refine lv_iload hx hb dX5_isTorn_86 (lv_at hl 1 rfl) ?_
            refine lv_isub hx hb dX5_isTorn_88 ?_
            refine lv_icmp_ge (tgt := 96) hx hb dX5_isTorn_89 (by decide) (fun c_21 => ?_) (fun c_21 => ?_)
            ·
              refine lv_iconst (v := 0) hx hb dX5_isTorn_96 (by decide) ?_
              refine lv_istore (lv' := [(8, .int 0), (7, .int 1), (6, .int (f_X5_offerOf sM i2 i1)), (0, .ref (am 0)), (1, .int i1), (2, .int i2), (3, .ref (am 9)), (4, .ref (am 10)), (5, .ref (am 12))]) hx hb dX5_isTorn_97 hl (by decide) rfl (fun ls hl => ?_)
              refine lv_iload hx hb dX5_isTorn_99 (lv_at hl 1 rfl) ?_
              refine lv_if_eq (tgt := 113) hx hb dX5_isTorn_101 (by decide) (fun c_22 => ?_) (fun c_22 => ?_)
              · exact absurd c_22 (by decide)
              refine lv_iload hx hb dX5_isTorn_104 (lv_at hl 0 rfl) ?_
              refine lv_if_eq (tgt := 113) hx hb dX5_isTorn_106 (by decide) (fun c_23 => ?_) (fun c_23 => ?_)
              rotate_left
              · exact absurd (by decide) c_23
              refine lv_iconst (v := 0) hx hb dX5_isTorn_113 (by decide) ?_
              have ef : f_X5_isTorn sM i1 i2 = 0 := by
                rw [f_X5_isTorn, if_neg c_1, if_neg c_2, if_neg c_3, if_neg c_12, if_neg c_18, if_pos c_21]
              exact k_retz hx hb hr (by decide) hK hP hD hS hlocks dX5_isTorn_114 (by rw [ef])
            ·
              refine lv_iconst (v := 1) hx hb dX5_isTorn_92 (by decide) ?_
              refine lv_goto (tgt := 97) hx hb dX5_isTorn_93 (by decide) ?_
              refine lv_istore (lv' := [(8, .int 1), (7, .int 1), (6, .int (f_X5_offerOf sM i2 i1)), (0, .ref (am 0)), (1, .int i1), (2, .int i2), (3, .ref (am 9)), (4, .ref (am 10)), (5, .ref (am 12))]) hx hb dX5_isTorn_97 hl (by decide) rfl (fun ls hl => ?_)
              refine lv_iload hx hb dX5_isTorn_99 (lv_at hl 1 rfl) ?_
              refine lv_if_eq (tgt := 113) hx hb dX5_isTorn_101 (by decide) (fun c_24 => ?_) (fun c_24 => ?_)
              · exact absurd c_24 (by decide)
              refine lv_iload hx hb dX5_isTorn_104 (lv_at hl 0 rfl) ?_
              refine lv_if_eq (tgt := 113) hx hb dX5_isTorn_106 (by decide) (fun c_25 => ?_) (fun c_25 => ?_)
              · exact absurd c_25 (by decide)
              refine lv_iconst (v := 1) hx hb dX5_isTorn_109 (by decide) ?_
              refine lv_goto (tgt := 114) hx hb dX5_isTorn_110 (by decide) ?_
              have ef : f_X5_isTorn sM i1 i2 = 1 := by
                rw [f_X5_isTorn, if_neg c_1, if_neg c_2, if_neg c_3, if_neg c_12, if_neg c_18, if_neg c_21]
              exact k_retz hx hb hr (by decide) hK hP hD hS hlocks dX5_isTorn_114 (by rw [ef])
    ·
      refine lv_iconst (v := 0) hx hb dX5_isTorn_22 (by decide) ?_
      have ef : f_X5_isTorn sM i1 i2 = 0 := by
        rw [f_X5_isTorn, if_neg c_1, if_pos c_2]
      exact k_retz hx hb hr (by decide) hK hP hD hS hlocks dX5_isTorn_23 (by rw [ef])
def f_X5_isTorn_t (sM : Nat → Nat → Int32) (i1 : Int32) (i2 : Int32) : Int32 :=
  if (f_X5_offerOf sM i2 i1) = (-9) then 0
  else if ((sM 19) i1.toNatClampNeg) = i2 then 0
  else if ((sM 19) i1.toNatClampNeg) = (-9) then (if ((sM 21) i2.toNatClampNeg) = (-9) then 1
    else if ((10 * (f_X5_held sM i2 i1)) - (f_X5_offerOf sM i2 i1)) ≤ ((10 * (f_X5_held sM i2 ((sM 21) i2.toNatClampNeg))) - ((sM 20) ((sM 21) i2.toNatClampNeg).toNatClampNeg)) then 0
    else 1)
  else if (f_X5_offerOf sM i2 i1) ≤ ((sM 20) i1.toNatClampNeg) then (if ((sM 21) i2.toNatClampNeg) = (-9) then 0
    else if ((10 * (f_X5_held sM i2 i1)) - (f_X5_offerOf sM i2 i1)) ≤ ((10 * (f_X5_held sM i2 ((sM 21) i2.toNatClampNeg))) - ((sM 20) ((sM 21) i2.toNatClampNeg).toNatClampNeg)) then 0
    else 0)
  else if ((sM 21) i2.toNatClampNeg) = (-9) then 1
  else if ((10 * (f_X5_held sM i2 i1)) - (f_X5_offerOf sM i2 i1)) ≤ ((10 * (f_X5_held sM i2 ((sM 21) i2.toNatClampNeg))) - ((sM 20) ((sM 21) i2.toNatClampNeg).toNatClampNeg)) then 0
  else 1
set_option maxHeartbeats 4000000 in
set_option maxRecDepth 100000 in
theorem c_X5_isTorn_t (l : Launch) (k : K_X) (am : Nat → Nat) (sM : Nat → Nat → Int32) (i1 : Int32) (i2 : Int32) (h1 : vp_in i1 10) (h2 : vp_in i2 10) (ho : k_o (sM 21 i2.toNatClampNeg) 10) : k_C l yX5_isTorn wsX5_isTorn (k_rm 2 45) k [.ref (am 0), .int i1, .int i2, .ref (am 19), .ref (am 20), .ref (am 21)] (w_M k am sM) (k_qI k (f_X5_isTorn_t sM i1 i2) (w_M k am sM)) := by
  refine k_mk (cc := cX5_isTorn) (maxL := 9) (ret := (some .boolean)) (by decide) rfl (Nat.le_of_ble_eq_true rfl) ?_
  intro p e s m below meth c A ls C0 hP hD hS hl
  obtain ⟨hx, hb, hr, hts, hown, hlocks, hml, hA, hK⟩ := id C0
  have hown : s.vm.findClass RX5 = some m.cls := hown
  have hl : lv_has ls 9 [(0, .ref (am 0)), (1, .int i1), (2, .int i2), (3, .ref (am 19)), (4, .ref (am 20)), (5, .ref (am 21))] := hl
  refine lv_aload_n hx hb dX5_isTorn_0 rfl (lv_at hl 0 rfl) ?_
  refine lv_iload_n hx hb dX5_isTorn_1 rfl (lv_at hl 2 rfl) ?_
  refine lv_iload_n hx hb dX5_isTorn_2 rfl (lv_at hl 1 rfl) ?_
  refine k_Vi (wr := ([] : va_W)) (ws' := w_M k am sM) (Rv := (f_X5_offerOf sM i2 i1)) (rest := []) ⟨hx, hb, hml, hown, hts⟩ hK hA hP hD hS (c_X5_offerOf l k am sM i2 i1 (h2) (h1)) (cwV 2 hts gX5_isTorn_X5_offerOf rfl rfl rfl (by decide +kernel) ⟨Nat.le_of_ble_eq_true rfl, Nat.le_of_ble_eq_true rfl⟩) (va_recv hK hP (ci := 5) (q0 := 0) rfl rfl) rfl hl.1 rfl (Nat.le_of_ble_eq_true rfl) dX5_isTorn_3 (Nat.zero_le _) (Nat.zero_le _) [0, 1, 2, 3, 4, 5, 6, 7, 8, 9, 10, 11, 12, 13, 14, 15, 16, 17, 18, 19, 20, 21] [] [0, 1, 2, 3, 4, 5, 6, 7, 8, 9, 10, 11, 12, 13, 14, 15, 16, 17, 18, 19, 20, 21] rfl rfl rfl (by decide) rfl rfl rfl (fun H locs hP hD hS => ?_)
  refine lv_istore (lv' := [(6, .int (f_X5_offerOf sM i2 i1)), (0, .ref (am 0)), (1, .int i1), (2, .int i2), (3, .ref (am 19)), (4, .ref (am 20)), (5, .ref (am 21))]) hx hb dX5_isTorn_6 hl (by decide) rfl (fun ls hl => ?_)
  refine lv_iload hx hb dX5_isTorn_8 (lv_at hl 0 rfl) ?_
  refine lv_bipush (v := (-9)) hx hb dX5_isTorn_10 (by decide) ?_
  refine lv_icmp_eq (tgt := 22) hx hb dX5_isTorn_12 (by decide) (fun c_1 => ?_) (fun c_1 => ?_)
  ·
    refine lv_iconst (v := 0) hx hb dX5_isTorn_22 (by decide) ?_
    have ef : f_X5_isTorn_t sM i1 i2 = 0 := by
      rw [f_X5_isTorn_t, if_pos c_1]
    exact k_retz hx hb hr (by decide) hK hP hD hS hlocks dX5_isTorn_23 (by rw [ef])
  ·
    refine lv_aload_n hx hb dX5_isTorn_15 rfl (lv_at hl 4 rfl) ?_
    refine lv_iload_n hx hb dX5_isTorn_16 rfl (lv_at hl 2 rfl) ?_
    refine va_iald (f := sM 19) hx hb hK hP 19 0 rfl rfl (by first | assumption | exact ho.in (by assumption)) dX5_isTorn_17 ?_
    refine lv_iload_n hx hb dX5_isTorn_18 rfl (lv_at hl 3 rfl) ?_
    refine lv_icmp_ne (tgt := 24) hx hb dX5_isTorn_19 (by decide) (fun c_2 => ?_) (fun c_2 => ?_)
    ·
      refine lv_aload_n hx hb dX5_isTorn_24 rfl (lv_at hl 4 rfl) ?_
      refine lv_iload_n hx hb dX5_isTorn_25 rfl (lv_at hl 2 rfl) ?_
      refine va_iald (f := sM 19) hx hb hK hP 19 0 rfl rfl (by first | assumption | exact ho.in (by assumption)) dX5_isTorn_26 ?_
      refine lv_bipush (v := (-9)) hx hb dX5_isTorn_27 (by decide) ?_
      refine lv_icmp_eq (tgt := 41) hx hb dX5_isTorn_29 (by decide) (fun c_3 => ?_) (fun c_3 => ?_)
      ·
        refine lv_iconst (v := 1) hx hb dX5_isTorn_41 (by decide) ?_
        refine lv_goto (tgt := 46) hx hb dX5_isTorn_42 (by decide) ?_
        refine lv_istore (lv' := [(7, .int 1), (6, .int (f_X5_offerOf sM i2 i1)), (0, .ref (am 0)), (1, .int i1), (2, .int i2), (3, .ref (am 19)), (4, .ref (am 20)), (5, .ref (am 21))]) hx hb dX5_isTorn_46 hl (by decide) rfl (fun ls hl => ?_)
        refine lv_aload hx hb dX5_isTorn_48 (lv_at hl 7 rfl) ?_
        refine lv_iload_n hx hb dX5_isTorn_50 rfl (lv_at hl 4 rfl) ?_
        refine va_iald (f := sM 21) hx hb hK hP 21 0 rfl rfl (by first | assumption | exact ho.in (by assumption)) dX5_isTorn_51 ?_
        refine lv_bipush (v := (-9)) hx hb dX5_isTorn_52 (by decide) ?_
        refine lv_icmp_eq (tgt := 92) hx hb dX5_isTorn_54 (by decide) (fun c_4 => ?_) (fun c_4 => ?_)
        ·
          refine lv_iconst (v := 1) hx hb dX5_isTorn_92 (by decide) ?_
          refine lv_goto (tgt := 97) hx hb dX5_isTorn_93 (by decide) ?_
          refine lv_istore (lv' := [(8, .int 1), (7, .int 1), (6, .int (f_X5_offerOf sM i2 i1)), (0, .ref (am 0)), (1, .int i1), (2, .int i2), (3, .ref (am 19)), (4, .ref (am 20)), (5, .ref (am 21))]) hx hb dX5_isTorn_97 hl (by decide) rfl (fun ls hl => ?_)
          refine lv_iload hx hb dX5_isTorn_99 (lv_at hl 1 rfl) ?_
          refine lv_if_eq (tgt := 113) hx hb dX5_isTorn_101 (by decide) (fun c_5 => ?_) (fun c_5 => ?_)
          · exact absurd c_5 (by decide)
          refine lv_iload hx hb dX5_isTorn_104 (lv_at hl 0 rfl) ?_
          refine lv_if_eq (tgt := 113) hx hb dX5_isTorn_106 (by decide) (fun c_6 => ?_) (fun c_6 => ?_)
          · exact absurd c_6 (by decide)
          refine lv_iconst (v := 1) hx hb dX5_isTorn_109 (by decide) ?_
          refine lv_goto (tgt := 114) hx hb dX5_isTorn_110 (by decide) ?_
          have ef : f_X5_isTorn_t sM i1 i2 = 1 := by
            rw [f_X5_isTorn_t, if_neg c_1, if_neg c_2, if_pos c_3, if_pos c_4]
          exact k_retz hx hb hr (by decide) hK hP hD hS hlocks dX5_isTorn_114 (by rw [ef])
        ·
          refine lv_bipush (v := 10) hx hb dX5_isTorn_57 (by decide) ?_
          refine lv_aload_n hx hb dX5_isTorn_59 rfl (lv_at hl 2 rfl) ?_
          refine lv_iload_n hx hb dX5_isTorn_60 rfl (lv_at hl 4 rfl) ?_
          refine lv_aload hx hb dX5_isTorn_61 (lv_at hl 7 rfl) ?_
          refine lv_iload_n hx hb dX5_isTorn_63 rfl (lv_at hl 4 rfl) ?_
          refine va_iald (f := sM 21) hx hb hK hP 21 0 rfl rfl (by first | assumption | exact ho.in (by assumption)) dX5_isTorn_64 ?_
          refine k_Vi (wr := ([] : va_W)) (ws' := w_M k am sM) (Rv := (f_X5_held sM i2 ((sM 21) i2.toNatClampNeg))) (rest := [.int 10]) ⟨hx, hb, hml, hown, hts⟩ hK hA hP hD hS (c_X5_held l k am sM i2 ((sM 21) i2.toNatClampNeg) (h2) (by first | assumption | exact ho.in (by assumption))) (cwV 2 hts gX5_isTorn_X5_held rfl rfl rfl (by decide +kernel) ⟨Nat.le_of_ble_eq_true rfl, Nat.le_of_ble_eq_true rfl⟩) (va_recv hK hP (ci := 5) (q0 := 0) rfl rfl) rfl hl.1 rfl (Nat.le_of_ble_eq_true rfl) dX5_isTorn_65 (Nat.zero_le _) (Nat.zero_le _) [0, 1, 2, 3, 4, 5, 6, 7, 8, 9, 10, 11, 12, 13, 14, 15, 16, 17, 18, 19, 20, 21] [] [0, 1, 2, 3, 4, 5, 6, 7, 8, 9, 10, 11, 12, 13, 14, 15, 16, 17, 18, 19, 20, 21] rfl rfl rfl (by decide) rfl rfl rfl (fun H locs hP hD hS => ?_)
          refine lv_imul hx hb dX5_isTorn_68 ?_
          refine lv_aload hx hb dX5_isTorn_69 (lv_at hl 6 rfl) ?_
          refine lv_aload hx hb dX5_isTorn_71 (lv_at hl 7 rfl) ?_
          refine lv_iload_n hx hb dX5_isTorn_73 rfl (lv_at hl 4 rfl) ?_
          refine va_iald (f := sM 21) hx hb hK hP 21 0 rfl rfl (by first | assumption | exact ho.in (by assumption)) dX5_isTorn_74 ?_
          refine va_iald (f := sM 20) hx hb hK hP 20 0 rfl rfl (by first | assumption | exact ho.in (by assumption)) dX5_isTorn_75 ?_
          refine lv_isub hx hb dX5_isTorn_76 ?_
          refine lv_bipush (v := 10) hx hb dX5_isTorn_77 (by decide) ?_
          refine lv_aload_n hx hb dX5_isTorn_79 rfl (lv_at hl 2 rfl) ?_
          refine lv_iload_n hx hb dX5_isTorn_80 rfl (lv_at hl 4 rfl) ?_
          refine lv_iload_n hx hb dX5_isTorn_81 rfl (lv_at hl 3 rfl) ?_
          refine k_Vi (wr := ([] : va_W)) (ws' := w_M k am sM) (Rv := (f_X5_held sM i2 i1)) (rest := [.int 10, .int ((10 * (f_X5_held sM i2 ((sM 21) i2.toNatClampNeg))) - ((sM 20) ((sM 21) i2.toNatClampNeg).toNatClampNeg))]) ⟨hx, hb, hml, hown, hts⟩ hK hA hP hD hS (c_X5_held l k am sM i2 i1 (h2) (h1)) (cwV 2 hts gX5_isTorn_X5_held rfl rfl rfl (by decide +kernel) ⟨Nat.le_of_ble_eq_true rfl, Nat.le_of_ble_eq_true rfl⟩) (va_recv hK hP (ci := 5) (q0 := 0) rfl rfl) rfl hl.1 rfl (Nat.le_of_ble_eq_true rfl) dX5_isTorn_82 (Nat.zero_le _) (Nat.zero_le _) [0, 1, 2, 3, 4, 5, 6, 7, 8, 9, 10, 11, 12, 13, 14, 15, 16, 17, 18, 19, 20, 21] [] [0, 1, 2, 3, 4, 5, 6, 7, 8, 9, 10, 11, 12, 13, 14, 15, 16, 17, 18, 19, 20, 21] rfl rfl rfl (by decide) rfl rfl rfl (fun H locs hP hD hS => ?_)
          refine lv_imul hx hb dX5_isTorn_85 ?_
          refine lv_iload hx hb dX5_isTorn_86 (lv_at hl 1 rfl) ?_
          refine lv_isub hx hb dX5_isTorn_88 ?_
          refine lv_icmp_ge (tgt := 96) hx hb dX5_isTorn_89 (by decide) (fun c_7 => ?_) (fun c_7 => ?_)
          ·
            refine lv_iconst (v := 0) hx hb dX5_isTorn_96 (by decide) ?_
            refine lv_istore (lv' := [(8, .int 0), (7, .int 1), (6, .int (f_X5_offerOf sM i2 i1)), (0, .ref (am 0)), (1, .int i1), (2, .int i2), (3, .ref (am 19)), (4, .ref (am 20)), (5, .ref (am 21))]) hx hb dX5_isTorn_97 hl (by decide) rfl (fun ls hl => ?_)
            refine lv_iload hx hb dX5_isTorn_99 (lv_at hl 1 rfl) ?_
            refine lv_if_eq (tgt := 113) hx hb dX5_isTorn_101 (by decide) (fun c_8 => ?_) (fun c_8 => ?_)
            · exact absurd c_8 (by decide)
            refine lv_iload hx hb dX5_isTorn_104 (lv_at hl 0 rfl) ?_
            refine lv_if_eq (tgt := 113) hx hb dX5_isTorn_106 (by decide) (fun c_9 => ?_) (fun c_9 => ?_)
            rotate_left
            · exact absurd (by decide) c_9
            refine lv_iconst (v := 0) hx hb dX5_isTorn_113 (by decide) ?_
            have ef : f_X5_isTorn_t sM i1 i2 = 0 := by
              rw [f_X5_isTorn_t, if_neg c_1, if_neg c_2, if_pos c_3, if_neg c_4, if_pos c_7]
            exact k_retz hx hb hr (by decide) hK hP hD hS hlocks dX5_isTorn_114 (by rw [ef])
          ·
            refine lv_iconst (v := 1) hx hb dX5_isTorn_92 (by decide) ?_
            refine lv_goto (tgt := 97) hx hb dX5_isTorn_93 (by decide) ?_
            refine lv_istore (lv' := [(8, .int 1), (7, .int 1), (6, .int (f_X5_offerOf sM i2 i1)), (0, .ref (am 0)), (1, .int i1), (2, .int i2), (3, .ref (am 19)), (4, .ref (am 20)), (5, .ref (am 21))]) hx hb dX5_isTorn_97 hl (by decide) rfl (fun ls hl => ?_)
            refine lv_iload hx hb dX5_isTorn_99 (lv_at hl 1 rfl) ?_
            refine lv_if_eq (tgt := 113) hx hb dX5_isTorn_101 (by decide) (fun c_10 => ?_) (fun c_10 => ?_)
            · exact absurd c_10 (by decide)
            refine lv_iload hx hb dX5_isTorn_104 (lv_at hl 0 rfl) ?_
            refine lv_if_eq (tgt := 113) hx hb dX5_isTorn_106 (by decide) (fun c_11 => ?_) (fun c_11 => ?_)
            · exact absurd c_11 (by decide)
            refine lv_iconst (v := 1) hx hb dX5_isTorn_109 (by decide) ?_
            refine lv_goto (tgt := 114) hx hb dX5_isTorn_110 (by decide) ?_
            have ef : f_X5_isTorn_t sM i1 i2 = 1 := by
              rw [f_X5_isTorn_t, if_neg c_1, if_neg c_2, if_pos c_3, if_neg c_4, if_neg c_7]
            exact k_retz hx hb hr (by decide) hK hP hD hS hlocks dX5_isTorn_114 (by rw [ef])
      ·
        refine lv_aload hx hb dX5_isTorn_32 (lv_at hl 5 rfl) ?_
        refine lv_iload_n hx hb dX5_isTorn_34 rfl (lv_at hl 2 rfl) ?_
        refine va_iald (f := sM 20) hx hb hK hP 20 0 rfl rfl (by first | assumption | exact ho.in (by assumption)) dX5_isTorn_35 ?_
        refine lv_iload hx hb dX5_isTorn_36 (lv_at hl 0 rfl) ?_
        refine lv_icmp_ge (tgt := 45) hx hb dX5_isTorn_38 (by decide) (fun c_12 => ?_) (fun c_12 => ?_)
        ·
          refine lv_iconst (v := 0) hx hb dX5_isTorn_45 (by decide) ?_
          refine lv_istore (lv' := [(7, .int 0), (6, .int (f_X5_offerOf sM i2 i1)), (0, .ref (am 0)), (1, .int i1), (2, .int i2), (3, .ref (am 19)), (4, .ref (am 20)), (5, .ref (am 21))]) hx hb dX5_isTorn_46 hl (by decide) rfl (fun ls hl => ?_)
          refine lv_aload hx hb dX5_isTorn_48 (lv_at hl 7 rfl) ?_
          refine lv_iload_n hx hb dX5_isTorn_50 rfl (lv_at hl 4 rfl) ?_
          refine va_iald (f := sM 21) hx hb hK hP 21 0 rfl rfl (by first | assumption | exact ho.in (by assumption)) dX5_isTorn_51 ?_
          refine lv_bipush (v := (-9)) hx hb dX5_isTorn_52 (by decide) ?_
          refine lv_icmp_eq (tgt := 92) hx hb dX5_isTorn_54 (by decide) (fun c_13 => ?_) (fun c_13 => ?_)
          ·
            refine lv_iconst (v := 1) hx hb dX5_isTorn_92 (by decide) ?_
            refine lv_goto (tgt := 97) hx hb dX5_isTorn_93 (by decide) ?_
            refine lv_istore (lv' := [(8, .int 1), (7, .int 0), (6, .int (f_X5_offerOf sM i2 i1)), (0, .ref (am 0)), (1, .int i1), (2, .int i2), (3, .ref (am 19)), (4, .ref (am 20)), (5, .ref (am 21))]) hx hb dX5_isTorn_97 hl (by decide) rfl (fun ls hl => ?_)
            refine lv_iload hx hb dX5_isTorn_99 (lv_at hl 1 rfl) ?_
            refine lv_if_eq (tgt := 113) hx hb dX5_isTorn_101 (by decide) (fun c_14 => ?_) (fun c_14 => ?_)
            rotate_left
            · exact absurd (by decide) c_14
            refine lv_iconst (v := 0) hx hb dX5_isTorn_113 (by decide) ?_
            have ef : f_X5_isTorn_t sM i1 i2 = 0 := by
              rw [f_X5_isTorn_t, if_neg c_1, if_neg c_2, if_neg c_3, if_pos c_12, if_pos c_13]
            exact k_retz hx hb hr (by decide) hK hP hD hS hlocks dX5_isTorn_114 (by rw [ef])
          ·
            refine lv_bipush (v := 10) hx hb dX5_isTorn_57 (by decide) ?_
            refine lv_aload_n hx hb dX5_isTorn_59 rfl (lv_at hl 2 rfl) ?_
            refine lv_iload_n hx hb dX5_isTorn_60 rfl (lv_at hl 4 rfl) ?_
            refine lv_aload hx hb dX5_isTorn_61 (lv_at hl 7 rfl) ?_
            refine lv_iload_n hx hb dX5_isTorn_63 rfl (lv_at hl 4 rfl) ?_
            refine va_iald (f := sM 21) hx hb hK hP 21 0 rfl rfl (by first | assumption | exact ho.in (by assumption)) dX5_isTorn_64 ?_
            refine k_Vi (wr := ([] : va_W)) (ws' := w_M k am sM) (Rv := (f_X5_held sM i2 ((sM 21) i2.toNatClampNeg))) (rest := [.int 10]) ⟨hx, hb, hml, hown, hts⟩ hK hA hP hD hS (c_X5_held l k am sM i2 ((sM 21) i2.toNatClampNeg) (h2) (by first | assumption | exact ho.in (by assumption))) (cwV 2 hts gX5_isTorn_X5_held rfl rfl rfl (by decide +kernel) ⟨Nat.le_of_ble_eq_true rfl, Nat.le_of_ble_eq_true rfl⟩) (va_recv hK hP (ci := 5) (q0 := 0) rfl rfl) rfl hl.1 rfl (Nat.le_of_ble_eq_true rfl) dX5_isTorn_65 (Nat.zero_le _) (Nat.zero_le _) [0, 1, 2, 3, 4, 5, 6, 7, 8, 9, 10, 11, 12, 13, 14, 15, 16, 17, 18, 19, 20, 21] [] [0, 1, 2, 3, 4, 5, 6, 7, 8, 9, 10, 11, 12, 13, 14, 15, 16, 17, 18, 19, 20, 21] rfl rfl rfl (by decide) rfl rfl rfl (fun H locs hP hD hS => ?_)
            refine lv_imul hx hb dX5_isTorn_68 ?_
            refine lv_aload hx hb dX5_isTorn_69 (lv_at hl 6 rfl) ?_
            refine lv_aload hx hb dX5_isTorn_71 (lv_at hl 7 rfl) ?_
            refine lv_iload_n hx hb dX5_isTorn_73 rfl (lv_at hl 4 rfl) ?_
            refine va_iald (f := sM 21) hx hb hK hP 21 0 rfl rfl (by first | assumption | exact ho.in (by assumption)) dX5_isTorn_74 ?_
            refine va_iald (f := sM 20) hx hb hK hP 20 0 rfl rfl (by first | assumption | exact ho.in (by assumption)) dX5_isTorn_75 ?_
            refine lv_isub hx hb dX5_isTorn_76 ?_
            refine lv_bipush (v := 10) hx hb dX5_isTorn_77 (by decide) ?_
            refine lv_aload_n hx hb dX5_isTorn_79 rfl (lv_at hl 2 rfl) ?_
            refine lv_iload_n hx hb dX5_isTorn_80 rfl (lv_at hl 4 rfl) ?_
            refine lv_iload_n hx hb dX5_isTorn_81 rfl (lv_at hl 3 rfl) ?_
            refine k_Vi (wr := ([] : va_W)) (ws' := w_M k am sM) (Rv := (f_X5_held sM i2 i1)) (rest := [.int 10, .int ((10 * (f_X5_held sM i2 ((sM 21) i2.toNatClampNeg))) - ((sM 20) ((sM 21) i2.toNatClampNeg).toNatClampNeg))]) ⟨hx, hb, hml, hown, hts⟩ hK hA hP hD hS (c_X5_held l k am sM i2 i1 (h2) (h1)) (cwV 2 hts gX5_isTorn_X5_held rfl rfl rfl (by decide +kernel) ⟨Nat.le_of_ble_eq_true rfl, Nat.le_of_ble_eq_true rfl⟩) (va_recv hK hP (ci := 5) (q0 := 0) rfl rfl) rfl hl.1 rfl (Nat.le_of_ble_eq_true rfl) dX5_isTorn_82 (Nat.zero_le _) (Nat.zero_le _) [0, 1, 2, 3, 4, 5, 6, 7, 8, 9, 10, 11, 12, 13, 14, 15, 16, 17, 18, 19, 20, 21] [] [0, 1, 2, 3, 4, 5, 6, 7, 8, 9, 10, 11, 12, 13, 14, 15, 16, 17, 18, 19, 20, 21] rfl rfl rfl (by decide) rfl rfl rfl (fun H locs hP hD hS => ?_)
            refine lv_imul hx hb dX5_isTorn_85 ?_
            refine lv_iload hx hb dX5_isTorn_86 (lv_at hl 1 rfl) ?_
            refine lv_isub hx hb dX5_isTorn_88 ?_
            refine lv_icmp_ge (tgt := 96) hx hb dX5_isTorn_89 (by decide) (fun c_15 => ?_) (fun c_15 => ?_)
            ·
              refine lv_iconst (v := 0) hx hb dX5_isTorn_96 (by decide) ?_
              refine lv_istore (lv' := [(8, .int 0), (7, .int 0), (6, .int (f_X5_offerOf sM i2 i1)), (0, .ref (am 0)), (1, .int i1), (2, .int i2), (3, .ref (am 19)), (4, .ref (am 20)), (5, .ref (am 21))]) hx hb dX5_isTorn_97 hl (by decide) rfl (fun ls hl => ?_)
              refine lv_iload hx hb dX5_isTorn_99 (lv_at hl 1 rfl) ?_
              refine lv_if_eq (tgt := 113) hx hb dX5_isTorn_101 (by decide) (fun c_16 => ?_) (fun c_16 => ?_)
              rotate_left
              · exact absurd (by decide) c_16
              refine lv_iconst (v := 0) hx hb dX5_isTorn_113 (by decide) ?_
              have ef : f_X5_isTorn_t sM i1 i2 = 0 := by
                rw [f_X5_isTorn_t, if_neg c_1, if_neg c_2, if_neg c_3, if_pos c_12, if_neg c_13, if_pos c_15]
              exact k_retz hx hb hr (by decide) hK hP hD hS hlocks dX5_isTorn_114 (by rw [ef])
            ·
              refine lv_iconst (v := 1) hx hb dX5_isTorn_92 (by decide) ?_
              refine lv_goto (tgt := 97) hx hb dX5_isTorn_93 (by decide) ?_
              refine lv_istore (lv' := [(8, .int 1), (7, .int 0), (6, .int (f_X5_offerOf sM i2 i1)), (0, .ref (am 0)), (1, .int i1), (2, .int i2), (3, .ref (am 19)), (4, .ref (am 20)), (5, .ref (am 21))]) hx hb dX5_isTorn_97 hl (by decide) rfl (fun ls hl => ?_)
              refine lv_iload hx hb dX5_isTorn_99 (lv_at hl 1 rfl) ?_
              refine lv_if_eq (tgt := 113) hx hb dX5_isTorn_101 (by decide) (fun c_17 => ?_) (fun c_17 => ?_)
              rotate_left
              · exact absurd (by decide) c_17
              refine lv_iconst (v := 0) hx hb dX5_isTorn_113 (by decide) ?_
              have ef : f_X5_isTorn_t sM i1 i2 = 0 := by
                rw [f_X5_isTorn_t, if_neg c_1, if_neg c_2, if_neg c_3, if_pos c_12, if_neg c_13, if_neg c_15]
              exact k_retz hx hb hr (by decide) hK hP hD hS hlocks dX5_isTorn_114 (by rw [ef])
        ·
          refine lv_iconst (v := 1) hx hb dX5_isTorn_41 (by decide) ?_
          refine lv_goto (tgt := 46) hx hb dX5_isTorn_42 (by decide) ?_
          refine lv_istore (lv' := [(7, .int 1), (6, .int (f_X5_offerOf sM i2 i1)), (0, .ref (am 0)), (1, .int i1), (2, .int i2), (3, .ref (am 19)), (4, .ref (am 20)), (5, .ref (am 21))]) hx hb dX5_isTorn_46 hl (by decide) rfl (fun ls hl => ?_)
          refine lv_aload hx hb dX5_isTorn_48 (lv_at hl 7 rfl) ?_
          refine lv_iload_n hx hb dX5_isTorn_50 rfl (lv_at hl 4 rfl) ?_
          refine va_iald (f := sM 21) hx hb hK hP 21 0 rfl rfl (by first | assumption | exact ho.in (by assumption)) dX5_isTorn_51 ?_
          refine lv_bipush (v := (-9)) hx hb dX5_isTorn_52 (by decide) ?_
          refine lv_icmp_eq (tgt := 92) hx hb dX5_isTorn_54 (by decide) (fun c_18 => ?_) (fun c_18 => ?_)
          ·
            refine lv_iconst (v := 1) hx hb dX5_isTorn_92 (by decide) ?_
            refine lv_goto (tgt := 97) hx hb dX5_isTorn_93 (by decide) ?_
            refine lv_istore (lv' := [(8, .int 1), (7, .int 1), (6, .int (f_X5_offerOf sM i2 i1)), (0, .ref (am 0)), (1, .int i1), (2, .int i2), (3, .ref (am 19)), (4, .ref (am 20)), (5, .ref (am 21))]) hx hb dX5_isTorn_97 hl (by decide) rfl (fun ls hl => ?_)
            refine lv_iload hx hb dX5_isTorn_99 (lv_at hl 1 rfl) ?_
            refine lv_if_eq (tgt := 113) hx hb dX5_isTorn_101 (by decide) (fun c_19 => ?_) (fun c_19 => ?_)
            · exact absurd c_19 (by decide)
            refine lv_iload hx hb dX5_isTorn_104 (lv_at hl 0 rfl) ?_
            refine lv_if_eq (tgt := 113) hx hb dX5_isTorn_106 (by decide) (fun c_20 => ?_) (fun c_20 => ?_)
            · exact absurd c_20 (by decide)
            refine lv_iconst (v := 1) hx hb dX5_isTorn_109 (by decide) ?_
            refine lv_goto (tgt := 114) hx hb dX5_isTorn_110 (by decide) ?_
            have ef : f_X5_isTorn_t sM i1 i2 = 1 := by
              rw [f_X5_isTorn_t, if_neg c_1, if_neg c_2, if_neg c_3, if_neg c_12, if_pos c_18]
            exact k_retz hx hb hr (by decide) hK hP hD hS hlocks dX5_isTorn_114 (by rw [ef])
          ·
            refine lv_bipush (v := 10) hx hb dX5_isTorn_57 (by decide) ?_
            refine lv_aload_n hx hb dX5_isTorn_59 rfl (lv_at hl 2 rfl) ?_
            refine lv_iload_n hx hb dX5_isTorn_60 rfl (lv_at hl 4 rfl) ?_
            refine lv_aload hx hb dX5_isTorn_61 (lv_at hl 7 rfl) ?_
            refine lv_iload_n hx hb dX5_isTorn_63 rfl (lv_at hl 4 rfl) ?_
            refine va_iald (f := sM 21) hx hb hK hP 21 0 rfl rfl (by first | assumption | exact ho.in (by assumption)) dX5_isTorn_64 ?_
            refine k_Vi (wr := ([] : va_W)) (ws' := w_M k am sM) (Rv := (f_X5_held sM i2 ((sM 21) i2.toNatClampNeg))) (rest := [.int 10]) ⟨hx, hb, hml, hown, hts⟩ hK hA hP hD hS (c_X5_held l k am sM i2 ((sM 21) i2.toNatClampNeg) (h2) (by first | assumption | exact ho.in (by assumption))) (cwV 2 hts gX5_isTorn_X5_held rfl rfl rfl (by decide +kernel) ⟨Nat.le_of_ble_eq_true rfl, Nat.le_of_ble_eq_true rfl⟩) (va_recv hK hP (ci := 5) (q0 := 0) rfl rfl) rfl hl.1 rfl (Nat.le_of_ble_eq_true rfl) dX5_isTorn_65 (Nat.zero_le _) (Nat.zero_le _) [0, 1, 2, 3, 4, 5, 6, 7, 8, 9, 10, 11, 12, 13, 14, 15, 16, 17, 18, 19, 20, 21] [] [0, 1, 2, 3, 4, 5, 6, 7, 8, 9, 10, 11, 12, 13, 14, 15, 16, 17, 18, 19, 20, 21] rfl rfl rfl (by decide) rfl rfl rfl (fun H locs hP hD hS => ?_)
            refine lv_imul hx hb dX5_isTorn_68 ?_
            refine lv_aload hx hb dX5_isTorn_69 (lv_at hl 6 rfl) ?_
            refine lv_aload hx hb dX5_isTorn_71 (lv_at hl 7 rfl) ?_
            refine lv_iload_n hx hb dX5_isTorn_73 rfl (lv_at hl 4 rfl) ?_
            refine va_iald (f := sM 21) hx hb hK hP 21 0 rfl rfl (by first | assumption | exact ho.in (by assumption)) dX5_isTorn_74 ?_
            refine va_iald (f := sM 20) hx hb hK hP 20 0 rfl rfl (by first | assumption | exact ho.in (by assumption)) dX5_isTorn_75 ?_
            refine lv_isub hx hb dX5_isTorn_76 ?_
            refine lv_bipush (v := 10) hx hb dX5_isTorn_77 (by decide) ?_
            refine lv_aload_n hx hb dX5_isTorn_79 rfl (lv_at hl 2 rfl) ?_
            refine lv_iload_n hx hb dX5_isTorn_80 rfl (lv_at hl 4 rfl) ?_
            refine lv_iload_n hx hb dX5_isTorn_81 rfl (lv_at hl 3 rfl) ?_
            refine k_Vi (wr := ([] : va_W)) (ws' := w_M k am sM) (Rv := (f_X5_held sM i2 i1)) (rest := [.int 10, .int ((10 * (f_X5_held sM i2 ((sM 21) i2.toNatClampNeg))) - ((sM 20) ((sM 21) i2.toNatClampNeg).toNatClampNeg))]) ⟨hx, hb, hml, hown, hts⟩ hK hA hP hD hS (c_X5_held l k am sM i2 i1 (h2) (h1)) (cwV 2 hts gX5_isTorn_X5_held rfl rfl rfl (by decide +kernel) ⟨Nat.le_of_ble_eq_true rfl, Nat.le_of_ble_eq_true rfl⟩) (va_recv hK hP (ci := 5) (q0 := 0) rfl rfl) rfl hl.1 rfl (Nat.le_of_ble_eq_true rfl) dX5_isTorn_82 (Nat.zero_le _) (Nat.zero_le _) [0, 1, 2, 3, 4, 5, 6, 7, 8, 9, 10, 11, 12, 13, 14, 15, 16, 17, 18, 19, 20, 21] [] [0, 1, 2, 3, 4, 5, 6, 7, 8, 9, 10, 11, 12, 13, 14, 15, 16, 17, 18, 19, 20, 21] rfl rfl rfl (by decide) rfl rfl rfl (fun H locs hP hD hS => ?_)
            refine lv_imul hx hb dX5_isTorn_85 ?_
            refine lv_iload hx hb dX5_isTorn_86 (lv_at hl 1 rfl) ?_
            refine lv_isub hx hb dX5_isTorn_88 ?_
            refine lv_icmp_ge (tgt := 96) hx hb dX5_isTorn_89 (by decide) (fun c_21 => ?_) (fun c_21 => ?_)
            ·
              refine lv_iconst (v := 0) hx hb dX5_isTorn_96 (by decide) ?_
              refine lv_istore (lv' := [(8, .int 0), (7, .int 1), (6, .int (f_X5_offerOf sM i2 i1)), (0, .ref (am 0)), (1, .int i1), (2, .int i2), (3, .ref (am 19)), (4, .ref (am 20)), (5, .ref (am 21))]) hx hb dX5_isTorn_97 hl (by decide) rfl (fun ls hl => ?_)
              refine lv_iload hx hb dX5_isTorn_99 (lv_at hl 1 rfl) ?_
              refine lv_if_eq (tgt := 113) hx hb dX5_isTorn_101 (by decide) (fun c_22 => ?_) (fun c_22 => ?_)
              · exact absurd c_22 (by decide)
              refine lv_iload hx hb dX5_isTorn_104 (lv_at hl 0 rfl) ?_
              refine lv_if_eq (tgt := 113) hx hb dX5_isTorn_106 (by decide) (fun c_23 => ?_) (fun c_23 => ?_)
              rotate_left
              · exact absurd (by decide) c_23
              refine lv_iconst (v := 0) hx hb dX5_isTorn_113 (by decide) ?_
              have ef : f_X5_isTorn_t sM i1 i2 = 0 := by
                rw [f_X5_isTorn_t, if_neg c_1, if_neg c_2, if_neg c_3, if_neg c_12, if_neg c_18, if_pos c_21]
              exact k_retz hx hb hr (by decide) hK hP hD hS hlocks dX5_isTorn_114 (by rw [ef])
            ·
              refine lv_iconst (v := 1) hx hb dX5_isTorn_92 (by decide) ?_
              refine lv_goto (tgt := 97) hx hb dX5_isTorn_93 (by decide) ?_
              refine lv_istore (lv' := [(8, .int 1), (7, .int 1), (6, .int (f_X5_offerOf sM i2 i1)), (0, .ref (am 0)), (1, .int i1), (2, .int i2), (3, .ref (am 19)), (4, .ref (am 20)), (5, .ref (am 21))]) hx hb dX5_isTorn_97 hl (by decide) rfl (fun ls hl => ?_)
              refine lv_iload hx hb dX5_isTorn_99 (lv_at hl 1 rfl) ?_
              refine lv_if_eq (tgt := 113) hx hb dX5_isTorn_101 (by decide) (fun c_24 => ?_) (fun c_24 => ?_)
              · exact absurd c_24 (by decide)
              refine lv_iload hx hb dX5_isTorn_104 (lv_at hl 0 rfl) ?_
              refine lv_if_eq (tgt := 113) hx hb dX5_isTorn_106 (by decide) (fun c_25 => ?_) (fun c_25 => ?_)
              · exact absurd c_25 (by decide)
              refine lv_iconst (v := 1) hx hb dX5_isTorn_109 (by decide) ?_
              refine lv_goto (tgt := 114) hx hb dX5_isTorn_110 (by decide) ?_
              have ef : f_X5_isTorn_t sM i1 i2 = 1 := by
                rw [f_X5_isTorn_t, if_neg c_1, if_neg c_2, if_neg c_3, if_neg c_12, if_neg c_18, if_neg c_21]
              exact k_retz hx hb hr (by decide) hK hP hD hS hlocks dX5_isTorn_114 (by rw [ef])
    ·
      refine lv_iconst (v := 0) hx hb dX5_isTorn_22 (by decide) ?_
      have ef : f_X5_isTorn_t sM i1 i2 = 0 := by
        rw [f_X5_isTorn_t, if_neg c_1, if_pos c_2]
      exact k_retz hx hb hr (by decide) hK hP hD hS hlocks dX5_isTorn_23 (by rw [ef])
