theorem in_X5_text_X5 : ∀ w ∈ wsX50, w ∈ wsX5_text := fun _ h => List.mem_cons_of_mem _ (List.mem_append_right _ h)
def f_X5_text (sM : Nat → Nat → Int32) (i1 : Int32) : Int32 × (Nat → Nat → Int32) :=
  if (f_X5_in i1.toInt64 0 1) = 0 then ((-2), sM)
  else ((sM 0 5), k_st sM 0 (k_st (sM 0) 5 i1))
set_option maxHeartbeats 4000000 in
set_option maxRecDepth 100000 in
theorem c_X5_text (l : Launch) (k : K_X) (am : Nat → Nat) (sM : Nat → Nat → Int32) (i1 : Int32) (hT : sM 0 0 = 0) : k_C l yX5_text wsX5_text (k_rm 1 25) k [.ref (am 0), .int i1] (w_M k am sM) (k_qI k ((f_X5_text sM i1).1) (w_M k am ((f_X5_text sM i1).2))) := by
  refine k_mk (cc := cX5_text) (maxL := 3) (ret := (some .int)) (by decide) rfl (Nat.le_of_ble_eq_true rfl) ?_
  intro p e s m below meth c A ls C0 hP hD hS hl
  obtain ⟨hx, hb, hr, hts, hown, hlocks, hml, hA, hK⟩ := id C0
  have hown : s.vm.findClass RX5 = some m.cls := hown
  have hl : lv_has ls 3 [(0, .ref (am 0)), (1, .int i1)] := hl
  refine lv_aload_n hx hb dX5_text_0 rfl (lv_at hl 0 rfl) ?_
  refine lv_iconst (v := 0) hx hb dX5_text_1 (by decide) ?_
  refine va_put (D := k.1) (ci := 5) (v := .int 0) (ty := .int) (C := RX5) (T := TX5) (N := 28) hx hb hts in_X5_text_X5 tyX5 tyX5_ok nmX5 hown hK hP hD hS 0 rfl rfl 0 (by decide) (k_w hts 1 rfl) (fun _ h9 => h9) rfl (by decide +kernel) rfl rfl (Nat.le_of_ble_eq_true rfl) dX5_text_2 (fun H locs hP hD hS => ?_)
  have hP := k_cP (w_M_s0 k am sM 0) hP
  have hD := k_cD (w_M_s0 k am sM 0) hD
  rw [k_thr hT] at hP hD
  refine lv_iload_n hx hb dX5_text_5 rfl (lv_at hl 1 rfl) ?_
  refine lv_i2l (v := i1.toInt64) hx hb dX5_text_6 rfl ?_
  refine lv_lconst (v := 0) hx hb dX5_text_7 (by decide) ?_
  refine lv_lconst (v := 1) hx hb dX5_text_8 (by decide) ?_
  refine k_Si (wr := w_M k am sM) (ws' := w_M k am sM) (Rv := (f_X5_in i1.toInt64 0 1)) (rest := []) ⟨hx, hb, hml, hown, hts⟩ hK hA hP hD hS (c_X5_in l k i1.toInt64 0 1) (va_cwS 3 hts gX5_text_X5_in rfl rfl rfl (by decide +kernel) ⟨Nat.le_of_ble_eq_true rfl, Nat.le_of_ble_eq_true rfl⟩) rfl hl.1 rfl (Nat.le_of_ble_eq_true rfl) dX5_text_9 (Nat.zero_le _) (Nat.zero_le _) [] [0, 1, 2, 3, 4, 5, 6, 7, 8, 9, 10, 11, 12, 13, 14, 15, 16, 17, 18, 19, 20, 21] [0, 1, 2, 3, 4, 5, 6, 7, 8, 9, 10, 11, 12, 13, 14, 15, 16, 17, 18, 19, 20, 21] rfl rfl rfl (by decide) rfl rfl rfl (fun H locs hP hD hS => ?_)
  refine lv_if_ne (tgt := 18) hx hb dX5_text_12 (by decide) (fun c_1 => ?_) (fun c_1 => ?_)
  ·
    refine lv_aload_n hx hb dX5_text_18 rfl (lv_at hl 0 rfl) ?_
    refine va_get (D := k.1) (ci := 5) (v := .int (sM 0 5)) (C := RX5) (T := TX5) (N := 28) hx hb hts in_X5_text_X5 hown hK hP 0 rfl rfl 18 (by decide) (k_w hts 2 rfl) (fun _ h9 => h9) rfl dX5_text_19 ?_
    refine lv_istore_n (lv' := [(2, .int (sM 0 5)), (0, .ref (am 0)), (1, .int i1)]) hx hb dX5_text_22 rfl hl (by decide) rfl (fun ls hl => ?_)
    refine lv_aload_n hx hb dX5_text_23 rfl (lv_at hl 1 rfl) ?_
    refine lv_iload_n hx hb dX5_text_24 rfl (lv_at hl 2 rfl) ?_
    refine va_put (D := k.1) (ci := 5) (v := .int i1) (ty := .int) (C := RX5) (T := TX5) (N := 28) hx hb hts in_X5_text_X5 tyX5 tyX5_ok nmX5 hown hK hP hD hS 0 rfl rfl 18 (by decide) (k_w hts 2 rfl) (fun _ h9 => h9) rfl (by decide +kernel) rfl rfl (Nat.le_of_ble_eq_true rfl) dX5_text_25 (fun H locs hP hD hS => ?_)
    have hP := k_cP (w_M_s5 k am sM i1) hP
    have hD := k_cD (w_M_s5 k am sM i1) hD
    refine lv_iload_n hx hb dX5_text_28 rfl (lv_at hl 0 rfl) ?_
    have ef : f_X5_text sM i1 = ((sM 0 5), k_st sM 0 (k_st (sM 0) 5 i1)) := by
      rw [f_X5_text, if_neg c_1]
    exact k_reti hx hb hr hK (by rw [ef]; exact hP) (by rw [ef]; exact hD) hS hlocks dX5_text_29 (by rw [ef])
  ·
    refine lv_bipush (v := (-2)) hx hb dX5_text_15 (by decide) ?_
    have ef : f_X5_text sM i1 = ((-2), sM) := by
      rw [f_X5_text, if_pos c_1]
    exact k_reti hx hb hr hK (by rw [ef]; exact hP) (by rw [ef]; exact hD) hS hlocks dX5_text_17 (by rw [ef])
theorem in_X5_days_X5 : ∀ w ∈ wsX50, w ∈ wsX5_days := fun _ h => List.mem_cons_of_mem _ (List.mem_append_right _ h)
def f_X5_days (sM : Nat → Nat → Int32) (i1 : Int32) : Int32 × (Nat → Nat → Int32) :=
  if (f_X5_in i1.toInt64 1 363) = 0 then ((-2), sM)
  else if (sM 0 6) = (-9) then ((-3), sM)
  else if ((sM 0 6) + i1) ≤ 363 then (((sM 0 6) + i1), k_st sM 0 (k_st (sM 0) 6 ((sM 0 6) + i1)))
  else ((-4), sM)
set_option maxHeartbeats 4000000 in
set_option maxRecDepth 100000 in
theorem c_X5_days (l : Launch) (k : K_X) (am : Nat → Nat) (sM : Nat → Nat → Int32) (i1 : Int32) (hT : sM 0 0 = 0) : k_C l yX5_days wsX5_days (k_rm 1 25) k [.ref (am 0), .int i1] (w_M k am sM) (k_qI k ((f_X5_days sM i1).1) (w_M k am ((f_X5_days sM i1).2))) := by
  refine k_mk (cc := cX5_days) (maxL := 2) (ret := (some .int)) (by decide) rfl (Nat.le_of_ble_eq_true rfl) ?_
  intro p e s m below meth c A ls C0 hP hD hS hl
  obtain ⟨hx, hb, hr, hts, hown, hlocks, hml, hA, hK⟩ := id C0
  have hown : s.vm.findClass RX5 = some m.cls := hown
  have hl : lv_has ls 2 [(0, .ref (am 0)), (1, .int i1)] := hl
  refine lv_aload_n hx hb dX5_days_0 rfl (lv_at hl 0 rfl) ?_
  refine lv_iconst (v := 0) hx hb dX5_days_1 (by decide) ?_
  refine va_put (D := k.1) (ci := 5) (v := .int 0) (ty := .int) (C := RX5) (T := TX5) (N := 28) hx hb hts in_X5_days_X5 tyX5 tyX5_ok nmX5 hown hK hP hD hS 0 rfl rfl 0 (by decide) (k_w hts 1 rfl) (fun _ h9 => h9) rfl (by decide +kernel) rfl rfl (Nat.le_of_ble_eq_true rfl) dX5_days_2 (fun H locs hP hD hS => ?_)
  have hP := k_cP (w_M_s0 k am sM 0) hP
  have hD := k_cD (w_M_s0 k am sM 0) hD
  rw [k_thr hT] at hP hD
  refine lv_iload_n hx hb dX5_days_5 rfl (lv_at hl 1 rfl) ?_
  refine lv_i2l (v := i1.toInt64) hx hb dX5_days_6 rfl ?_
  refine lv_lconst (v := 1) hx hb dX5_days_7 (by decide) ?_
  refine lv_ldc2 hx hb hown (k_w hts 2 rfl) dX5_days_8 ?_
  refine k_Si (wr := w_M k am sM) (ws' := w_M k am sM) (Rv := (f_X5_in i1.toInt64 1 363)) (rest := []) ⟨hx, hb, hml, hown, hts⟩ hK hA hP hD hS (c_X5_in l k i1.toInt64 1 363) (va_cwS 3 hts gX5_days_X5_in rfl rfl rfl (by decide +kernel) ⟨Nat.le_of_ble_eq_true rfl, Nat.le_of_ble_eq_true rfl⟩) rfl hl.1 rfl (Nat.le_of_ble_eq_true rfl) dX5_days_11 (Nat.zero_le _) (Nat.zero_le _) [] [0, 1, 2, 3, 4, 5, 6, 7, 8, 9, 10, 11, 12, 13, 14, 15, 16, 17, 18, 19, 20, 21] [0, 1, 2, 3, 4, 5, 6, 7, 8, 9, 10, 11, 12, 13, 14, 15, 16, 17, 18, 19, 20, 21] rfl rfl rfl (by decide) rfl rfl rfl (fun H locs hP hD hS => ?_)
  refine lv_if_ne (tgt := 20) hx hb dX5_days_14 (by decide) (fun c_1 => ?_) (fun c_1 => ?_)
  ·
    refine lv_aload_n hx hb dX5_days_20 rfl (lv_at hl 0 rfl) ?_
    refine va_get (D := k.1) (ci := 5) (v := .int (sM 0 6)) (C := RX5) (T := TX5) (N := 28) hx hb hts in_X5_days_X5 hown hK hP 0 rfl rfl 19 (by decide) (k_w hts 3 rfl) (fun _ h9 => h9) rfl dX5_days_21 ?_
    refine lv_bipush (v := (-9)) hx hb dX5_days_24 (by decide) ?_
    refine lv_icmp_ne (tgt := 32) hx hb dX5_days_26 (by decide) (fun c_2 => ?_) (fun c_2 => ?_)
    ·
      refine lv_aload_n hx hb dX5_days_32 rfl (lv_at hl 0 rfl) ?_
      refine va_get (D := k.1) (ci := 5) (v := .int (sM 0 6)) (C := RX5) (T := TX5) (N := 28) hx hb hts in_X5_days_X5 hown hK hP 0 rfl rfl 19 (by decide) (k_w hts 3 rfl) (fun _ h9 => h9) rfl dX5_days_33 ?_
      refine lv_iload_n hx hb dX5_days_36 rfl (lv_at hl 1 rfl) ?_
      refine lv_iadd hx hb dX5_days_37 ?_
      refine lv_sipush (v := 363) hx hb dX5_days_38 (by decide) ?_
      refine lv_icmp_le (tgt := 47) hx hb dX5_days_41 (by decide) (fun c_3 => ?_) (fun c_3 => ?_)
      ·
        refine lv_aload_n hx hb dX5_days_47 rfl (lv_at hl 0 rfl) ?_
        refine lv_dup hx hb dX5_days_48 rfl ?_
        refine va_get (D := k.1) (ci := 5) (v := .int (sM 0 6)) (C := RX5) (T := TX5) (N := 28) hx hb hts in_X5_days_X5 hown hK hP 0 rfl rfl 19 (by decide) (k_w hts 3 rfl) (fun _ h9 => h9) rfl dX5_days_49 ?_
        refine lv_iload_n hx hb dX5_days_52 rfl (lv_at hl 1 rfl) ?_
        refine lv_iadd hx hb dX5_days_53 ?_
        refine va_put (D := k.1) (ci := 5) (v := .int ((sM 0 6) + i1)) (ty := .int) (C := RX5) (T := TX5) (N := 28) hx hb hts in_X5_days_X5 tyX5 tyX5_ok nmX5 hown hK hP hD hS 0 rfl rfl 19 (by decide) (k_w hts 3 rfl) (fun _ h9 => h9) rfl (by decide +kernel) rfl rfl (Nat.le_of_ble_eq_true rfl) dX5_days_54 (fun H locs hP hD hS => ?_)
        have hP := k_cP (w_M_s6 k am sM ((sM 0 6) + i1)) hP
        have hD := k_cD (w_M_s6 k am sM ((sM 0 6) + i1)) hD
        refine lv_aload_n hx hb dX5_days_57 rfl (lv_at hl 0 rfl) ?_
        refine va_get (D := k.1) (ci := 5) (v := .int ((sM 0 6) + i1)) (C := RX5) (T := TX5) (N := 28) hx hb hts in_X5_days_X5 hown hK hP 0 rfl rfl 19 (by decide) (k_w hts 3 rfl) (fun _ h9 => h9) rfl dX5_days_58 ?_
        have ef : f_X5_days sM i1 = (((sM 0 6) + i1), k_st sM 0 (k_st (sM 0) 6 ((sM 0 6) + i1))) := by
          rw [f_X5_days, if_neg c_1, if_neg c_2, if_pos c_3]
        exact k_reti hx hb hr hK (by rw [ef]; exact hP) (by rw [ef]; exact hD) hS hlocks dX5_days_61 (by rw [ef])
      ·
        refine lv_bipush (v := (-4)) hx hb dX5_days_44 (by decide) ?_
        have ef : f_X5_days sM i1 = ((-4), sM) := by
          rw [f_X5_days, if_neg c_1, if_neg c_2, if_neg c_3]
        exact k_reti hx hb hr hK (by rw [ef]; exact hP) (by rw [ef]; exact hD) hS hlocks dX5_days_46 (by rw [ef])
    ·
      refine lv_bipush (v := (-3)) hx hb dX5_days_29 (by decide) ?_
      have ef : f_X5_days sM i1 = ((-3), sM) := by
        rw [f_X5_days, if_neg c_1, if_pos c_2]
      exact k_reti hx hb hr hK (by rw [ef]; exact hP) (by rw [ef]; exact hD) hS hlocks dX5_days_31 (by rw [ef])
  ·
    refine lv_bipush (v := (-2)) hx hb dX5_days_17 (by decide) ?_
    have ef : f_X5_days sM i1 = ((-2), sM) := by
      rw [f_X5_days, if_pos c_1]
    exact k_reti hx hb hr hK (by rw [ef]; exact hP) (by rw [ef]; exact hD) hS hlocks dX5_days_19 (by rw [ef])
theorem in_X5_serves_X5 : ∀ w ∈ wsX50, w ∈ wsX5_serves := fun _ h => List.mem_cons_of_mem _ (List.mem_append_right _ h)
def f_X5_serves (sM : Nat → Nat → Int32) (i1 : Int32) (i2 : Int32) : Int32 :=
  if ((sM 9) i1.toNatClampNeg) = (-9) then 0
  else if ((sM 14) i1.toNatClampNeg) < i2 then 0
  else 1
set_option maxHeartbeats 4000000 in
set_option maxRecDepth 100000 in
theorem c_X5_serves (l : Launch) (k : K_X) (am : Nat → Nat) (sM : Nat → Nat → Int32) (i1 : Int32) (i2 : Int32) (h1 : vp_in i1 10) : k_C l yX5_serves wsX5_serves (k_rm 0 0) k [.ref (am 0), .int i1, .int i2] (w_M k am sM) (k_qI k (f_X5_serves sM i1 i2) (w_M k am sM)) := by
  refine k_mk (cc := cX5_serves) (maxL := 3) (ret := (some .boolean)) (by decide) rfl (Nat.le_of_ble_eq_true rfl) ?_
  intro p e s m below meth c A ls C0 hP hD hS hl
  obtain ⟨hx, hb, hr, hts, hown, hlocks, hml, hA, hK⟩ := id C0
  have hown : s.vm.findClass RX5 = some m.cls := hown
  have hl : lv_has ls 3 [(0, .ref (am 0)), (1, .int i1), (2, .int i2)] := hl
  refine lv_aload_n hx hb dX5_serves_0 rfl (lv_at hl 0 rfl) ?_
  refine va_get (D := k.1) (ci := 5) (v := .ref (am 9)) (C := RX5) (T := TX5) (N := 28) hx hb hts in_X5_serves_X5 hown hK hP 0 rfl rfl 11 (by decide) (k_w hts 1 rfl) (fun _ h9 => h9) rfl dX5_serves_1 ?_
  refine lv_iload_n hx hb dX5_serves_4 rfl (lv_at hl 1 rfl) ?_
  refine va_iald (f := sM 9) hx hb hK hP 9 0 rfl rfl (by assumption) dX5_serves_5 ?_
  refine lv_bipush (v := (-9)) hx hb dX5_serves_6 (by decide) ?_
  refine lv_icmp_eq (tgt := 25) hx hb dX5_serves_8 (by decide) (fun c_1 => ?_) (fun c_1 => ?_)
  ·
    refine lv_iconst (v := 0) hx hb dX5_serves_25 (by decide) ?_
    have ef : f_X5_serves sM i1 i2 = 0 := by
      rw [f_X5_serves, if_pos c_1]
    exact k_retz hx hb hr (by decide) hK hP hD hS hlocks dX5_serves_26 (by rw [ef])
  ·
    refine lv_iload_n hx hb dX5_serves_11 rfl (lv_at hl 2 rfl) ?_
    refine lv_aload_n hx hb dX5_serves_12 rfl (lv_at hl 0 rfl) ?_
    refine va_get (D := k.1) (ci := 5) (v := .ref (am 14)) (C := RX5) (T := TX5) (N := 28) hx hb hts in_X5_serves_X5 hown hK hP 0 rfl rfl 20 (by decide) (k_w hts 2 rfl) (fun _ h9 => h9) rfl dX5_serves_13 ?_
    refine lv_iload_n hx hb dX5_serves_16 rfl (lv_at hl 1 rfl) ?_
    refine va_iald (f := sM 14) hx hb hK hP 14 0 rfl rfl (by assumption) dX5_serves_17 ?_
    refine lv_icmp_gt (tgt := 25) hx hb dX5_serves_18 (by decide) (fun c_2 => ?_) (fun c_2 => ?_)
    ·
      refine lv_iconst (v := 0) hx hb dX5_serves_25 (by decide) ?_
      have ef : f_X5_serves sM i1 i2 = 0 := by
        rw [f_X5_serves, if_neg c_1, if_pos c_2]
      exact k_retz hx hb hr (by decide) hK hP hD hS hlocks dX5_serves_26 (by rw [ef])
    ·
      refine lv_iconst (v := 1) hx hb dX5_serves_21 (by decide) ?_
      refine lv_goto (tgt := 26) hx hb dX5_serves_22 (by decide) ?_
      have ef : f_X5_serves sM i1 i2 = 1 := by
        rw [f_X5_serves, if_neg c_1, if_neg c_2]
      exact k_retz hx hb hr (by decide) hK hP hD hS hlocks dX5_serves_26 (by rw [ef])
theorem in_X5_sick_X5 : ∀ w ∈ wsX50, w ∈ wsX5_sick := fun _ h => List.mem_cons_of_mem _ (List.mem_append_right _ h)
def g_X5_sick_lp (i1 : Int32) (i2 : Int32) : Nat → Nat → Int32 → (Nat → Nat → Int32) → Int32 × (Nat → Nat → Int32)
  | 0, j, a1, sM => (a1, sM)
  | r + 1, j, a1, sM => if ((sM 17) ((364 * i1) + (nI j)).toNatClampNeg) = 0 then (if (nI j) < (sM 0 6) then (if ((upd (sM 17) ((364 * i1) + (nI j)).toNatClampNeg (vp_nar .boolean 0)) ((364 * i1) + (nI j)).toNatClampNeg) = 0 then g_X5_sick_lp i1 i2 r (j + 1) (a1 + 0) (k_st sM 17 (upd (sM 17) ((364 * i1) + (nI j)).toNatClampNeg (vp_nar .boolean 0)))
        else g_X5_sick_lp i1 i2 r (j + 1) (a1 + 1) (k_st sM 17 (upd (sM 17) ((364 * i1) + (nI j)).toNatClampNeg (vp_nar .boolean 0))))
      else if ((sM 0 6) + i2) ≤ (nI j) then (if ((upd (sM 17) ((364 * i1) + (nI j)).toNatClampNeg (vp_nar .boolean 0)) ((364 * i1) + (nI j)).toNatClampNeg) = 0 then g_X5_sick_lp i1 i2 r (j + 1) (a1 + 0) (k_st sM 17 (upd (sM 17) ((364 * i1) + (nI j)).toNatClampNeg (vp_nar .boolean 0)))
        else g_X5_sick_lp i1 i2 r (j + 1) (a1 + 1) (k_st sM 17 (upd (sM 17) ((364 * i1) + (nI j)).toNatClampNeg (vp_nar .boolean 0))))
      else if ((upd (sM 17) ((364 * i1) + (nI j)).toNatClampNeg (vp_nar .boolean 1)) ((364 * i1) + (nI j)).toNatClampNeg) = 0 then g_X5_sick_lp i1 i2 r (j + 1) (a1 + 0) (k_st sM 17 (upd (sM 17) ((364 * i1) + (nI j)).toNatClampNeg (vp_nar .boolean 1)))
      else g_X5_sick_lp i1 i2 r (j + 1) (a1 + 1) (k_st sM 17 (upd (sM 17) ((364 * i1) + (nI j)).toNatClampNeg (vp_nar .boolean 1))))
    else if ((upd (sM 17) ((364 * i1) + (nI j)).toNatClampNeg (vp_nar .boolean 1)) ((364 * i1) + (nI j)).toNatClampNeg) = 0 then g_X5_sick_lp i1 i2 r (j + 1) (a1 + 0) (k_st sM 17 (upd (sM 17) ((364 * i1) + (nI j)).toNatClampNeg (vp_nar .boolean 1)))
    else g_X5_sick_lp i1 i2 r (j + 1) (a1 + 1) (k_st sM 17 (upd (sM 17) ((364 * i1) + (nI j)).toNatClampNeg (vp_nar .boolean 1)))
set_option maxHeartbeats 4000000 in
set_option maxRecDepth 100000 in
theorem lp_X5_sick_lp {p : Program} {l : Launch} {e : Env} {s : State} {m : MethodId} {below : List Frame} {meth : Method} {c : Code} {A : Nat → Prop} {Q : State → Prop} {av : Array Value} (k : K_X) (am : Nat → Nat) (i1 : Int32) (i2 : Int32) (C0 : k_Cx p s m meth c k cX5_sick (some .int) wsX5_sick RX5 5 av A) (h1 : vp_in i1 10) : ∀ (r j : Nat) (a1 : Int32) (sM : Nat → Nat → Int32) (H : Heap) (locs : List Loc) (ls : Array Slot), j + r = 364 → va_P k.1 vwCl (w_M k am sM) H → va_D A (w_M k am sM) → va_S A s.heap H locs → lv_has ls 5 [(0, .ref (am 0)), (1, .int i1), (2, .int i2), (3, .int a1), (4, .int (nI j))] → (∀ (H : Heap) (locs : List Loc) (ls : Array Slot), va_P k.1 vwCl (w_M k am ((g_X5_sick_lp i1 i2 r j a1 sM).2)) H → va_D A (w_M k am ((g_X5_sick_lp i1 i2 r j a1 sM).2)) → va_S A s.heap H locs → lv_has ls 5 [(0, .ref (am 0)), (1, .int i1), (2, .int i2), (3, .int ((g_X5_sick_lp i1 i2 r j a1 sM).1))] → W p l e (k_rm 2 46) s m av below meth c H locs 0 0 Q (F0 m 151 ls [])) → W p l e (k_rm 2 46) s m av below meth c H locs 0 0 Q (F0 m 59 ls []) := by
  obtain ⟨hx, hb, hr, hts, hown, hlocks, hml, hA, hK⟩ := id C0
  intro r
  induction r with
  | zero =>
    intro j a1 sM H locs ls hj hP hD hS hl hQ
    refine lv_iload hx hb dX5_sick_59 (lv_at hl 4 rfl) ?_
    refine lv_sipush (v := 363) hx hb dX5_sick_61 (by decide) ?_
    refine lv_icmp_gt (tgt := 151) hx hb dX5_sick_64 (by decide) (fun c_1 => ?_) (fun c_1 => ?_)
    rotate_left
    · exact absurd (k_gtc (c := 363) (by decide) (by omega) (by omega)) c_1
    have eg : g_X5_sick_lp i1 i2 0 j a1 sM = (a1, sM) := by
      rw [g_X5_sick_lp]
    rw [eg] at hQ
    exact hQ _ _ _ hP hD hS (lv_sub hl [0, 1, 2, 3] rfl)
  | succ r ih =>
    intro j a1 sM H locs ls hj hP hD hS hl hQ
    refine lv_iload hx hb dX5_sick_59 (lv_at hl 4 rfl) ?_
    refine lv_sipush (v := 363) hx hb dX5_sick_61 (by decide) ?_
    refine lv_icmp_gt (tgt := 151) hx hb dX5_sick_64 (by decide) (fun c_1 => ?_) (fun c_1 => ?_)
    · exact absurd c_1 (k_ngtc (c := 363) (by decide) (by omega) (by omega))
    refine lv_aload_n hx hb dX5_sick_67 rfl (lv_at hl 0 rfl) ?_
    refine va_get (D := k.1) (ci := 5) (v := .ref (am 17)) (C := RX5) (T := TX5) (N := 28) hx hb hts in_X5_sick_X5 hown hK hP 0 rfl rfl 23 (by decide) (k_w hts 4 rfl) (fun _ h9 => h9) rfl dX5_sick_68 ?_
    refine lv_sipush (v := 364) hx hb dX5_sick_71 (by decide) ?_
    refine lv_iload_n hx hb dX5_sick_74 rfl (lv_at hl 1 rfl) ?_
    refine lv_imul hx hb dX5_sick_75 ?_
    refine lv_iload hx hb dX5_sick_76 (lv_at hl 4 rfl) ?_
    refine lv_iadd hx hb dX5_sick_78 ?_
    refine lv_aload_n hx hb dX5_sick_79 rfl (lv_at hl 0 rfl) ?_
    refine va_get (D := k.1) (ci := 5) (v := .ref (am 17)) (C := RX5) (T := TX5) (N := 28) hx hb hts in_X5_sick_X5 hown hK hP 0 rfl rfl 23 (by decide) (k_w hts 4 rfl) (fun _ h9 => h9) rfl dX5_sick_80 ?_
    refine lv_sipush (v := 364) hx hb dX5_sick_83 (by decide) ?_
    refine lv_iload_n hx hb dX5_sick_86 rfl (lv_at hl 1 rfl) ?_
    refine lv_imul hx hb dX5_sick_87 ?_
    refine lv_iload hx hb dX5_sick_88 (lv_at hl 4 rfl) ?_
    refine lv_iadd hx hb dX5_sick_90 ?_
    refine va_zald (f := sM 17) hx hb hK hP 17 1 rfl rfl (k_sk h1 (by omega)) dX5_sick_91 ?_
    refine lv_if_ne (tgt := 115) hx hb dX5_sick_92 (by decide) (fun c_2 => ?_) (fun c_2 => ?_)
    ·
      refine lv_iconst (v := 1) hx hb dX5_sick_115 (by decide) ?_
      refine lv_goto (tgt := 120) hx hb dX5_sick_116 (by decide) ?_
      refine va_zast (f := sM 17) hx hb hK hP hD hS 17 1 rfl rfl (k_sk h1 (by omega)) dX5_sick_120 (fun H locs hP hD hS => ?_)
      have hP := k_cP (w_M_17 k am sM (upd (sM 17) ((364 * i1) + (nI j)).toNatClampNeg (vp_nar .boolean 1))) hP
      have hD := k_cD (w_M_17 k am sM (upd (sM 17) ((364 * i1) + (nI j)).toNatClampNeg (vp_nar .boolean 1))) hD
      refine lv_iload_n hx hb dX5_sick_121 rfl (lv_at hl 3 rfl) ?_
      refine lv_aload_n hx hb dX5_sick_122 rfl (lv_at hl 0 rfl) ?_
      refine va_get (D := k.1) (ci := 5) (v := .ref (am 17)) (C := RX5) (T := TX5) (N := 28) hx hb hts in_X5_sick_X5 hown hK hP 0 rfl rfl 23 (by decide) (k_w hts 4 rfl) (fun _ h9 => h9) rfl dX5_sick_123 ?_
      refine lv_sipush (v := 364) hx hb dX5_sick_126 (by decide) ?_
      refine lv_iload_n hx hb dX5_sick_129 rfl (lv_at hl 1 rfl) ?_
      refine lv_imul hx hb dX5_sick_130 ?_
      refine lv_iload hx hb dX5_sick_131 (lv_at hl 4 rfl) ?_
      refine lv_iadd hx hb dX5_sick_133 ?_
      refine va_zald (f := upd (sM 17) ((364 * i1) + (nI j)).toNatClampNeg (vp_nar .boolean 1)) hx hb hK hP 17 1 rfl rfl (k_sk h1 (by omega)) dX5_sick_134 ?_
      refine lv_if_eq (tgt := 142) hx hb dX5_sick_135 (by decide) (fun c_3 => ?_) (fun c_3 => ?_)
      ·
        refine lv_iconst (v := 0) hx hb dX5_sick_142 (by decide) ?_
        refine lv_iadd hx hb dX5_sick_143 ?_
        refine lv_istore_n (lv' := [(3, .int (a1 + 0)), (0, .ref (am 0)), (1, .int i1), (2, .int i2), (4, .int (nI j))]) hx hb dX5_sick_144 rfl hl (by decide) rfl (fun ls hl => ?_)
        refine lv_iinc (v := nI (j + 1)) (lv' := [(4, .int (nI (j + 1))), (3, .int (a1 + 0)), (0, .ref (am 0)), (1, .int i1), (2, .int i2)]) hx hb dX5_sick_145 hl (k := 4) rfl (nI_1 j) (by decide) rfl (fun ls hl => ?_)
        refine lv_goto (tgt := 59) hx hb dX5_sick_148 (by decide) ?_
        have eg : g_X5_sick_lp i1 i2 (r + 1) j a1 sM = g_X5_sick_lp i1 i2 r (j + 1) (a1 + 0) (k_st sM 17 (upd (sM 17) ((364 * i1) + (nI j)).toNatClampNeg (vp_nar .boolean 1))) := by
          rw [g_X5_sick_lp, if_neg c_2, if_pos c_3]
        rw [eg] at hQ
        exact ih (j + 1) (a1 + 0) (k_st sM 17 (upd (sM 17) ((364 * i1) + (nI j)).toNatClampNeg (vp_nar .boolean 1))) _ _ _ (by omega) hP hD hS (lv_sub hl [2, 3, 4, 1, 0] rfl) hQ
      ·
        refine lv_iconst (v := 1) hx hb dX5_sick_138 (by decide) ?_
        refine lv_goto (tgt := 143) hx hb dX5_sick_139 (by decide) ?_
        refine lv_iadd hx hb dX5_sick_143 ?_
        refine lv_istore_n (lv' := [(3, .int (a1 + 1)), (0, .ref (am 0)), (1, .int i1), (2, .int i2), (4, .int (nI j))]) hx hb dX5_sick_144 rfl hl (by decide) rfl (fun ls hl => ?_)
        refine lv_iinc (v := nI (j + 1)) (lv' := [(4, .int (nI (j + 1))), (3, .int (a1 + 1)), (0, .ref (am 0)), (1, .int i1), (2, .int i2)]) hx hb dX5_sick_145 hl (k := 4) rfl (nI_1 j) (by decide) rfl (fun ls hl => ?_)
        refine lv_goto (tgt := 59) hx hb dX5_sick_148 (by decide) ?_
        have eg : g_X5_sick_lp i1 i2 (r + 1) j a1 sM = g_X5_sick_lp i1 i2 r (j + 1) (a1 + 1) (k_st sM 17 (upd (sM 17) ((364 * i1) + (nI j)).toNatClampNeg (vp_nar .boolean 1))) := by
          rw [g_X5_sick_lp, if_neg c_2, if_neg c_3]
        rw [eg] at hQ
        exact ih (j + 1) (a1 + 1) (k_st sM 17 (upd (sM 17) ((364 * i1) + (nI j)).toNatClampNeg (vp_nar .boolean 1))) _ _ _ (by omega) hP hD hS (lv_sub hl [2, 3, 4, 1, 0] rfl) hQ
    ·
      refine lv_iload hx hb dX5_sick_95 (lv_at hl 4 rfl) ?_
      refine lv_aload_n hx hb dX5_sick_97 rfl (lv_at hl 0 rfl) ?_
      refine va_get (D := k.1) (ci := 5) (v := .int (sM 0 6)) (C := RX5) (T := TX5) (N := 28) hx hb hts in_X5_sick_X5 hown hK hP 0 rfl rfl 19 (by decide) (k_w hts 3 rfl) (fun _ h9 => h9) rfl dX5_sick_98 ?_
      refine lv_icmp_lt (tgt := 119) hx hb dX5_sick_101 (by decide) (fun c_4 => ?_) (fun c_4 => ?_)
      ·
        refine lv_iconst (v := 0) hx hb dX5_sick_119 (by decide) ?_
        refine va_zast (f := sM 17) hx hb hK hP hD hS 17 1 rfl rfl (k_sk h1 (by omega)) dX5_sick_120 (fun H locs hP hD hS => ?_)
        have hP := k_cP (w_M_17 k am sM (upd (sM 17) ((364 * i1) + (nI j)).toNatClampNeg (vp_nar .boolean 0))) hP
        have hD := k_cD (w_M_17 k am sM (upd (sM 17) ((364 * i1) + (nI j)).toNatClampNeg (vp_nar .boolean 0))) hD
        refine lv_iload_n hx hb dX5_sick_121 rfl (lv_at hl 3 rfl) ?_
        refine lv_aload_n hx hb dX5_sick_122 rfl (lv_at hl 0 rfl) ?_
        refine va_get (D := k.1) (ci := 5) (v := .ref (am 17)) (C := RX5) (T := TX5) (N := 28) hx hb hts in_X5_sick_X5 hown hK hP 0 rfl rfl 23 (by decide) (k_w hts 4 rfl) (fun _ h9 => h9) rfl dX5_sick_123 ?_
        refine lv_sipush (v := 364) hx hb dX5_sick_126 (by decide) ?_
        refine lv_iload_n hx hb dX5_sick_129 rfl (lv_at hl 1 rfl) ?_
        refine lv_imul hx hb dX5_sick_130 ?_
        refine lv_iload hx hb dX5_sick_131 (lv_at hl 4 rfl) ?_
        refine lv_iadd hx hb dX5_sick_133 ?_
        refine va_zald (f := upd (sM 17) ((364 * i1) + (nI j)).toNatClampNeg (vp_nar .boolean 0)) hx hb hK hP 17 1 rfl rfl (k_sk h1 (by omega)) dX5_sick_134 ?_
        refine lv_if_eq (tgt := 142) hx hb dX5_sick_135 (by decide) (fun c_5 => ?_) (fun c_5 => ?_)
        ·
          refine lv_iconst (v := 0) hx hb dX5_sick_142 (by decide) ?_
          refine lv_iadd hx hb dX5_sick_143 ?_
          refine lv_istore_n (lv' := [(3, .int (a1 + 0)), (0, .ref (am 0)), (1, .int i1), (2, .int i2), (4, .int (nI j))]) hx hb dX5_sick_144 rfl hl (by decide) rfl (fun ls hl => ?_)
          refine lv_iinc (v := nI (j + 1)) (lv' := [(4, .int (nI (j + 1))), (3, .int (a1 + 0)), (0, .ref (am 0)), (1, .int i1), (2, .int i2)]) hx hb dX5_sick_145 hl (k := 4) rfl (nI_1 j) (by decide) rfl (fun ls hl => ?_)
          refine lv_goto (tgt := 59) hx hb dX5_sick_148 (by decide) ?_
          have eg : g_X5_sick_lp i1 i2 (r + 1) j a1 sM = g_X5_sick_lp i1 i2 r (j + 1) (a1 + 0) (k_st sM 17 (upd (sM 17) ((364 * i1) + (nI j)).toNatClampNeg (vp_nar .boolean 0))) := by
            rw [g_X5_sick_lp, if_pos c_2, if_pos c_4, if_pos c_5]
          rw [eg] at hQ
          exact ih (j + 1) (a1 + 0) (k_st sM 17 (upd (sM 17) ((364 * i1) + (nI j)).toNatClampNeg (vp_nar .boolean 0))) _ _ _ (by omega) hP hD hS (lv_sub hl [2, 3, 4, 1, 0] rfl) hQ
        ·
          refine lv_iconst (v := 1) hx hb dX5_sick_138 (by decide) ?_
          refine lv_goto (tgt := 143) hx hb dX5_sick_139 (by decide) ?_
          refine lv_iadd hx hb dX5_sick_143 ?_
          refine lv_istore_n (lv' := [(3, .int (a1 + 1)), (0, .ref (am 0)), (1, .int i1), (2, .int i2), (4, .int (nI j))]) hx hb dX5_sick_144 rfl hl (by decide) rfl (fun ls hl => ?_)
          refine lv_iinc (v := nI (j + 1)) (lv' := [(4, .int (nI (j + 1))), (3, .int (a1 + 1)), (0, .ref (am 0)), (1, .int i1), (2, .int i2)]) hx hb dX5_sick_145 hl (k := 4) rfl (nI_1 j) (by decide) rfl (fun ls hl => ?_)
          refine lv_goto (tgt := 59) hx hb dX5_sick_148 (by decide) ?_
          have eg : g_X5_sick_lp i1 i2 (r + 1) j a1 sM = g_X5_sick_lp i1 i2 r (j + 1) (a1 + 1) (k_st sM 17 (upd (sM 17) ((364 * i1) + (nI j)).toNatClampNeg (vp_nar .boolean 0))) := by
            rw [g_X5_sick_lp, if_pos c_2, if_pos c_4, if_neg c_5]
          rw [eg] at hQ
          exact ih (j + 1) (a1 + 1) (k_st sM 17 (upd (sM 17) ((364 * i1) + (nI j)).toNatClampNeg (vp_nar .boolean 0))) _ _ _ (by omega) hP hD hS (lv_sub hl [2, 3, 4, 1, 0] rfl) hQ
      ·
        refine lv_iload hx hb dX5_sick_104 (lv_at hl 4 rfl) ?_
        refine lv_aload_n hx hb dX5_sick_106 rfl (lv_at hl 0 rfl) ?_
        refine va_get (D := k.1) (ci := 5) (v := .int (sM 0 6)) (C := RX5) (T := TX5) (N := 28) hx hb hts in_X5_sick_X5 hown hK hP 0 rfl rfl 19 (by decide) (k_w hts 3 rfl) (fun _ h9 => h9) rfl dX5_sick_107 ?_
        refine lv_iload_n hx hb dX5_sick_110 rfl (lv_at hl 2 rfl) ?_
        refine lv_iadd hx hb dX5_sick_111 ?_
        refine lv_icmp_ge (tgt := 119) hx hb dX5_sick_112 (by decide) (fun c_6 => ?_) (fun c_6 => ?_)
        ·
          refine lv_iconst (v := 0) hx hb dX5_sick_119 (by decide) ?_
          refine va_zast (f := sM 17) hx hb hK hP hD hS 17 1 rfl rfl (k_sk h1 (by omega)) dX5_sick_120 (fun H locs hP hD hS => ?_)
          have hP := k_cP (w_M_17 k am sM (upd (sM 17) ((364 * i1) + (nI j)).toNatClampNeg (vp_nar .boolean 0))) hP
          have hD := k_cD (w_M_17 k am sM (upd (sM 17) ((364 * i1) + (nI j)).toNatClampNeg (vp_nar .boolean 0))) hD
          refine lv_iload_n hx hb dX5_sick_121 rfl (lv_at hl 3 rfl) ?_
          refine lv_aload_n hx hb dX5_sick_122 rfl (lv_at hl 0 rfl) ?_
          refine va_get (D := k.1) (ci := 5) (v := .ref (am 17)) (C := RX5) (T := TX5) (N := 28) hx hb hts in_X5_sick_X5 hown hK hP 0 rfl rfl 23 (by decide) (k_w hts 4 rfl) (fun _ h9 => h9) rfl dX5_sick_123 ?_
          refine lv_sipush (v := 364) hx hb dX5_sick_126 (by decide) ?_
          refine lv_iload_n hx hb dX5_sick_129 rfl (lv_at hl 1 rfl) ?_
          refine lv_imul hx hb dX5_sick_130 ?_
          refine lv_iload hx hb dX5_sick_131 (lv_at hl 4 rfl) ?_
          refine lv_iadd hx hb dX5_sick_133 ?_
          refine va_zald (f := upd (sM 17) ((364 * i1) + (nI j)).toNatClampNeg (vp_nar .boolean 0)) hx hb hK hP 17 1 rfl rfl (k_sk h1 (by omega)) dX5_sick_134 ?_
          refine lv_if_eq (tgt := 142) hx hb dX5_sick_135 (by decide) (fun c_7 => ?_) (fun c_7 => ?_)
          ·
            refine lv_iconst (v := 0) hx hb dX5_sick_142 (by decide) ?_
            refine lv_iadd hx hb dX5_sick_143 ?_
            refine lv_istore_n (lv' := [(3, .int (a1 + 0)), (0, .ref (am 0)), (1, .int i1), (2, .int i2), (4, .int (nI j))]) hx hb dX5_sick_144 rfl hl (by decide) rfl (fun ls hl => ?_)
            refine lv_iinc (v := nI (j + 1)) (lv' := [(4, .int (nI (j + 1))), (3, .int (a1 + 0)), (0, .ref (am 0)), (1, .int i1), (2, .int i2)]) hx hb dX5_sick_145 hl (k := 4) rfl (nI_1 j) (by decide) rfl (fun ls hl => ?_)
            refine lv_goto (tgt := 59) hx hb dX5_sick_148 (by decide) ?_
            have eg : g_X5_sick_lp i1 i2 (r + 1) j a1 sM = g_X5_sick_lp i1 i2 r (j + 1) (a1 + 0) (k_st sM 17 (upd (sM 17) ((364 * i1) + (nI j)).toNatClampNeg (vp_nar .boolean 0))) := by
              rw [g_X5_sick_lp, if_pos c_2, if_neg c_4, if_pos c_6, if_pos c_7]
            rw [eg] at hQ
            exact ih (j + 1) (a1 + 0) (k_st sM 17 (upd (sM 17) ((364 * i1) + (nI j)).toNatClampNeg (vp_nar .boolean 0))) _ _ _ (by omega) hP hD hS (lv_sub hl [2, 3, 4, 1, 0] rfl) hQ
          ·
            refine lv_iconst (v := 1) hx hb dX5_sick_138 (by decide) ?_
            refine lv_goto (tgt := 143) hx hb dX5_sick_139 (by decide) ?_
            refine lv_iadd hx hb dX5_sick_143 ?_
            refine lv_istore_n (lv' := [(3, .int (a1 + 1)), (0, .ref (am 0)), (1, .int i1), (2, .int i2), (4, .int (nI j))]) hx hb dX5_sick_144 rfl hl (by decide) rfl (fun ls hl => ?_)
            refine lv_iinc (v := nI (j + 1)) (lv' := [(4, .int (nI (j + 1))), (3, .int (a1 + 1)), (0, .ref (am 0)), (1, .int i1), (2, .int i2)]) hx hb dX5_sick_145 hl (k := 4) rfl (nI_1 j) (by decide) rfl (fun ls hl => ?_)
            refine lv_goto (tgt := 59) hx hb dX5_sick_148 (by decide) ?_
            have eg : g_X5_sick_lp i1 i2 (r + 1) j a1 sM = g_X5_sick_lp i1 i2 r (j + 1) (a1 + 1) (k_st sM 17 (upd (sM 17) ((364 * i1) + (nI j)).toNatClampNeg (vp_nar .boolean 0))) := by
              rw [g_X5_sick_lp, if_pos c_2, if_neg c_4, if_pos c_6, if_neg c_7]
            rw [eg] at hQ
            exact ih (j + 1) (a1 + 1) (k_st sM 17 (upd (sM 17) ((364 * i1) + (nI j)).toNatClampNeg (vp_nar .boolean 0))) _ _ _ (by omega) hP hD hS (lv_sub hl [2, 3, 4, 1, 0] rfl) hQ
        ·
          refine lv_iconst (v := 1) hx hb dX5_sick_115 (by decide) ?_
          refine lv_goto (tgt := 120) hx hb dX5_sick_116 (by decide) ?_
          refine va_zast (f := sM 17) hx hb hK hP hD hS 17 1 rfl rfl (k_sk h1 (by omega)) dX5_sick_120 (fun H locs hP hD hS => ?_)
          have hP := k_cP (w_M_17 k am sM (upd (sM 17) ((364 * i1) + (nI j)).toNatClampNeg (vp_nar .boolean 1))) hP
          have hD := k_cD (w_M_17 k am sM (upd (sM 17) ((364 * i1) + (nI j)).toNatClampNeg (vp_nar .boolean 1))) hD
          refine lv_iload_n hx hb dX5_sick_121 rfl (lv_at hl 3 rfl) ?_
          refine lv_aload_n hx hb dX5_sick_122 rfl (lv_at hl 0 rfl) ?_
          refine va_get (D := k.1) (ci := 5) (v := .ref (am 17)) (C := RX5) (T := TX5) (N := 28) hx hb hts in_X5_sick_X5 hown hK hP 0 rfl rfl 23 (by decide) (k_w hts 4 rfl) (fun _ h9 => h9) rfl dX5_sick_123 ?_
          refine lv_sipush (v := 364) hx hb dX5_sick_126 (by decide) ?_
          refine lv_iload_n hx hb dX5_sick_129 rfl (lv_at hl 1 rfl) ?_
          refine lv_imul hx hb dX5_sick_130 ?_
          refine lv_iload hx hb dX5_sick_131 (lv_at hl 4 rfl) ?_
          refine lv_iadd hx hb dX5_sick_133 ?_
          refine va_zald (f := upd (sM 17) ((364 * i1) + (nI j)).toNatClampNeg (vp_nar .boolean 1)) hx hb hK hP 17 1 rfl rfl (k_sk h1 (by omega)) dX5_sick_134 ?_
          refine lv_if_eq (tgt := 142) hx hb dX5_sick_135 (by decide) (fun c_8 => ?_) (fun c_8 => ?_)
          ·
            refine lv_iconst (v := 0) hx hb dX5_sick_142 (by decide) ?_
            refine lv_iadd hx hb dX5_sick_143 ?_
            refine lv_istore_n (lv' := [(3, .int (a1 + 0)), (0, .ref (am 0)), (1, .int i1), (2, .int i2), (4, .int (nI j))]) hx hb dX5_sick_144 rfl hl (by decide) rfl (fun ls hl => ?_)
            refine lv_iinc (v := nI (j + 1)) (lv' := [(4, .int (nI (j + 1))), (3, .int (a1 + 0)), (0, .ref (am 0)), (1, .int i1), (2, .int i2)]) hx hb dX5_sick_145 hl (k := 4) rfl (nI_1 j) (by decide) rfl (fun ls hl => ?_)
            refine lv_goto (tgt := 59) hx hb dX5_sick_148 (by decide) ?_
            have eg : g_X5_sick_lp i1 i2 (r + 1) j a1 sM = g_X5_sick_lp i1 i2 r (j + 1) (a1 + 0) (k_st sM 17 (upd (sM 17) ((364 * i1) + (nI j)).toNatClampNeg (vp_nar .boolean 1))) := by
              rw [g_X5_sick_lp, if_pos c_2, if_neg c_4, if_neg c_6, if_pos c_8]
            rw [eg] at hQ
            exact ih (j + 1) (a1 + 0) (k_st sM 17 (upd (sM 17) ((364 * i1) + (nI j)).toNatClampNeg (vp_nar .boolean 1))) _ _ _ (by omega) hP hD hS (lv_sub hl [2, 3, 4, 1, 0] rfl) hQ
          ·
            refine lv_iconst (v := 1) hx hb dX5_sick_138 (by decide) ?_
            refine lv_goto (tgt := 143) hx hb dX5_sick_139 (by decide) ?_
            refine lv_iadd hx hb dX5_sick_143 ?_
            refine lv_istore_n (lv' := [(3, .int (a1 + 1)), (0, .ref (am 0)), (1, .int i1), (2, .int i2), (4, .int (nI j))]) hx hb dX5_sick_144 rfl hl (by decide) rfl (fun ls hl => ?_)
            refine lv_iinc (v := nI (j + 1)) (lv' := [(4, .int (nI (j + 1))), (3, .int (a1 + 1)), (0, .ref (am 0)), (1, .int i1), (2, .int i2)]) hx hb dX5_sick_145 hl (k := 4) rfl (nI_1 j) (by decide) rfl (fun ls hl => ?_)
            refine lv_goto (tgt := 59) hx hb dX5_sick_148 (by decide) ?_
            have eg : g_X5_sick_lp i1 i2 (r + 1) j a1 sM = g_X5_sick_lp i1 i2 r (j + 1) (a1 + 1) (k_st sM 17 (upd (sM 17) ((364 * i1) + (nI j)).toNatClampNeg (vp_nar .boolean 1))) := by
              rw [g_X5_sick_lp, if_pos c_2, if_neg c_4, if_neg c_6, if_neg c_8]
            rw [eg] at hQ
            exact ih (j + 1) (a1 + 1) (k_st sM 17 (upd (sM 17) ((364 * i1) + (nI j)).toNatClampNeg (vp_nar .boolean 1))) _ _ _ (by omega) hP hD hS (lv_sub hl [2, 3, 4, 1, 0] rfl) hQ
def f_X5_sick (sM : Nat → Nat → Int32) (i1 : Int32) (i2 : Int32) : Int32 × (Nat → Nat → Int32) :=
  if (f_X5_noServant sM i1) = 0 then (if (f_X5_in i2.toInt64 1 363) = 0 then ((-2), sM)
    else if (sM 0 6) = (-9) then ((-3), sM)
    else if (f_X5_serves sM i1 (sM 0 6)) = 0 then ((-3), sM)
    else ((((g_X5_sick_lp i1 i2 364 0 0 sM)).1), (((g_X5_sick_lp i1 i2 364 0 0 sM)).2)))
  else ((-1), sM)
set_option maxHeartbeats 4000000 in
set_option maxRecDepth 100000 in
theorem c_X5_sick (l : Launch) (k : K_X) (am : Nat → Nat) (sM : Nat → Nat → Int32) (i1 : Int32) (i2 : Int32) (hT : sM 0 0 = 0) (hNs : k_n (sM 0 1) 10) : k_C l yX5_sick wsX5_sick (k_rm 2 46) k [.ref (am 0), .int i1, .int i2] (w_M k am sM) (k_qI k ((f_X5_sick sM i1 i2).1) (w_M k am ((f_X5_sick sM i1 i2).2))) := by
  refine k_mk (cc := cX5_sick) (maxL := 5) (ret := (some .int)) (by decide) rfl (Nat.le_of_ble_eq_true rfl) ?_
  intro p e s m below meth c A ls C0 hP hD hS hl
  obtain ⟨hx, hb, hr, hts, hown, hlocks, hml, hA, hK⟩ := id C0
  have hown : s.vm.findClass RX5 = some m.cls := hown
  have hl : lv_has ls 5 [(0, .ref (am 0)), (1, .int i1), (2, .int i2)] := hl
  refine lv_aload_n hx hb dX5_sick_0 rfl (lv_at hl 0 rfl) ?_
  refine lv_iconst (v := 0) hx hb dX5_sick_1 (by decide) ?_
  refine va_put (D := k.1) (ci := 5) (v := .int 0) (ty := .int) (C := RX5) (T := TX5) (N := 28) hx hb hts in_X5_sick_X5 tyX5 tyX5_ok nmX5 hown hK hP hD hS 0 rfl rfl 0 (by decide) (k_w hts 1 rfl) (fun _ h9 => h9) rfl (by decide +kernel) rfl rfl (Nat.le_of_ble_eq_true rfl) dX5_sick_2 (fun H locs hP hD hS => ?_)
  have hP := k_cP (w_M_s0 k am sM 0) hP
  have hD := k_cD (w_M_s0 k am sM 0) hD
  rw [k_thr hT] at hP hD
  refine lv_aload_n hx hb dX5_sick_5 rfl (lv_at hl 0 rfl) ?_
  refine lv_iload_n hx hb dX5_sick_6 rfl (lv_at hl 1 rfl) ?_
  refine k_Vi (wr := ([] : va_W)) (ws' := w_M k am sM) (Rv := (f_X5_noServant sM i1)) (rest := []) ⟨hx, hb, hml, hown, hts⟩ hK hA hP hD hS (c_X5_noServant l k am sM i1) (cwV 1 hts gX5_sick_X5_noServant rfl rfl rfl (by decide +kernel) ⟨Nat.le_of_ble_eq_true rfl, Nat.le_of_ble_eq_true rfl⟩) (va_recv hK hP (ci := 5) (q0 := 0) rfl rfl) rfl hl.1 rfl (Nat.le_of_ble_eq_true rfl) dX5_sick_7 (Nat.zero_le _) (Nat.zero_le _) [0, 1, 2, 3, 4, 5, 6, 7, 8, 9, 10, 11, 12, 13, 14, 15, 16, 17, 18, 19, 20, 21] [] [0, 1, 2, 3, 4, 5, 6, 7, 8, 9, 10, 11, 12, 13, 14, 15, 16, 17, 18, 19, 20, 21] rfl rfl rfl (by decide) rfl rfl rfl (fun H locs hP hD hS => ?_)
  refine lv_if_eq (tgt := 15) hx hb dX5_sick_10 (by decide) (fun c_1 => ?_) (fun c_1 => ?_)
  ·
    refine lv_iload_n hx hb dX5_sick_15 rfl (lv_at hl 2 rfl) ?_
    refine lv_i2l (v := i2.toInt64) hx hb dX5_sick_16 rfl ?_
    refine lv_lconst (v := 1) hx hb dX5_sick_17 (by decide) ?_
    refine lv_ldc2 hx hb hown (k_w hts 2 rfl) dX5_sick_18 ?_
    refine k_Si (wr := w_M k am sM) (ws' := w_M k am sM) (Rv := (f_X5_in i2.toInt64 1 363)) (rest := []) ⟨hx, hb, hml, hown, hts⟩ hK hA hP hD hS (c_X5_in l k i2.toInt64 1 363) (va_cwS 3 hts gX5_sick_X5_in rfl rfl rfl (by decide +kernel) ⟨Nat.le_of_ble_eq_true rfl, Nat.le_of_ble_eq_true rfl⟩) rfl hl.1 rfl (Nat.le_of_ble_eq_true rfl) dX5_sick_21 (Nat.zero_le _) (Nat.zero_le _) [] [0, 1, 2, 3, 4, 5, 6, 7, 8, 9, 10, 11, 12, 13, 14, 15, 16, 17, 18, 19, 20, 21] [0, 1, 2, 3, 4, 5, 6, 7, 8, 9, 10, 11, 12, 13, 14, 15, 16, 17, 18, 19, 20, 21] rfl rfl rfl (by decide) rfl rfl rfl (fun H locs hP hD hS => ?_)
    refine lv_if_ne (tgt := 30) hx hb dX5_sick_24 (by decide) (fun c_2 => ?_) (fun c_2 => ?_)
    ·
      refine lv_aload_n hx hb dX5_sick_30 rfl (lv_at hl 0 rfl) ?_
      refine va_get (D := k.1) (ci := 5) (v := .int (sM 0 6)) (C := RX5) (T := TX5) (N := 28) hx hb hts in_X5_sick_X5 hown hK hP 0 rfl rfl 19 (by decide) (k_w hts 3 rfl) (fun _ h9 => h9) rfl dX5_sick_31 ?_
      refine lv_bipush (v := (-9)) hx hb dX5_sick_34 (by decide) ?_
      refine lv_icmp_eq (tgt := 51) hx hb dX5_sick_36 (by decide) (fun c_3 => ?_) (fun c_3 => ?_)
      ·
        refine lv_bipush (v := (-3)) hx hb dX5_sick_51 (by decide) ?_
        have ef : f_X5_sick sM i1 i2 = ((-3), sM) := by
          rw [f_X5_sick, if_pos c_1, if_neg c_2, if_pos c_3]
        exact k_reti hx hb hr hK (by rw [ef]; exact hP) (by rw [ef]; exact hD) hS hlocks dX5_sick_53 (by rw [ef])
      ·
        refine lv_aload_n hx hb dX5_sick_39 rfl (lv_at hl 0 rfl) ?_
        refine lv_iload_n hx hb dX5_sick_40 rfl (lv_at hl 1 rfl) ?_
        refine lv_aload_n hx hb dX5_sick_41 rfl (lv_at hl 0 rfl) ?_
        refine va_get (D := k.1) (ci := 5) (v := .int (sM 0 6)) (C := RX5) (T := TX5) (N := 28) hx hb hts in_X5_sick_X5 hown hK hP 0 rfl rfl 19 (by decide) (k_w hts 3 rfl) (fun _ h9 => h9) rfl dX5_sick_42 ?_
        refine k_Vi (wr := ([] : va_W)) (ws' := w_M k am sM) (Rv := (f_X5_serves sM i1 (sM 0 6))) (rest := []) ⟨hx, hb, hml, hown, hts⟩ hK hA hP hD hS (c_X5_serves l k am sM i1 (sM 0 6) (by first | assumption | exact k_ns hNs (by assumption) | exact k_nm hNm (by assumption))) (cwV 2 hts gX5_sick_X5_serves rfl rfl rfl (by decide +kernel) ⟨Nat.le_of_ble_eq_true rfl, Nat.le_of_ble_eq_true rfl⟩) (va_recv hK hP (ci := 5) (q0 := 0) rfl rfl) rfl hl.1 rfl (Nat.le_of_ble_eq_true rfl) dX5_sick_45 (Nat.zero_le _) (Nat.zero_le _) [0, 1, 2, 3, 4, 5, 6, 7, 8, 9, 10, 11, 12, 13, 14, 15, 16, 17, 18, 19, 20, 21] [] [0, 1, 2, 3, 4, 5, 6, 7, 8, 9, 10, 11, 12, 13, 14, 15, 16, 17, 18, 19, 20, 21] rfl rfl rfl (by decide) rfl rfl rfl (fun H locs hP hD hS => ?_)
        refine lv_if_ne (tgt := 54) hx hb dX5_sick_48 (by decide) (fun c_4 => ?_) (fun c_4 => ?_)
        ·
          refine lv_iconst (v := 0) hx hb dX5_sick_54 (by decide) ?_
          refine lv_istore_n (lv' := [(3, .int 0), (0, .ref (am 0)), (1, .int i1), (2, .int i2)]) hx hb dX5_sick_55 rfl hl (by decide) rfl (fun ls hl => ?_)
          refine lv_iconst (v := 0) hx hb dX5_sick_56 (by decide) ?_
          refine lv_istore (lv' := [(4, .int 0), (3, .int 0), (0, .ref (am 0)), (1, .int i1), (2, .int i2)]) hx hb dX5_sick_57 hl (by decide) rfl (fun ls hl => ?_)
          have hl : lv_has ls 5 [(0, .ref (am 0)), (1, .int i1), (2, .int i2), (3, .int 0), (4, .int (nI 0))] := lv_sub hl [2, 3, 4, 1, 0] rfl
          refine lp_X5_sick_lp k am i1 i2 C0 (by first | assumption | exact k_ns hNs (by assumption) | exact k_nm hNm (by assumption)) 364 0 0 sM _ _ _ (by omega) hP hD hS hl (fun H locs ls hP hD hS hl => ?_)
          obtain ⟨z_5, ez_5⟩ : ∃ z, z = g_X5_sick_lp i1 i2 364 0 0 sM := ⟨_, rfl⟩
          rw [← ez_5] at hP hD hl
          refine lv_iload_n hx hb dX5_sick_151 rfl (lv_at hl 3 rfl) ?_
          have ef : f_X5_sick sM i1 i2 = (((z_5).1), ((z_5).2)) := by
            rw [f_X5_sick, ← ez_5, if_pos c_1, if_neg c_2, if_neg c_3, if_neg c_4]
          exact k_reti hx hb hr hK (by rw [ef]; exact hP) (by rw [ef]; exact hD) hS hlocks dX5_sick_152 (by rw [ef])
        ·
          refine lv_bipush (v := (-3)) hx hb dX5_sick_51 (by decide) ?_
          have ef : f_X5_sick sM i1 i2 = ((-3), sM) := by
            rw [f_X5_sick, if_pos c_1, if_neg c_2, if_neg c_3, if_pos c_4]
          exact k_reti hx hb hr hK (by rw [ef]; exact hP) (by rw [ef]; exact hD) hS hlocks dX5_sick_53 (by rw [ef])
    ·
      refine lv_bipush (v := (-2)) hx hb dX5_sick_27 (by decide) ?_
      have ef : f_X5_sick sM i1 i2 = ((-2), sM) := by
        rw [f_X5_sick, if_pos c_1, if_pos c_2]
      exact k_reti hx hb hr hK (by rw [ef]; exact hP) (by rw [ef]; exact hD) hS hlocks dX5_sick_29 (by rw [ef])
  ·
    refine lv_iconst (v := (-1)) hx hb dX5_sick_13 (by decide) ?_
    have ef : f_X5_sick sM i1 i2 = ((-1), sM) := by
      rw [f_X5_sick, if_neg c_1]
    exact k_reti hx hb hr hK (by rw [ef]; exact hP) (by rw [ef]; exact hD) hS hlocks dX5_sick_14 (by rw [ef])
theorem in_X5_warn_X5 : ∀ w ∈ wsX50, w ∈ wsX5_warn := fun _ h => List.mem_cons_of_mem _ (List.mem_append_right _ h)
def f_X5_warn (sM : Nat → Nat → Int32) (i1 : Int32) : Int32 × (Nat → Nat → Int32) :=
  if (f_X5_noServant sM i1) = 0 then (if (sM 0 6) = (-9) then ((-3), sM)
    else if (f_X5_serves sM i1 (sM 0 6)) = 0 then ((-3), sM)
    else if ((sM 15) i1.toNatClampNeg) = 0 then (if ((sM 0 6) + 27) ≤ 363 then (((upd (sM 14) i1.toNatClampNeg ((sM 0 6) + 27)) i1.toNatClampNeg), k_st (k_st sM 15 (upd (sM 15) i1.toNatClampNeg (vp_nar .boolean 1))) 14 (upd (sM 14) i1.toNatClampNeg ((sM 0 6) + 27)))
      else (((upd (sM 14) i1.toNatClampNeg 363) i1.toNatClampNeg), k_st (k_st sM 15 (upd (sM 15) i1.toNatClampNeg (vp_nar .boolean 1))) 14 (upd (sM 14) i1.toNatClampNeg 363)))
    else ((-3), sM))
  else ((-1), sM)
set_option maxHeartbeats 4000000 in
set_option maxRecDepth 100000 in
theorem c_X5_warn (l : Launch) (k : K_X) (am : Nat → Nat) (sM : Nat → Nat → Int32) (i1 : Int32) (hT : sM 0 0 = 0) (hNs : k_n (sM 0 1) 10) : k_C l yX5_warn wsX5_warn (k_rm 2 46) k [.ref (am 0), .int i1] (w_M k am sM) (k_qI k ((f_X5_warn sM i1).1) (w_M k am ((f_X5_warn sM i1).2))) := by
  refine k_mk (cc := cX5_warn) (maxL := 2) (ret := (some .int)) (by decide) rfl (Nat.le_of_ble_eq_true rfl) ?_
  intro p e s m below meth c A ls C0 hP hD hS hl
  obtain ⟨hx, hb, hr, hts, hown, hlocks, hml, hA, hK⟩ := id C0
  have hown : s.vm.findClass RX5 = some m.cls := hown
  have hl : lv_has ls 2 [(0, .ref (am 0)), (1, .int i1)] := hl
  refine lv_aload_n hx hb dX5_warn_0 rfl (lv_at hl 0 rfl) ?_
  refine lv_iconst (v := 0) hx hb dX5_warn_1 (by decide) ?_
  refine va_put (D := k.1) (ci := 5) (v := .int 0) (ty := .int) (C := RX5) (T := TX5) (N := 28) hx hb hts in_X5_warn_X5 tyX5 tyX5_ok nmX5 hown hK hP hD hS 0 rfl rfl 0 (by decide) (k_w hts 1 rfl) (fun _ h9 => h9) rfl (by decide +kernel) rfl rfl (Nat.le_of_ble_eq_true rfl) dX5_warn_2 (fun H locs hP hD hS => ?_)
  have hP := k_cP (w_M_s0 k am sM 0) hP
  have hD := k_cD (w_M_s0 k am sM 0) hD
  rw [k_thr hT] at hP hD
  refine lv_aload_n hx hb dX5_warn_5 rfl (lv_at hl 0 rfl) ?_
  refine lv_iload_n hx hb dX5_warn_6 rfl (lv_at hl 1 rfl) ?_
  refine k_Vi (wr := ([] : va_W)) (ws' := w_M k am sM) (Rv := (f_X5_noServant sM i1)) (rest := []) ⟨hx, hb, hml, hown, hts⟩ hK hA hP hD hS (c_X5_noServant l k am sM i1) (cwV 1 hts gX5_warn_X5_noServant rfl rfl rfl (by decide +kernel) ⟨Nat.le_of_ble_eq_true rfl, Nat.le_of_ble_eq_true rfl⟩) (va_recv hK hP (ci := 5) (q0 := 0) rfl rfl) rfl hl.1 rfl (Nat.le_of_ble_eq_true rfl) dX5_warn_7 (Nat.zero_le _) (Nat.zero_le _) [0, 1, 2, 3, 4, 5, 6, 7, 8, 9, 10, 11, 12, 13, 14, 15, 16, 17, 18, 19, 20, 21] [] [0, 1, 2, 3, 4, 5, 6, 7, 8, 9, 10, 11, 12, 13, 14, 15, 16, 17, 18, 19, 20, 21] rfl rfl rfl (by decide) rfl rfl rfl (fun H locs hP hD hS => ?_)
  refine lv_if_eq (tgt := 15) hx hb dX5_warn_10 (by decide) (fun c_1 => ?_) (fun c_1 => ?_)
  ·
    refine lv_aload_n hx hb dX5_warn_15 rfl (lv_at hl 0 rfl) ?_
    refine va_get (D := k.1) (ci := 5) (v := .int (sM 0 6)) (C := RX5) (T := TX5) (N := 28) hx hb hts in_X5_warn_X5 hown hK hP 0 rfl rfl 19 (by decide) (k_w hts 2 rfl) (fun _ h9 => h9) rfl dX5_warn_16 ?_
    refine lv_bipush (v := (-9)) hx hb dX5_warn_19 (by decide) ?_
    refine lv_icmp_eq (tgt := 45) hx hb dX5_warn_21 (by decide) (fun c_2 => ?_) (fun c_2 => ?_)
    ·
      refine lv_bipush (v := (-3)) hx hb dX5_warn_45 (by decide) ?_
      have ef : f_X5_warn sM i1 = ((-3), sM) := by
        rw [f_X5_warn, if_pos c_1, if_pos c_2]
      exact k_reti hx hb hr hK (by rw [ef]; exact hP) (by rw [ef]; exact hD) hS hlocks dX5_warn_47 (by rw [ef])
    ·
      refine lv_aload_n hx hb dX5_warn_24 rfl (lv_at hl 0 rfl) ?_
      refine lv_iload_n hx hb dX5_warn_25 rfl (lv_at hl 1 rfl) ?_
      refine lv_aload_n hx hb dX5_warn_26 rfl (lv_at hl 0 rfl) ?_
      refine va_get (D := k.1) (ci := 5) (v := .int (sM 0 6)) (C := RX5) (T := TX5) (N := 28) hx hb hts in_X5_warn_X5 hown hK hP 0 rfl rfl 19 (by decide) (k_w hts 2 rfl) (fun _ h9 => h9) rfl dX5_warn_27 ?_
      refine k_Vi (wr := ([] : va_W)) (ws' := w_M k am sM) (Rv := (f_X5_serves sM i1 (sM 0 6))) (rest := []) ⟨hx, hb, hml, hown, hts⟩ hK hA hP hD hS (c_X5_serves l k am sM i1 (sM 0 6) (by first | assumption | exact k_ns hNs (by assumption) | exact k_nm hNm (by assumption))) (cwV 2 hts gX5_warn_X5_serves rfl rfl rfl (by decide +kernel) ⟨Nat.le_of_ble_eq_true rfl, Nat.le_of_ble_eq_true rfl⟩) (va_recv hK hP (ci := 5) (q0 := 0) rfl rfl) rfl hl.1 rfl (Nat.le_of_ble_eq_true rfl) dX5_warn_30 (Nat.zero_le _) (Nat.zero_le _) [0, 1, 2, 3, 4, 5, 6, 7, 8, 9, 10, 11, 12, 13, 14, 15, 16, 17, 18, 19, 20, 21] [] [0, 1, 2, 3, 4, 5, 6, 7, 8, 9, 10, 11, 12, 13, 14, 15, 16, 17, 18, 19, 20, 21] rfl rfl rfl (by decide) rfl rfl rfl (fun H locs hP hD hS => ?_)
      refine lv_if_eq (tgt := 45) hx hb dX5_warn_33 (by decide) (fun c_3 => ?_) (fun c_3 => ?_)
      ·
        refine lv_bipush (v := (-3)) hx hb dX5_warn_45 (by decide) ?_
        have ef : f_X5_warn sM i1 = ((-3), sM) := by
          rw [f_X5_warn, if_pos c_1, if_neg c_2, if_pos c_3]
        exact k_reti hx hb hr hK (by rw [ef]; exact hP) (by rw [ef]; exact hD) hS hlocks dX5_warn_47 (by rw [ef])
      ·
        refine lv_aload_n hx hb dX5_warn_36 rfl (lv_at hl 0 rfl) ?_
        refine va_get (D := k.1) (ci := 5) (v := .ref (am 15)) (C := RX5) (T := TX5) (N := 28) hx hb hts in_X5_warn_X5 hown hK hP 0 rfl rfl 21 (by decide) (k_w hts 3 rfl) (fun _ h9 => h9) rfl dX5_warn_37 ?_
        refine lv_iload_n hx hb dX5_warn_40 rfl (lv_at hl 1 rfl) ?_
        refine va_zald (f := sM 15) hx hb hK hP 15 1 rfl rfl (by first | assumption | exact k_ns hNs (by assumption) | exact k_nm hNm (by assumption)) dX5_warn_41 ?_
        refine lv_if_eq (tgt := 48) hx hb dX5_warn_42 (by decide) (fun c_4 => ?_) (fun c_4 => ?_)
        ·
          refine lv_aload_n hx hb dX5_warn_48 rfl (lv_at hl 0 rfl) ?_
          refine va_get (D := k.1) (ci := 5) (v := .ref (am 15)) (C := RX5) (T := TX5) (N := 28) hx hb hts in_X5_warn_X5 hown hK hP 0 rfl rfl 21 (by decide) (k_w hts 3 rfl) (fun _ h9 => h9) rfl dX5_warn_49 ?_
          refine lv_iload_n hx hb dX5_warn_52 rfl (lv_at hl 1 rfl) ?_
          refine lv_iconst (v := 1) hx hb dX5_warn_53 (by decide) ?_
          refine va_zast (f := sM 15) hx hb hK hP hD hS 15 1 rfl rfl (by first | assumption | exact k_ns hNs (by assumption) | exact k_nm hNm (by assumption)) dX5_warn_54 (fun H locs hP hD hS => ?_)
          have hP := k_cP (w_M_15 k am sM (upd (sM 15) i1.toNatClampNeg (vp_nar .boolean 1))) hP
          have hD := k_cD (w_M_15 k am sM (upd (sM 15) i1.toNatClampNeg (vp_nar .boolean 1))) hD
          refine lv_aload_n hx hb dX5_warn_55 rfl (lv_at hl 0 rfl) ?_
          refine va_get (D := k.1) (ci := 5) (v := .ref (am 14)) (C := RX5) (T := TX5) (N := 28) hx hb hts in_X5_warn_X5 hown hK hP 0 rfl rfl 20 (by decide) (k_w hts 4 rfl) (fun _ h9 => h9) rfl dX5_warn_56 ?_
          refine lv_iload_n hx hb dX5_warn_59 rfl (lv_at hl 1 rfl) ?_
          refine lv_aload_n hx hb dX5_warn_60 rfl (lv_at hl 0 rfl) ?_
          refine va_get (D := k.1) (ci := 5) (v := .int (sM 0 6)) (C := RX5) (T := TX5) (N := 28) hx hb hts in_X5_warn_X5 hown hK hP 0 rfl rfl 19 (by decide) (k_w hts 2 rfl) (fun _ h9 => h9) rfl dX5_warn_61 ?_
          refine lv_bipush (v := 27) hx hb dX5_warn_64 (by decide) ?_
          refine lv_iadd hx hb dX5_warn_66 ?_
          refine lv_sipush (v := 363) hx hb dX5_warn_67 (by decide) ?_
          refine lv_icmp_le (tgt := 79) hx hb dX5_warn_70 (by decide) (fun c_5 => ?_) (fun c_5 => ?_)
          ·
            refine lv_aload_n hx hb dX5_warn_79 rfl (lv_at hl 0 rfl) ?_
            refine va_get (D := k.1) (ci := 5) (v := .int (sM 0 6)) (C := RX5) (T := TX5) (N := 28) hx hb hts in_X5_warn_X5 hown hK hP 0 rfl rfl 19 (by decide) (k_w hts 2 rfl) (fun _ h9 => h9) rfl dX5_warn_80 ?_
            refine lv_bipush (v := 27) hx hb dX5_warn_83 (by decide) ?_
            refine lv_iadd hx hb dX5_warn_85 ?_
            refine va_iast (f := sM 14) hx hb hK hP hD hS 14 0 rfl rfl (by first | assumption | exact k_ns hNs (by assumption) | exact k_nm hNm (by assumption)) dX5_warn_86 (fun H locs hP hD hS => ?_)
            have hP := k_cP (w_M_14 k am (k_st sM 15 (upd (sM 15) i1.toNatClampNeg (vp_nar .boolean 1))) (upd (sM 14) i1.toNatClampNeg ((sM 0 6) + 27))) hP
            have hD := k_cD (w_M_14 k am (k_st sM 15 (upd (sM 15) i1.toNatClampNeg (vp_nar .boolean 1))) (upd (sM 14) i1.toNatClampNeg ((sM 0 6) + 27))) hD
            refine lv_aload_n hx hb dX5_warn_87 rfl (lv_at hl 0 rfl) ?_
            refine va_get (D := k.1) (ci := 5) (v := .ref (am 14)) (C := RX5) (T := TX5) (N := 28) hx hb hts in_X5_warn_X5 hown hK hP 0 rfl rfl 20 (by decide) (k_w hts 4 rfl) (fun _ h9 => h9) rfl dX5_warn_88 ?_
            refine lv_iload_n hx hb dX5_warn_91 rfl (lv_at hl 1 rfl) ?_
            refine va_iald (f := upd (sM 14) i1.toNatClampNeg ((sM 0 6) + 27)) hx hb hK hP 14 0 rfl rfl (by first | assumption | exact k_ns hNs (by assumption) | exact k_nm hNm (by assumption)) dX5_warn_92 ?_
            have ef : f_X5_warn sM i1 = (((upd (sM 14) i1.toNatClampNeg ((sM 0 6) + 27)) i1.toNatClampNeg), k_st (k_st sM 15 (upd (sM 15) i1.toNatClampNeg (vp_nar .boolean 1))) 14 (upd (sM 14) i1.toNatClampNeg ((sM 0 6) + 27))) := by
              rw [f_X5_warn, if_pos c_1, if_neg c_2, if_neg c_3, if_pos c_4, if_pos c_5]
            exact k_reti hx hb hr hK (by rw [ef]; exact hP) (by rw [ef]; exact hD) hS hlocks dX5_warn_93 (by rw [ef])
          ·
            refine lv_sipush (v := 363) hx hb dX5_warn_73 (by decide) ?_
            refine lv_goto (tgt := 86) hx hb dX5_warn_76 (by decide) ?_
            refine va_iast (f := sM 14) hx hb hK hP hD hS 14 0 rfl rfl (by first | assumption | exact k_ns hNs (by assumption) | exact k_nm hNm (by assumption)) dX5_warn_86 (fun H locs hP hD hS => ?_)
            have hP := k_cP (w_M_14 k am (k_st sM 15 (upd (sM 15) i1.toNatClampNeg (vp_nar .boolean 1))) (upd (sM 14) i1.toNatClampNeg 363)) hP
            have hD := k_cD (w_M_14 k am (k_st sM 15 (upd (sM 15) i1.toNatClampNeg (vp_nar .boolean 1))) (upd (sM 14) i1.toNatClampNeg 363)) hD
            refine lv_aload_n hx hb dX5_warn_87 rfl (lv_at hl 0 rfl) ?_
            refine va_get (D := k.1) (ci := 5) (v := .ref (am 14)) (C := RX5) (T := TX5) (N := 28) hx hb hts in_X5_warn_X5 hown hK hP 0 rfl rfl 20 (by decide) (k_w hts 4 rfl) (fun _ h9 => h9) rfl dX5_warn_88 ?_
            refine lv_iload_n hx hb dX5_warn_91 rfl (lv_at hl 1 rfl) ?_
            refine va_iald (f := upd (sM 14) i1.toNatClampNeg 363) hx hb hK hP 14 0 rfl rfl (by first | assumption | exact k_ns hNs (by assumption) | exact k_nm hNm (by assumption)) dX5_warn_92 ?_
            have ef : f_X5_warn sM i1 = (((upd (sM 14) i1.toNatClampNeg 363) i1.toNatClampNeg), k_st (k_st sM 15 (upd (sM 15) i1.toNatClampNeg (vp_nar .boolean 1))) 14 (upd (sM 14) i1.toNatClampNeg 363)) := by
              rw [f_X5_warn, if_pos c_1, if_neg c_2, if_neg c_3, if_pos c_4, if_neg c_5]
            exact k_reti hx hb hr hK (by rw [ef]; exact hP) (by rw [ef]; exact hD) hS hlocks dX5_warn_93 (by rw [ef])
        ·
          refine lv_bipush (v := (-3)) hx hb dX5_warn_45 (by decide) ?_
          have ef : f_X5_warn sM i1 = ((-3), sM) := by
            rw [f_X5_warn, if_pos c_1, if_neg c_2, if_neg c_3, if_neg c_4]
          exact k_reti hx hb hr hK (by rw [ef]; exact hP) (by rw [ef]; exact hD) hS hlocks dX5_warn_47 (by rw [ef])
  ·
    refine lv_iconst (v := (-1)) hx hb dX5_warn_13 (by decide) ?_
    have ef : f_X5_warn sM i1 = ((-1), sM) := by
      rw [f_X5_warn, if_neg c_1]
    exact k_reti hx hb hr hK (by rw [ef]; exact hP) (by rw [ef]; exact hD) hS hlocks dX5_warn_14 (by rw [ef])
theorem in_X5_run_X5 : ∀ w ∈ wsX50, w ∈ wsX5_run := fun _ h => List.mem_cons_of_mem _ (List.mem_append_right _ h)
def f_X5_run (sM : Nat → Nat → Int32) (i1 : Int32) : Int32 × (Nat → Nat → Int32) :=
  if (f_X5_noServant sM i1) = 0 then (if (sM 0 6) = (-9) then ((-3), sM)
    else if (f_X5_serves sM i1 (sM 0 6)) = 0 then ((-3), sM)
    else if (sM 0 5) = 0 then (((upd (sM 14) i1.toNatClampNeg ((sM 0 6) - 1)) i1.toNatClampNeg), k_st (k_st sM 14 (upd (sM 14) i1.toNatClampNeg ((sM 0 6) - 1))) 16 (upd (sM 16) i1.toNatClampNeg (vp_nar .boolean 1)))
    else (((upd (sM 14) i1.toNatClampNeg ((sM 0 6) - 1)) i1.toNatClampNeg), k_st (k_st sM 14 (upd (sM 14) i1.toNatClampNeg ((sM 0 6) - 1))) 16 (upd (sM 16) i1.toNatClampNeg (vp_nar .boolean 0))))
  else ((-1), sM)
set_option maxHeartbeats 4000000 in
set_option maxRecDepth 100000 in
theorem c_X5_run (l : Launch) (k : K_X) (am : Nat → Nat) (sM : Nat → Nat → Int32) (i1 : Int32) (hT : sM 0 0 = 0) (hNs : k_n (sM 0 1) 10) : k_C l yX5_run wsX5_run (k_rm 2 46) k [.ref (am 0), .int i1] (w_M k am sM) (k_qI k ((f_X5_run sM i1).1) (w_M k am ((f_X5_run sM i1).2))) := by
  refine k_mk (cc := cX5_run) (maxL := 2) (ret := (some .int)) (by decide) rfl (Nat.le_of_ble_eq_true rfl) ?_
  intro p e s m below meth c A ls C0 hP hD hS hl
  obtain ⟨hx, hb, hr, hts, hown, hlocks, hml, hA, hK⟩ := id C0
  have hown : s.vm.findClass RX5 = some m.cls := hown
  have hl : lv_has ls 2 [(0, .ref (am 0)), (1, .int i1)] := hl
  refine lv_aload_n hx hb dX5_run_0 rfl (lv_at hl 0 rfl) ?_
  refine lv_iconst (v := 0) hx hb dX5_run_1 (by decide) ?_
  refine va_put (D := k.1) (ci := 5) (v := .int 0) (ty := .int) (C := RX5) (T := TX5) (N := 28) hx hb hts in_X5_run_X5 tyX5 tyX5_ok nmX5 hown hK hP hD hS 0 rfl rfl 0 (by decide) (k_w hts 1 rfl) (fun _ h9 => h9) rfl (by decide +kernel) rfl rfl (Nat.le_of_ble_eq_true rfl) dX5_run_2 (fun H locs hP hD hS => ?_)
  have hP := k_cP (w_M_s0 k am sM 0) hP
  have hD := k_cD (w_M_s0 k am sM 0) hD
  rw [k_thr hT] at hP hD
  refine lv_aload_n hx hb dX5_run_5 rfl (lv_at hl 0 rfl) ?_
  refine lv_iload_n hx hb dX5_run_6 rfl (lv_at hl 1 rfl) ?_
  refine k_Vi (wr := ([] : va_W)) (ws' := w_M k am sM) (Rv := (f_X5_noServant sM i1)) (rest := []) ⟨hx, hb, hml, hown, hts⟩ hK hA hP hD hS (c_X5_noServant l k am sM i1) (cwV 1 hts gX5_run_X5_noServant rfl rfl rfl (by decide +kernel) ⟨Nat.le_of_ble_eq_true rfl, Nat.le_of_ble_eq_true rfl⟩) (va_recv hK hP (ci := 5) (q0 := 0) rfl rfl) rfl hl.1 rfl (Nat.le_of_ble_eq_true rfl) dX5_run_7 (Nat.zero_le _) (Nat.zero_le _) [0, 1, 2, 3, 4, 5, 6, 7, 8, 9, 10, 11, 12, 13, 14, 15, 16, 17, 18, 19, 20, 21] [] [0, 1, 2, 3, 4, 5, 6, 7, 8, 9, 10, 11, 12, 13, 14, 15, 16, 17, 18, 19, 20, 21] rfl rfl rfl (by decide) rfl rfl rfl (fun H locs hP hD hS => ?_)
  refine lv_if_eq (tgt := 15) hx hb dX5_run_10 (by decide) (fun c_1 => ?_) (fun c_1 => ?_)
  ·
    refine lv_aload_n hx hb dX5_run_15 rfl (lv_at hl 0 rfl) ?_
    refine va_get (D := k.1) (ci := 5) (v := .int (sM 0 6)) (C := RX5) (T := TX5) (N := 28) hx hb hts in_X5_run_X5 hown hK hP 0 rfl rfl 19 (by decide) (k_w hts 2 rfl) (fun _ h9 => h9) rfl dX5_run_16 ?_
    refine lv_bipush (v := (-9)) hx hb dX5_run_19 (by decide) ?_
    refine lv_icmp_eq (tgt := 36) hx hb dX5_run_21 (by decide) (fun c_2 => ?_) (fun c_2 => ?_)
    ·
      refine lv_bipush (v := (-3)) hx hb dX5_run_36 (by decide) ?_
      have ef : f_X5_run sM i1 = ((-3), sM) := by
        rw [f_X5_run, if_pos c_1, if_pos c_2]
      exact k_reti hx hb hr hK (by rw [ef]; exact hP) (by rw [ef]; exact hD) hS hlocks dX5_run_38 (by rw [ef])
    ·
      refine lv_aload_n hx hb dX5_run_24 rfl (lv_at hl 0 rfl) ?_
      refine lv_iload_n hx hb dX5_run_25 rfl (lv_at hl 1 rfl) ?_
      refine lv_aload_n hx hb dX5_run_26 rfl (lv_at hl 0 rfl) ?_
      refine va_get (D := k.1) (ci := 5) (v := .int (sM 0 6)) (C := RX5) (T := TX5) (N := 28) hx hb hts in_X5_run_X5 hown hK hP 0 rfl rfl 19 (by decide) (k_w hts 2 rfl) (fun _ h9 => h9) rfl dX5_run_27 ?_
      refine k_Vi (wr := ([] : va_W)) (ws' := w_M k am sM) (Rv := (f_X5_serves sM i1 (sM 0 6))) (rest := []) ⟨hx, hb, hml, hown, hts⟩ hK hA hP hD hS (c_X5_serves l k am sM i1 (sM 0 6) (by first | assumption | exact k_ns hNs (by assumption) | exact k_nm hNm (by assumption))) (cwV 2 hts gX5_run_X5_serves rfl rfl rfl (by decide +kernel) ⟨Nat.le_of_ble_eq_true rfl, Nat.le_of_ble_eq_true rfl⟩) (va_recv hK hP (ci := 5) (q0 := 0) rfl rfl) rfl hl.1 rfl (Nat.le_of_ble_eq_true rfl) dX5_run_30 (Nat.zero_le _) (Nat.zero_le _) [0, 1, 2, 3, 4, 5, 6, 7, 8, 9, 10, 11, 12, 13, 14, 15, 16, 17, 18, 19, 20, 21] [] [0, 1, 2, 3, 4, 5, 6, 7, 8, 9, 10, 11, 12, 13, 14, 15, 16, 17, 18, 19, 20, 21] rfl rfl rfl (by decide) rfl rfl rfl (fun H locs hP hD hS => ?_)
      refine lv_if_ne (tgt := 39) hx hb dX5_run_33 (by decide) (fun c_3 => ?_) (fun c_3 => ?_)
      ·
        refine lv_aload_n hx hb dX5_run_39 rfl (lv_at hl 0 rfl) ?_
        refine va_get (D := k.1) (ci := 5) (v := .ref (am 14)) (C := RX5) (T := TX5) (N := 28) hx hb hts in_X5_run_X5 hown hK hP 0 rfl rfl 20 (by decide) (k_w hts 3 rfl) (fun _ h9 => h9) rfl dX5_run_40 ?_
        refine lv_iload_n hx hb dX5_run_43 rfl (lv_at hl 1 rfl) ?_
        refine lv_aload_n hx hb dX5_run_44 rfl (lv_at hl 0 rfl) ?_
        refine va_get (D := k.1) (ci := 5) (v := .int (sM 0 6)) (C := RX5) (T := TX5) (N := 28) hx hb hts in_X5_run_X5 hown hK hP 0 rfl rfl 19 (by decide) (k_w hts 2 rfl) (fun _ h9 => h9) rfl dX5_run_45 ?_
        refine lv_iconst (v := 1) hx hb dX5_run_48 (by decide) ?_
        refine lv_isub hx hb dX5_run_49 ?_
        refine va_iast (f := sM 14) hx hb hK hP hD hS 14 0 rfl rfl (by first | assumption | exact k_ns hNs (by assumption) | exact k_nm hNm (by assumption)) dX5_run_50 (fun H locs hP hD hS => ?_)
        have hP := k_cP (w_M_14 k am sM (upd (sM 14) i1.toNatClampNeg ((sM 0 6) - 1))) hP
        have hD := k_cD (w_M_14 k am sM (upd (sM 14) i1.toNatClampNeg ((sM 0 6) - 1))) hD
        refine lv_aload_n hx hb dX5_run_51 rfl (lv_at hl 0 rfl) ?_
        refine va_get (D := k.1) (ci := 5) (v := .ref (am 16)) (C := RX5) (T := TX5) (N := 28) hx hb hts in_X5_run_X5 hown hK hP 0 rfl rfl 22 (by decide) (k_w hts 4 rfl) (fun _ h9 => h9) rfl dX5_run_52 ?_
        refine lv_iload_n hx hb dX5_run_55 rfl (lv_at hl 1 rfl) ?_
        refine lv_aload_n hx hb dX5_run_56 rfl (lv_at hl 0 rfl) ?_
        refine va_get (D := k.1) (ci := 5) (v := .int (sM 0 5)) (C := RX5) (T := TX5) (N := 28) hx hb hts in_X5_run_X5 hown hK hP 0 rfl rfl 18 (by decide) (k_w hts 5 rfl) (fun _ h9 => h9) rfl dX5_run_57 ?_
        refine lv_if_ne (tgt := 67) hx hb dX5_run_60 (by decide) (fun c_4 => ?_) (fun c_4 => ?_)
        ·
          refine lv_iconst (v := 0) hx hb dX5_run_67 (by decide) ?_
          refine va_zast (f := sM 16) hx hb hK hP hD hS 16 1 rfl rfl (by first | assumption | exact k_ns hNs (by assumption) | exact k_nm hNm (by assumption)) dX5_run_68 (fun H locs hP hD hS => ?_)
          have hP := k_cP (w_M_16 k am (k_st sM 14 (upd (sM 14) i1.toNatClampNeg ((sM 0 6) - 1))) (upd (sM 16) i1.toNatClampNeg (vp_nar .boolean 0))) hP
          have hD := k_cD (w_M_16 k am (k_st sM 14 (upd (sM 14) i1.toNatClampNeg ((sM 0 6) - 1))) (upd (sM 16) i1.toNatClampNeg (vp_nar .boolean 0))) hD
          refine lv_aload_n hx hb dX5_run_69 rfl (lv_at hl 0 rfl) ?_
          refine va_get (D := k.1) (ci := 5) (v := .ref (am 14)) (C := RX5) (T := TX5) (N := 28) hx hb hts in_X5_run_X5 hown hK hP 0 rfl rfl 20 (by decide) (k_w hts 3 rfl) (fun _ h9 => h9) rfl dX5_run_70 ?_
          refine lv_iload_n hx hb dX5_run_73 rfl (lv_at hl 1 rfl) ?_
          refine va_iald (f := upd (sM 14) i1.toNatClampNeg ((sM 0 6) - 1)) hx hb hK hP 14 0 rfl rfl (by first | assumption | exact k_ns hNs (by assumption) | exact k_nm hNm (by assumption)) dX5_run_74 ?_
          have ef : f_X5_run sM i1 = (((upd (sM 14) i1.toNatClampNeg ((sM 0 6) - 1)) i1.toNatClampNeg), k_st (k_st sM 14 (upd (sM 14) i1.toNatClampNeg ((sM 0 6) - 1))) 16 (upd (sM 16) i1.toNatClampNeg (vp_nar .boolean 0))) := by
            rw [f_X5_run, if_pos c_1, if_neg c_2, if_neg c_3, if_neg c_4]
          exact k_reti hx hb hr hK (by rw [ef]; exact hP) (by rw [ef]; exact hD) hS hlocks dX5_run_75 (by rw [ef])
        ·
          refine lv_iconst (v := 1) hx hb dX5_run_63 (by decide) ?_
          refine lv_goto (tgt := 68) hx hb dX5_run_64 (by decide) ?_
          refine va_zast (f := sM 16) hx hb hK hP hD hS 16 1 rfl rfl (by first | assumption | exact k_ns hNs (by assumption) | exact k_nm hNm (by assumption)) dX5_run_68 (fun H locs hP hD hS => ?_)
          have hP := k_cP (w_M_16 k am (k_st sM 14 (upd (sM 14) i1.toNatClampNeg ((sM 0 6) - 1))) (upd (sM 16) i1.toNatClampNeg (vp_nar .boolean 1))) hP
          have hD := k_cD (w_M_16 k am (k_st sM 14 (upd (sM 14) i1.toNatClampNeg ((sM 0 6) - 1))) (upd (sM 16) i1.toNatClampNeg (vp_nar .boolean 1))) hD
          refine lv_aload_n hx hb dX5_run_69 rfl (lv_at hl 0 rfl) ?_
          refine va_get (D := k.1) (ci := 5) (v := .ref (am 14)) (C := RX5) (T := TX5) (N := 28) hx hb hts in_X5_run_X5 hown hK hP 0 rfl rfl 20 (by decide) (k_w hts 3 rfl) (fun _ h9 => h9) rfl dX5_run_70 ?_
          refine lv_iload_n hx hb dX5_run_73 rfl (lv_at hl 1 rfl) ?_
          refine va_iald (f := upd (sM 14) i1.toNatClampNeg ((sM 0 6) - 1)) hx hb hK hP 14 0 rfl rfl (by first | assumption | exact k_ns hNs (by assumption) | exact k_nm hNm (by assumption)) dX5_run_74 ?_
          have ef : f_X5_run sM i1 = (((upd (sM 14) i1.toNatClampNeg ((sM 0 6) - 1)) i1.toNatClampNeg), k_st (k_st sM 14 (upd (sM 14) i1.toNatClampNeg ((sM 0 6) - 1))) 16 (upd (sM 16) i1.toNatClampNeg (vp_nar .boolean 1))) := by
            rw [f_X5_run, if_pos c_1, if_neg c_2, if_neg c_3, if_pos c_4]
          exact k_reti hx hb hr hK (by rw [ef]; exact hP) (by rw [ef]; exact hD) hS hlocks dX5_run_75 (by rw [ef])
      ·
        refine lv_bipush (v := (-3)) hx hb dX5_run_36 (by decide) ?_
        have ef : f_X5_run sM i1 = ((-3), sM) := by
          rw [f_X5_run, if_pos c_1, if_neg c_2, if_pos c_3]
        exact k_reti hx hb hr hK (by rw [ef]; exact hP) (by rw [ef]; exact hD) hS hlocks dX5_run_38 (by rw [ef])
  ·
    refine lv_iconst (v := (-1)) hx hb dX5_run_13 (by decide) ?_
    have ef : f_X5_run sM i1 = ((-1), sM) := by
      rw [f_X5_run, if_neg c_1]
    exact k_reti hx hb hr hK (by rw [ef]; exact hP) (by rw [ef]; exact hD) hS hlocks dX5_run_14 (by rw [ef])
theorem k_srv {M : Nat → Nat → Int32} {i d : Int32} (h : ¬ (f_X5_serves M i d) = 0) : ¬ (M 9 i.toNatClampNeg) = -9 := by
  intro q
  apply h
  unfold f_X5_serves
  rw [if_pos q]
theorem k_mdy {i : Int32} (h : ¬ (f_X5_in i.toInt64 0 363) = 0) : k_n (i + 1) 364 := by
  obtain ⟨h1, -⟩ := k_mn (a := 0) (b := 363) rfl rfl (by decide) h
  obtain ⟨j, hj, rfl⟩ := h1.get
  rw [nI_1]
  exact k_n.mk (by omega)
theorem in_X5_send_X5 : ∀ w ∈ wsX50, w ∈ wsX5_send := fun _ h => List.mem_cons_of_mem _ (List.mem_append_right _ h)
def f_X5_send (sM : Nat → Nat → Int32) (i1 : Int32) : Int32 × (Nat → Nat → Int32) :=
  if (f_X5_noServant sM i1) = 0 then (if (sM 0 6) = (-9) then ((-3), sM)
    else if (f_X5_serves sM i1 (sM 0 6)) = 0 then ((-3), sM)
    else if ((sM 2) i1.toNatClampNeg) < (f_X5_held sM ((sM 9) i1.toNatClampNeg) i1) then (((upd (sM 14) i1.toNatClampNeg ((sM 0 6) - 1)) i1.toNatClampNeg), k_st sM 14 (upd (sM 14) i1.toNatClampNeg ((sM 0 6) - 1)))
    else ((-3), sM))
  else ((-1), sM)
set_option maxHeartbeats 4000000 in
set_option maxRecDepth 100000 in
theorem c_X5_send (l : Launch) (k : K_X) (am : Nat → Nat) (sM : Nat → Nat → Int32) (i1 : Int32) (hT : sM 0 0 = 0) (hNs : k_n (sM 0 1) 10) (hB : ∀ j, j < 10 → k_o (sM 9 j) 10) : k_C l yX5_send wsX5_send (k_rm 2 46) k [.ref (am 0), .int i1] (w_M k am sM) (k_qI k ((f_X5_send sM i1).1) (w_M k am ((f_X5_send sM i1).2))) := by
  refine k_mk (cc := cX5_send) (maxL := 2) (ret := (some .int)) (by decide) rfl (Nat.le_of_ble_eq_true rfl) ?_
  intro p e s m below meth c A ls C0 hP hD hS hl
  obtain ⟨hx, hb, hr, hts, hown, hlocks, hml, hA, hK⟩ := id C0
  have hown : s.vm.findClass RX5 = some m.cls := hown
  have hl : lv_has ls 2 [(0, .ref (am 0)), (1, .int i1)] := hl
  refine lv_aload_n hx hb dX5_send_0 rfl (lv_at hl 0 rfl) ?_
  refine lv_iconst (v := 0) hx hb dX5_send_1 (by decide) ?_
  refine va_put (D := k.1) (ci := 5) (v := .int 0) (ty := .int) (C := RX5) (T := TX5) (N := 28) hx hb hts in_X5_send_X5 tyX5 tyX5_ok nmX5 hown hK hP hD hS 0 rfl rfl 0 (by decide) (k_w hts 1 rfl) (fun _ h9 => h9) rfl (by decide +kernel) rfl rfl (Nat.le_of_ble_eq_true rfl) dX5_send_2 (fun H locs hP hD hS => ?_)
  have hP := k_cP (w_M_s0 k am sM 0) hP
  have hD := k_cD (w_M_s0 k am sM 0) hD
  rw [k_thr hT] at hP hD
  refine lv_aload_n hx hb dX5_send_5 rfl (lv_at hl 0 rfl) ?_
  refine lv_iload_n hx hb dX5_send_6 rfl (lv_at hl 1 rfl) ?_
  refine k_Vi (wr := ([] : va_W)) (ws' := w_M k am sM) (Rv := (f_X5_noServant sM i1)) (rest := []) ⟨hx, hb, hml, hown, hts⟩ hK hA hP hD hS (c_X5_noServant l k am sM i1) (cwV 1 hts gX5_send_X5_noServant rfl rfl rfl (by decide +kernel) ⟨Nat.le_of_ble_eq_true rfl, Nat.le_of_ble_eq_true rfl⟩) (va_recv hK hP (ci := 5) (q0 := 0) rfl rfl) rfl hl.1 rfl (Nat.le_of_ble_eq_true rfl) dX5_send_7 (Nat.zero_le _) (Nat.zero_le _) [0, 1, 2, 3, 4, 5, 6, 7, 8, 9, 10, 11, 12, 13, 14, 15, 16, 17, 18, 19, 20, 21] [] [0, 1, 2, 3, 4, 5, 6, 7, 8, 9, 10, 11, 12, 13, 14, 15, 16, 17, 18, 19, 20, 21] rfl rfl rfl (by decide) rfl rfl rfl (fun H locs hP hD hS => ?_)
  refine lv_if_eq (tgt := 15) hx hb dX5_send_10 (by decide) (fun c_1 => ?_) (fun c_1 => ?_)
  ·
    refine lv_aload_n hx hb dX5_send_15 rfl (lv_at hl 0 rfl) ?_
    refine va_get (D := k.1) (ci := 5) (v := .int (sM 0 6)) (C := RX5) (T := TX5) (N := 28) hx hb hts in_X5_send_X5 hown hK hP 0 rfl rfl 19 (by decide) (k_w hts 2 rfl) (fun _ h9 => h9) rfl dX5_send_16 ?_
    refine lv_bipush (v := (-9)) hx hb dX5_send_19 (by decide) ?_
    refine lv_icmp_eq (tgt := 56) hx hb dX5_send_21 (by decide) (fun c_2 => ?_) (fun c_2 => ?_)
    ·
      refine lv_bipush (v := (-3)) hx hb dX5_send_56 (by decide) ?_
      have ef : f_X5_send sM i1 = ((-3), sM) := by
        rw [f_X5_send, if_pos c_1, if_pos c_2]
      exact k_reti hx hb hr hK (by rw [ef]; exact hP) (by rw [ef]; exact hD) hS hlocks dX5_send_58 (by rw [ef])
    ·
      refine lv_aload_n hx hb dX5_send_24 rfl (lv_at hl 0 rfl) ?_
      refine lv_iload_n hx hb dX5_send_25 rfl (lv_at hl 1 rfl) ?_
      refine lv_aload_n hx hb dX5_send_26 rfl (lv_at hl 0 rfl) ?_
      refine va_get (D := k.1) (ci := 5) (v := .int (sM 0 6)) (C := RX5) (T := TX5) (N := 28) hx hb hts in_X5_send_X5 hown hK hP 0 rfl rfl 19 (by decide) (k_w hts 2 rfl) (fun _ h9 => h9) rfl dX5_send_27 ?_
      refine k_Vi (wr := ([] : va_W)) (ws' := w_M k am sM) (Rv := (f_X5_serves sM i1 (sM 0 6))) (rest := []) ⟨hx, hb, hml, hown, hts⟩ hK hA hP hD hS (c_X5_serves l k am sM i1 (sM 0 6) (by first | assumption | exact k_ns hNs (by assumption) | exact k_nm hNm (by assumption))) (cwV 2 hts gX5_send_X5_serves rfl rfl rfl (by decide +kernel) ⟨Nat.le_of_ble_eq_true rfl, Nat.le_of_ble_eq_true rfl⟩) (va_recv hK hP (ci := 5) (q0 := 0) rfl rfl) rfl hl.1 rfl (Nat.le_of_ble_eq_true rfl) dX5_send_30 (Nat.zero_le _) (Nat.zero_le _) [0, 1, 2, 3, 4, 5, 6, 7, 8, 9, 10, 11, 12, 13, 14, 15, 16, 17, 18, 19, 20, 21] [] [0, 1, 2, 3, 4, 5, 6, 7, 8, 9, 10, 11, 12, 13, 14, 15, 16, 17, 18, 19, 20, 21] rfl rfl rfl (by decide) rfl rfl rfl (fun H locs hP hD hS => ?_)
      refine lv_if_eq (tgt := 56) hx hb dX5_send_33 (by decide) (fun c_3 => ?_) (fun c_3 => ?_)
      ·
        refine lv_bipush (v := (-3)) hx hb dX5_send_56 (by decide) ?_
        have ef : f_X5_send sM i1 = ((-3), sM) := by
          rw [f_X5_send, if_pos c_1, if_neg c_2, if_pos c_3]
        exact k_reti hx hb hr hK (by rw [ef]; exact hP) (by rw [ef]; exact hD) hS hlocks dX5_send_58 (by rw [ef])
      ·
        refine lv_aload_n hx hb dX5_send_36 rfl (lv_at hl 0 rfl) ?_
        refine lv_aload_n hx hb dX5_send_37 rfl (lv_at hl 0 rfl) ?_
        refine va_get (D := k.1) (ci := 5) (v := .ref (am 9)) (C := RX5) (T := TX5) (N := 28) hx hb hts in_X5_send_X5 hown hK hP 0 rfl rfl 11 (by decide) (k_w hts 3 rfl) (fun _ h9 => h9) rfl dX5_send_38 ?_
        refine lv_iload_n hx hb dX5_send_41 rfl (lv_at hl 1 rfl) ?_
        refine va_iald (f := sM 9) hx hb hK hP 9 0 rfl rfl (by first | assumption | exact k_ns hNs (by assumption) | exact k_nm hNm (by assumption)) dX5_send_42 ?_
        refine lv_iload_n hx hb dX5_send_43 rfl (lv_at hl 1 rfl) ?_
        refine k_Vi (wr := ([] : va_W)) (ws' := w_M k am sM) (Rv := (f_X5_held sM ((sM 9) i1.toNatClampNeg) i1)) (rest := []) ⟨hx, hb, hml, hown, hts⟩ hK hA hP hD hS (c_X5_held l k am sM ((sM 9) i1.toNatClampNeg) i1 ((hB _ (k_lt (by first | assumption | exact k_ns hNs (by assumption) | exact k_nm hNm (by assumption)))).in (k_srv (by assumption))) (by first | assumption | exact k_ns hNs (by assumption) | exact k_nm hNm (by assumption))) (cwV 2 hts gX5_send_X5_held rfl rfl rfl (by decide +kernel) ⟨Nat.le_of_ble_eq_true rfl, Nat.le_of_ble_eq_true rfl⟩) (va_recv hK hP (ci := 5) (q0 := 0) rfl rfl) rfl hl.1 rfl (Nat.le_of_ble_eq_true rfl) dX5_send_44 (Nat.zero_le _) (Nat.zero_le _) [0, 1, 2, 3, 4, 5, 6, 7, 8, 9, 10, 11, 12, 13, 14, 15, 16, 17, 18, 19, 20, 21] [] [0, 1, 2, 3, 4, 5, 6, 7, 8, 9, 10, 11, 12, 13, 14, 15, 16, 17, 18, 19, 20, 21] rfl rfl rfl (by decide) rfl rfl rfl (fun H locs hP hD hS => ?_)
        refine lv_aload_n hx hb dX5_send_47 rfl (lv_at hl 0 rfl) ?_
        refine va_get (D := k.1) (ci := 5) (v := .ref (am 2)) (C := RX5) (T := TX5) (N := 28) hx hb hts in_X5_send_X5 hown hK hP 0 rfl rfl 3 (by decide) (k_w hts 4 rfl) (fun _ h9 => h9) rfl dX5_send_48 ?_
        refine lv_iload_n hx hb dX5_send_51 rfl (lv_at hl 1 rfl) ?_
        refine va_iald (f := sM 2) hx hb hK hP 2 0 rfl rfl (by first | assumption | exact k_ns hNs (by assumption) | exact k_nm hNm (by assumption)) dX5_send_52 ?_
        refine lv_icmp_gt (tgt := 59) hx hb dX5_send_53 (by decide) (fun c_4 => ?_) (fun c_4 => ?_)
        ·
          refine lv_aload_n hx hb dX5_send_59 rfl (lv_at hl 0 rfl) ?_
          refine va_get (D := k.1) (ci := 5) (v := .ref (am 14)) (C := RX5) (T := TX5) (N := 28) hx hb hts in_X5_send_X5 hown hK hP 0 rfl rfl 20 (by decide) (k_w hts 5 rfl) (fun _ h9 => h9) rfl dX5_send_60 ?_
          refine lv_iload_n hx hb dX5_send_63 rfl (lv_at hl 1 rfl) ?_
          refine lv_aload_n hx hb dX5_send_64 rfl (lv_at hl 0 rfl) ?_
          refine va_get (D := k.1) (ci := 5) (v := .int (sM 0 6)) (C := RX5) (T := TX5) (N := 28) hx hb hts in_X5_send_X5 hown hK hP 0 rfl rfl 19 (by decide) (k_w hts 2 rfl) (fun _ h9 => h9) rfl dX5_send_65 ?_
          refine lv_iconst (v := 1) hx hb dX5_send_68 (by decide) ?_
          refine lv_isub hx hb dX5_send_69 ?_
          refine va_iast (f := sM 14) hx hb hK hP hD hS 14 0 rfl rfl (by first | assumption | exact k_ns hNs (by assumption) | exact k_nm hNm (by assumption)) dX5_send_70 (fun H locs hP hD hS => ?_)
          have hP := k_cP (w_M_14 k am sM (upd (sM 14) i1.toNatClampNeg ((sM 0 6) - 1))) hP
          have hD := k_cD (w_M_14 k am sM (upd (sM 14) i1.toNatClampNeg ((sM 0 6) - 1))) hD
          refine lv_aload_n hx hb dX5_send_71 rfl (lv_at hl 0 rfl) ?_
          refine va_get (D := k.1) (ci := 5) (v := .ref (am 14)) (C := RX5) (T := TX5) (N := 28) hx hb hts in_X5_send_X5 hown hK hP 0 rfl rfl 20 (by decide) (k_w hts 5 rfl) (fun _ h9 => h9) rfl dX5_send_72 ?_
          refine lv_iload_n hx hb dX5_send_75 rfl (lv_at hl 1 rfl) ?_
          refine va_iald (f := upd (sM 14) i1.toNatClampNeg ((sM 0 6) - 1)) hx hb hK hP 14 0 rfl rfl (by first | assumption | exact k_ns hNs (by assumption) | exact k_nm hNm (by assumption)) dX5_send_76 ?_
          have ef : f_X5_send sM i1 = (((upd (sM 14) i1.toNatClampNeg ((sM 0 6) - 1)) i1.toNatClampNeg), k_st sM 14 (upd (sM 14) i1.toNatClampNeg ((sM 0 6) - 1))) := by
            rw [f_X5_send, if_pos c_1, if_neg c_2, if_neg c_3, if_pos c_4]
          exact k_reti hx hb hr hK (by rw [ef]; exact hP) (by rw [ef]; exact hD) hS hlocks dX5_send_77 (by rw [ef])
        ·
          refine lv_bipush (v := (-3)) hx hb dX5_send_56 (by decide) ?_
          have ef : f_X5_send sM i1 = ((-3), sM) := by
            rw [f_X5_send, if_pos c_1, if_neg c_2, if_neg c_3, if_neg c_4]
          exact k_reti hx hb hr hK (by rw [ef]; exact hP) (by rw [ef]; exact hD) hS hlocks dX5_send_58 (by rw [ef])
  ·
    refine lv_iconst (v := (-1)) hx hb dX5_send_13 (by decide) ?_
    have ef : f_X5_send sM i1 = ((-1), sM) := by
      rw [f_X5_send, if_neg c_1]
    exact k_reti hx hb hr hK (by rw [ef]; exact hP) (by rw [ef]; exact hD) hS hlocks dX5_send_14 (by rw [ef])
theorem in_X5_dueOf_X5 : ∀ w ∈ wsX50, w ∈ wsX5_dueOf := fun _ h => List.mem_cons_of_mem _ (List.mem_append_right _ h)
def g_X5_dueOf_lp (sM : Nat → Nat → Int32) (i1 : Int32) (i2 : Int32) : Nat → Nat → Int32 → Int32
  | 0, j, a1 => a1
  | r + 1, j, a1 => if ((sM 14) i1.toNatClampNeg) < (nI j) then a1
    else if ((sM 17) ((364 * i1) + (nI j)).toNatClampNeg) = 0 then g_X5_dueOf_lp sM i1 i2 r (j + 1) (a1 + 2)
    else g_X5_dueOf_lp sM i1 i2 r (j + 1) (a1 + 1)
set_option maxHeartbeats 4000000 in
set_option maxRecDepth 100000 in
theorem lp_X5_dueOf_lp {p : Program} {l : Launch} {e : Env} {s : State} {m : MethodId} {below : List Frame} {meth : Method} {c : Code} {A : Nat → Prop} {Q : State → Prop} {av : Array Value} (k : K_X) (am : Nat → Nat) (sM : Nat → Nat → Int32) (i1 : Int32) (i2 : Int32) (C0 : k_Cx p s m meth c k cX5_dueOf (some .int) wsX5_dueOf RX5 5 av A) (h1 : vp_in i1 10) (hla : k_n (i2 + 1) 364) : ∀ (r j : Nat) (a1 : Int32) (H : Heap) (locs : List Loc) (ls : Array Slot), j + r = (i2 + 1).toNatClampNeg → va_P k.1 vwCl (w_M k am sM) H → va_D A (w_M k am sM) → va_S A s.heap H locs → lv_has ls 5 [(0, .ref (am 0)), (1, .int i1), (2, .int i2), (3, .int a1), (4, .int (nI j))] → (∀ (H : Heap) (locs : List Loc) (ls : Array Slot), va_P k.1 vwCl (w_M k am sM) H → va_D A (w_M k am sM) → va_S A s.heap H locs → lv_has ls 5 [(0, .ref (am 0)), (1, .int i1), (2, .int i2), (3, .int (g_X5_dueOf_lp sM i1 i2 r j a1))] → W p l e (k_rm 0 0) s m av below meth c H locs 0 0 Q (F0 m 52 ls [])) → W p l e (k_rm 0 0) s m av below meth c H locs 0 0 Q (F0 m 5 ls []) := by
  obtain ⟨hx, hb, hr, hts, hown, hlocks, hml, hA, hK⟩ := id C0
  have hq := hla.2
  intro r
  induction r with
  | zero =>
    intro j a1 H locs ls hj hP hD hS hl hQ
    refine lv_iload hx hb dX5_dueOf_5 (lv_at hl 4 rfl) ?_
    refine lv_iload_n hx hb dX5_dueOf_7 rfl (lv_at hl 2 rfl) ?_
    refine lv_icmp_gt (tgt := 52) hx hb dX5_dueOf_8 (by decide) (fun c_1 => ?_) (fun c_1 => ?_)
    rotate_left
    · exact absurd (k_gt hla (by omega) (by omega) (by omega)) c_1
    have eg : g_X5_dueOf_lp sM i1 i2 0 j a1 = a1 := by
      rw [g_X5_dueOf_lp]
    rw [eg] at hQ
    exact hQ _ _ _ hP hD hS (lv_sub hl [0, 1, 2, 3] rfl)
  | succ r ih =>
    intro j a1 H locs ls hj hP hD hS hl hQ
    refine lv_iload hx hb dX5_dueOf_5 (lv_at hl 4 rfl) ?_
    refine lv_iload_n hx hb dX5_dueOf_7 rfl (lv_at hl 2 rfl) ?_
    refine lv_icmp_gt (tgt := 52) hx hb dX5_dueOf_8 (by decide) (fun c_1 => ?_) (fun c_1 => ?_)
    · exact absurd c_1 (k_ngt hla (by omega) (by omega))
    refine lv_iload hx hb dX5_dueOf_11 (lv_at hl 4 rfl) ?_
    refine lv_aload_n hx hb dX5_dueOf_13 rfl (lv_at hl 0 rfl) ?_
    refine va_get (D := k.1) (ci := 5) (v := .ref (am 14)) (C := RX5) (T := TX5) (N := 28) hx hb hts in_X5_dueOf_X5 hown hK hP 0 rfl rfl 20 (by decide) (k_w hts 1 rfl) (fun _ h9 => h9) rfl dX5_dueOf_14 ?_
    refine lv_iload_n hx hb dX5_dueOf_17 rfl (lv_at hl 1 rfl) ?_
    refine va_iald (f := sM 14) hx hb hK hP 14 0 rfl rfl (h1) dX5_dueOf_18 ?_
    refine lv_icmp_gt (tgt := 52) hx hb dX5_dueOf_19 (by decide) (fun c_2 => ?_) (fun c_2 => ?_)
    ·
      have eg : g_X5_dueOf_lp sM i1 i2 (r + 1) j a1 = a1 := by
        rw [g_X5_dueOf_lp, if_pos c_2]
      rw [eg] at hQ
      exact hQ _ _ _ hP hD hS (lv_sub hl [0, 1, 2, 3] rfl)
    ·
      refine lv_iload_n hx hb dX5_dueOf_22 rfl (lv_at hl 3 rfl) ?_
      refine lv_aload_n hx hb dX5_dueOf_23 rfl (lv_at hl 0 rfl) ?_
      refine va_get (D := k.1) (ci := 5) (v := .ref (am 17)) (C := RX5) (T := TX5) (N := 28) hx hb hts in_X5_dueOf_X5 hown hK hP 0 rfl rfl 23 (by decide) (k_w hts 2 rfl) (fun _ h9 => h9) rfl dX5_dueOf_24 ?_
      refine lv_sipush (v := 364) hx hb dX5_dueOf_27 (by decide) ?_
      refine lv_iload_n hx hb dX5_dueOf_30 rfl (lv_at hl 1 rfl) ?_
      refine lv_imul hx hb dX5_dueOf_31 ?_
      refine lv_iload hx hb dX5_dueOf_32 (lv_at hl 4 rfl) ?_
      refine lv_iadd hx hb dX5_dueOf_34 ?_
      refine va_zald (f := sM 17) hx hb hK hP 17 1 rfl rfl (k_sk h1 (by omega)) dX5_dueOf_35 ?_
      refine lv_if_eq (tgt := 43) hx hb dX5_dueOf_36 (by decide) (fun c_3 => ?_) (fun c_3 => ?_)
      ·
        refine lv_iconst (v := 2) hx hb dX5_dueOf_43 (by decide) ?_
        refine lv_iadd hx hb dX5_dueOf_44 ?_
        refine lv_istore_n (lv' := [(3, .int (a1 + 2)), (0, .ref (am 0)), (1, .int i1), (2, .int i2), (4, .int (nI j))]) hx hb dX5_dueOf_45 rfl hl (by decide) rfl (fun ls hl => ?_)
        refine lv_iinc (v := nI (j + 1)) (lv' := [(4, .int (nI (j + 1))), (3, .int (a1 + 2)), (0, .ref (am 0)), (1, .int i1), (2, .int i2)]) hx hb dX5_dueOf_46 hl (k := 4) rfl (nI_1 j) (by decide) rfl (fun ls hl => ?_)
        refine lv_goto (tgt := 5) hx hb dX5_dueOf_49 (by decide) ?_
        have eg : g_X5_dueOf_lp sM i1 i2 (r + 1) j a1 = g_X5_dueOf_lp sM i1 i2 r (j + 1) (a1 + 2) := by
          rw [g_X5_dueOf_lp, if_neg c_2, if_pos c_3]
        rw [eg] at hQ
        exact ih (j + 1) (a1 + 2) _ _ _ (by omega) hP hD hS (lv_sub hl [2, 3, 4, 1, 0] rfl) hQ
      ·
        refine lv_iconst (v := 1) hx hb dX5_dueOf_39 (by decide) ?_
        refine lv_goto (tgt := 44) hx hb dX5_dueOf_40 (by decide) ?_
        refine lv_iadd hx hb dX5_dueOf_44 ?_
        refine lv_istore_n (lv' := [(3, .int (a1 + 1)), (0, .ref (am 0)), (1, .int i1), (2, .int i2), (4, .int (nI j))]) hx hb dX5_dueOf_45 rfl hl (by decide) rfl (fun ls hl => ?_)
        refine lv_iinc (v := nI (j + 1)) (lv' := [(4, .int (nI (j + 1))), (3, .int (a1 + 1)), (0, .ref (am 0)), (1, .int i1), (2, .int i2)]) hx hb dX5_dueOf_46 hl (k := 4) rfl (nI_1 j) (by decide) rfl (fun ls hl => ?_)
        refine lv_goto (tgt := 5) hx hb dX5_dueOf_49 (by decide) ?_
        have eg : g_X5_dueOf_lp sM i1 i2 (r + 1) j a1 = g_X5_dueOf_lp sM i1 i2 r (j + 1) (a1 + 1) := by
          rw [g_X5_dueOf_lp, if_neg c_2, if_neg c_3]
        rw [eg] at hQ
        exact ih (j + 1) (a1 + 1) _ _ _ (by omega) hP hD hS (lv_sub hl [2, 3, 4, 1, 0] rfl) hQ
def f_X5_dueOf (sM : Nat → Nat → Int32) (i1 : Int32) (i2 : Int32) : Int32 :=
  if ((sM 16) i1.toNatClampNeg) = 0 then ((12 * ((sM 10) i1.toNatClampNeg)) * (g_X5_dueOf_lp sM i1 i2 ((i2 + 1).toNatClampNeg) 0 0)) / 728
  else 0
set_option maxHeartbeats 4000000 in
set_option maxRecDepth 100000 in
theorem c_X5_dueOf (l : Launch) (k : K_X) (am : Nat → Nat) (sM : Nat → Nat → Int32) (i1 : Int32) (i2 : Int32) (h1 : vp_in i1 10) (hla : k_n (i2 + 1) 364) : k_C l yX5_dueOf wsX5_dueOf (k_rm 0 0) k [.ref (am 0), .int i1, .int i2] (w_M k am sM) (k_qI k (f_X5_dueOf sM i1 i2) (w_M k am sM)) := by
  refine k_mk (cc := cX5_dueOf) (maxL := 5) (ret := (some .int)) (by decide) rfl (Nat.le_of_ble_eq_true rfl) ?_
  intro p e s m below meth c A ls C0 hP hD hS hl
  obtain ⟨hx, hb, hr, hts, hown, hlocks, hml, hA, hK⟩ := id C0
  have hown : s.vm.findClass RX5 = some m.cls := hown
  have hl : lv_has ls 5 [(0, .ref (am 0)), (1, .int i1), (2, .int i2)] := hl
  refine lv_iconst (v := 0) hx hb dX5_dueOf_0 (by decide) ?_
  refine lv_istore_n (lv' := [(3, .int 0), (0, .ref (am 0)), (1, .int i1), (2, .int i2)]) hx hb dX5_dueOf_1 rfl hl (by decide) rfl (fun ls hl => ?_)
  refine lv_iconst (v := 0) hx hb dX5_dueOf_2 (by decide) ?_
  refine lv_istore (lv' := [(4, .int 0), (3, .int 0), (0, .ref (am 0)), (1, .int i1), (2, .int i2)]) hx hb dX5_dueOf_3 hl (by decide) rfl (fun ls hl => ?_)
  have hl : lv_has ls 5 [(0, .ref (am 0)), (1, .int i1), (2, .int i2), (3, .int 0), (4, .int (nI 0))] := lv_sub hl [2, 3, 4, 1, 0] rfl
  refine lp_X5_dueOf_lp k am sM i1 i2 C0 (by first | assumption | omega) (by first | assumption | omega) ((i2 + 1).toNatClampNeg) 0 0 _ _ _ (by omega) hP hD hS hl (fun H locs ls hP hD hS hl => ?_)
  refine lv_aload_n hx hb dX5_dueOf_52 rfl (lv_at hl 0 rfl) ?_
  refine va_get (D := k.1) (ci := 5) (v := .ref (am 16)) (C := RX5) (T := TX5) (N := 28) hx hb hts in_X5_dueOf_X5 hown hK hP 0 rfl rfl 22 (by decide) (k_w hts 3 rfl) (fun _ h9 => h9) rfl dX5_dueOf_53 ?_
  refine lv_iload_n hx hb dX5_dueOf_56 rfl (lv_at hl 1 rfl) ?_
  refine va_zald (f := sM 16) hx hb hK hP 16 1 rfl rfl (h1) dX5_dueOf_57 ?_
  refine lv_if_eq (tgt := 65) hx hb dX5_dueOf_58 (by decide) (fun c_1 => ?_) (fun c_1 => ?_)
  ·
    refine lv_bipush (v := 12) hx hb dX5_dueOf_65 (by decide) ?_
    refine lv_aload_n hx hb dX5_dueOf_67 rfl (lv_at hl 0 rfl) ?_
    refine va_get (D := k.1) (ci := 5) (v := .ref (am 10)) (C := RX5) (T := TX5) (N := 28) hx hb hts in_X5_dueOf_X5 hown hK hP 0 rfl rfl 12 (by decide) (k_w hts 4 rfl) (fun _ h9 => h9) rfl dX5_dueOf_68 ?_
    refine lv_iload_n hx hb dX5_dueOf_71 rfl (lv_at hl 1 rfl) ?_
    refine va_iald (f := sM 10) hx hb hK hP 10 0 rfl rfl (h1) dX5_dueOf_72 ?_
    refine lv_imul hx hb dX5_dueOf_73 ?_
    refine lv_iload_n hx hb dX5_dueOf_74 rfl (lv_at hl 3 rfl) ?_
    refine lv_imul hx hb dX5_dueOf_75 ?_
    refine lv_sipush (v := 728) hx hb dX5_dueOf_76 (by decide) ?_
    refine lv_idiv hx hb dX5_dueOf_79 (by decide) ?_
    have ef : f_X5_dueOf sM i1 i2 = ((12 * ((sM 10) i1.toNatClampNeg)) * (g_X5_dueOf_lp sM i1 i2 ((i2 + 1).toNatClampNeg) 0 0)) / 728 := by
      rw [f_X5_dueOf, if_pos c_1]
    exact k_reti hx hb hr hK hP hD hS hlocks dX5_dueOf_80 (by rw [ef])
  ·
    refine lv_iconst (v := 0) hx hb dX5_dueOf_61 (by decide) ?_
    refine lv_goto (tgt := 80) hx hb dX5_dueOf_62 (by decide) ?_
    have ef : f_X5_dueOf sM i1 i2 = 0 := by
      rw [f_X5_dueOf, if_neg c_1]
    exact k_reti hx hb hr hK hP hD hS hlocks dX5_dueOf_80 (by rw [ef])
theorem in_X5_due_X5 : ∀ w ∈ wsX50, w ∈ wsX5_due := fun _ h => List.mem_cons_of_mem _ (List.mem_append_right _ h)
def f_X5_due (sM : Nat → Nat → Int32) (i1 : Int32) (i2 : Int32) : Int32 :=
  if (f_X5_noServant sM i1) = 0 then (if (f_X5_in i2.toInt64 0 363) = 0 then -2
    else if (sM 0 6) = (-9) then -3
    else if ((sM 9) i1.toNatClampNeg) = (-9) then -3
    else f_X5_dueOf sM i1 i2)
  else -1
set_option maxHeartbeats 4000000 in
set_option maxRecDepth 100000 in
theorem c_X5_due (l : Launch) (k : K_X) (am : Nat → Nat) (sM : Nat → Nat → Int32) (i1 : Int32) (i2 : Int32) (hT : sM 0 0 = 0) (hNs : k_n (sM 0 1) 10) : k_C l yX5_due wsX5_due (k_rm 2 46) k [.ref (am 0), .int i1, .int i2] (w_M k am sM) (k_qI k (f_X5_due sM i1 i2) (w_M k am sM)) := by
  refine k_mk (cc := cX5_due) (maxL := 3) (ret := (some .int)) (by decide) rfl (Nat.le_of_ble_eq_true rfl) ?_
  intro p e s m below meth c A ls C0 hP hD hS hl
  obtain ⟨hx, hb, hr, hts, hown, hlocks, hml, hA, hK⟩ := id C0
  have hown : s.vm.findClass RX5 = some m.cls := hown
  have hl : lv_has ls 3 [(0, .ref (am 0)), (1, .int i1), (2, .int i2)] := hl
  refine lv_aload_n hx hb dX5_due_0 rfl (lv_at hl 0 rfl) ?_
  refine lv_iconst (v := 0) hx hb dX5_due_1 (by decide) ?_
  refine va_put (D := k.1) (ci := 5) (v := .int 0) (ty := .int) (C := RX5) (T := TX5) (N := 28) hx hb hts in_X5_due_X5 tyX5 tyX5_ok nmX5 hown hK hP hD hS 0 rfl rfl 0 (by decide) (k_w hts 1 rfl) (fun _ h9 => h9) rfl (by decide +kernel) rfl rfl (Nat.le_of_ble_eq_true rfl) dX5_due_2 (fun H locs hP hD hS => ?_)
  have hP := k_cP (w_M_s0 k am sM 0) hP
  have hD := k_cD (w_M_s0 k am sM 0) hD
  rw [k_thr hT] at hP hD
  refine lv_aload_n hx hb dX5_due_5 rfl (lv_at hl 0 rfl) ?_
  refine lv_iload_n hx hb dX5_due_6 rfl (lv_at hl 1 rfl) ?_
  refine k_Vi (wr := ([] : va_W)) (ws' := w_M k am sM) (Rv := (f_X5_noServant sM i1)) (rest := []) ⟨hx, hb, hml, hown, hts⟩ hK hA hP hD hS (c_X5_noServant l k am sM i1) (cwV 1 hts gX5_due_X5_noServant rfl rfl rfl (by decide +kernel) ⟨Nat.le_of_ble_eq_true rfl, Nat.le_of_ble_eq_true rfl⟩) (va_recv hK hP (ci := 5) (q0 := 0) rfl rfl) rfl hl.1 rfl (Nat.le_of_ble_eq_true rfl) dX5_due_7 (Nat.zero_le _) (Nat.zero_le _) [0, 1, 2, 3, 4, 5, 6, 7, 8, 9, 10, 11, 12, 13, 14, 15, 16, 17, 18, 19, 20, 21] [] [0, 1, 2, 3, 4, 5, 6, 7, 8, 9, 10, 11, 12, 13, 14, 15, 16, 17, 18, 19, 20, 21] rfl rfl rfl (by decide) rfl rfl rfl (fun H locs hP hD hS => ?_)
  refine lv_if_eq (tgt := 15) hx hb dX5_due_10 (by decide) (fun c_1 => ?_) (fun c_1 => ?_)
  ·
    refine lv_iload_n hx hb dX5_due_15 rfl (lv_at hl 2 rfl) ?_
    refine lv_i2l (v := i2.toInt64) hx hb dX5_due_16 rfl ?_
    refine lv_lconst (v := 0) hx hb dX5_due_17 (by decide) ?_
    refine lv_ldc2 hx hb hown (k_w hts 2 rfl) dX5_due_18 ?_
    refine k_Si (wr := w_M k am sM) (ws' := w_M k am sM) (Rv := (f_X5_in i2.toInt64 0 363)) (rest := []) ⟨hx, hb, hml, hown, hts⟩ hK hA hP hD hS (c_X5_in l k i2.toInt64 0 363) (va_cwS 3 hts gX5_due_X5_in rfl rfl rfl (by decide +kernel) ⟨Nat.le_of_ble_eq_true rfl, Nat.le_of_ble_eq_true rfl⟩) rfl hl.1 rfl (Nat.le_of_ble_eq_true rfl) dX5_due_21 (Nat.zero_le _) (Nat.zero_le _) [] [0, 1, 2, 3, 4, 5, 6, 7, 8, 9, 10, 11, 12, 13, 14, 15, 16, 17, 18, 19, 20, 21] [0, 1, 2, 3, 4, 5, 6, 7, 8, 9, 10, 11, 12, 13, 14, 15, 16, 17, 18, 19, 20, 21] rfl rfl rfl (by decide) rfl rfl rfl (fun H locs hP hD hS => ?_)
    refine lv_if_ne (tgt := 30) hx hb dX5_due_24 (by decide) (fun c_2 => ?_) (fun c_2 => ?_)
    ·
      refine lv_aload_n hx hb dX5_due_30 rfl (lv_at hl 0 rfl) ?_
      refine va_get (D := k.1) (ci := 5) (v := .int (sM 0 6)) (C := RX5) (T := TX5) (N := 28) hx hb hts in_X5_due_X5 hown hK hP 0 rfl rfl 19 (by decide) (k_w hts 3 rfl) (fun _ h9 => h9) rfl dX5_due_31 ?_
      refine lv_bipush (v := (-9)) hx hb dX5_due_34 (by decide) ?_
      refine lv_icmp_eq (tgt := 50) hx hb dX5_due_36 (by decide) (fun c_3 => ?_) (fun c_3 => ?_)
      ·
        refine lv_bipush (v := (-3)) hx hb dX5_due_50 (by decide) ?_
        refine lv_goto (tgt := 61) hx hb dX5_due_52 (by decide) ?_
        have ef : f_X5_due sM i1 i2 = -3 := by
          rw [f_X5_due, if_pos c_1, if_neg c_2, if_pos c_3]
        exact k_reti hx hb hr hK hP hD hS hlocks dX5_due_61 (by rw [ef])
      ·
        refine lv_aload_n hx hb dX5_due_39 rfl (lv_at hl 0 rfl) ?_
        refine va_get (D := k.1) (ci := 5) (v := .ref (am 9)) (C := RX5) (T := TX5) (N := 28) hx hb hts in_X5_due_X5 hown hK hP 0 rfl rfl 11 (by decide) (k_w hts 4 rfl) (fun _ h9 => h9) rfl dX5_due_40 ?_
        refine lv_iload_n hx hb dX5_due_43 rfl (lv_at hl 1 rfl) ?_
        refine va_iald (f := sM 9) hx hb hK hP 9 0 rfl rfl (by first | assumption | exact k_ns hNs (by assumption) | exact k_nm hNm (by assumption)) dX5_due_44 ?_
        refine lv_bipush (v := (-9)) hx hb dX5_due_45 (by decide) ?_
        refine lv_icmp_ne (tgt := 55) hx hb dX5_due_47 (by decide) (fun c_4 => ?_) (fun c_4 => ?_)
        ·
          refine lv_aload_n hx hb dX5_due_55 rfl (lv_at hl 0 rfl) ?_
          refine lv_iload_n hx hb dX5_due_56 rfl (lv_at hl 1 rfl) ?_
          refine lv_iload_n hx hb dX5_due_57 rfl (lv_at hl 2 rfl) ?_
          refine k_Vi (wr := ([] : va_W)) (ws' := w_M k am sM) (Rv := (f_X5_dueOf sM i1 i2)) (rest := []) ⟨hx, hb, hml, hown, hts⟩ hK hA hP hD hS (c_X5_dueOf l k am sM i1 i2 (by first | assumption | exact k_ns hNs (by assumption) | exact k_nm hNm (by assumption)) (k_mdy (by assumption))) (cwV 2 hts gX5_due_X5_dueOf rfl rfl rfl (by decide +kernel) ⟨Nat.le_of_ble_eq_true rfl, Nat.le_of_ble_eq_true rfl⟩) (va_recv hK hP (ci := 5) (q0 := 0) rfl rfl) rfl hl.1 rfl (Nat.le_of_ble_eq_true rfl) dX5_due_58 (Nat.zero_le _) (Nat.zero_le _) [0, 1, 2, 3, 4, 5, 6, 7, 8, 9, 10, 11, 12, 13, 14, 15, 16, 17, 18, 19, 20, 21] [] [0, 1, 2, 3, 4, 5, 6, 7, 8, 9, 10, 11, 12, 13, 14, 15, 16, 17, 18, 19, 20, 21] rfl rfl rfl (by decide) rfl rfl rfl (fun H locs hP hD hS => ?_)
          have ef : f_X5_due sM i1 i2 = f_X5_dueOf sM i1 i2 := by
            rw [f_X5_due, if_pos c_1, if_neg c_2, if_neg c_3, if_neg c_4]
          exact k_reti hx hb hr hK hP hD hS hlocks dX5_due_61 (by rw [ef])
        ·
          refine lv_bipush (v := (-3)) hx hb dX5_due_50 (by decide) ?_
          refine lv_goto (tgt := 61) hx hb dX5_due_52 (by decide) ?_
          have ef : f_X5_due sM i1 i2 = -3 := by
            rw [f_X5_due, if_pos c_1, if_neg c_2, if_neg c_3, if_pos c_4]
          exact k_reti hx hb hr hK hP hD hS hlocks dX5_due_61 (by rw [ef])
    ·
      refine lv_bipush (v := (-2)) hx hb dX5_due_27 (by decide) ?_
      have ef : f_X5_due sM i1 i2 = -2 := by
        rw [f_X5_due, if_pos c_1, if_pos c_2]
      exact k_reti hx hb hr hK hP hD hS hlocks dX5_due_29 (by rw [ef])
  ·
    refine lv_iconst (v := (-1)) hx hb dX5_due_13 (by decide) ?_
    have ef : f_X5_due sM i1 i2 = -1 := by
      rw [f_X5_due, if_neg c_1]
    exact k_reti hx hb hr hK hP hD hS hlocks dX5_due_14 (by rw [ef])
theorem in_X5_owes_X5 : ∀ w ∈ wsX50, w ∈ wsX5_owes := fun _ h => List.mem_cons_of_mem _ (List.mem_append_right _ h)
def f_X5_owes (sM : Nat → Nat → Int32) (i1 : Int32) (i2 : Int32) : Int32 :=
  if (f_X5_noMaster sM i1) = 0 then (if (f_X5_in i2.toInt64 0 363) = 0 then -2
    else if (sM 0 6) = (-9) then -3
    else if ((sM 12) i1.toNatClampNeg) = (-9) then 0
    else f_X5_dueOf sM ((sM 12) i1.toNatClampNeg) i2)
  else -1
set_option maxHeartbeats 4000000 in
set_option maxRecDepth 100000 in
theorem c_X5_owes (l : Launch) (k : K_X) (am : Nat → Nat) (sM : Nat → Nat → Int32) (i1 : Int32) (i2 : Int32) (hT : sM 0 0 = 0) (hNm : k_n (sM 0 2) 10) (hO : ∀ j, j < 10 → k_o (sM 12 j) 10) : k_C l yX5_owes wsX5_owes (k_rm 2 46) k [.ref (am 0), .int i1, .int i2] (w_M k am sM) (k_qI k (f_X5_owes sM i1 i2) (w_M k am sM)) := by
  refine k_mk (cc := cX5_owes) (maxL := 3) (ret := (some .int)) (by decide) rfl (Nat.le_of_ble_eq_true rfl) ?_
  intro p e s m below meth c A ls C0 hP hD hS hl
  obtain ⟨hx, hb, hr, hts, hown, hlocks, hml, hA, hK⟩ := id C0
  have hown : s.vm.findClass RX5 = some m.cls := hown
  have hl : lv_has ls 3 [(0, .ref (am 0)), (1, .int i1), (2, .int i2)] := hl
  refine lv_aload_n hx hb dX5_owes_0 rfl (lv_at hl 0 rfl) ?_
  refine lv_iconst (v := 0) hx hb dX5_owes_1 (by decide) ?_
  refine va_put (D := k.1) (ci := 5) (v := .int 0) (ty := .int) (C := RX5) (T := TX5) (N := 28) hx hb hts in_X5_owes_X5 tyX5 tyX5_ok nmX5 hown hK hP hD hS 0 rfl rfl 0 (by decide) (k_w hts 1 rfl) (fun _ h9 => h9) rfl (by decide +kernel) rfl rfl (Nat.le_of_ble_eq_true rfl) dX5_owes_2 (fun H locs hP hD hS => ?_)
  have hP := k_cP (w_M_s0 k am sM 0) hP
  have hD := k_cD (w_M_s0 k am sM 0) hD
  rw [k_thr hT] at hP hD
  refine lv_aload_n hx hb dX5_owes_5 rfl (lv_at hl 0 rfl) ?_
  refine lv_iload_n hx hb dX5_owes_6 rfl (lv_at hl 1 rfl) ?_
  refine k_Vi (wr := ([] : va_W)) (ws' := w_M k am sM) (Rv := (f_X5_noMaster sM i1)) (rest := []) ⟨hx, hb, hml, hown, hts⟩ hK hA hP hD hS (c_X5_noMaster l k am sM i1) (cwV 1 hts gX5_owes_X5_noMaster rfl rfl rfl (by decide +kernel) ⟨Nat.le_of_ble_eq_true rfl, Nat.le_of_ble_eq_true rfl⟩) (va_recv hK hP (ci := 5) (q0 := 0) rfl rfl) rfl hl.1 rfl (Nat.le_of_ble_eq_true rfl) dX5_owes_7 (Nat.zero_le _) (Nat.zero_le _) [0, 1, 2, 3, 4, 5, 6, 7, 8, 9, 10, 11, 12, 13, 14, 15, 16, 17, 18, 19, 20, 21] [] [0, 1, 2, 3, 4, 5, 6, 7, 8, 9, 10, 11, 12, 13, 14, 15, 16, 17, 18, 19, 20, 21] rfl rfl rfl (by decide) rfl rfl rfl (fun H locs hP hD hS => ?_)
  refine lv_if_eq (tgt := 15) hx hb dX5_owes_10 (by decide) (fun c_1 => ?_) (fun c_1 => ?_)
  ·
    refine lv_iload_n hx hb dX5_owes_15 rfl (lv_at hl 2 rfl) ?_
    refine lv_i2l (v := i2.toInt64) hx hb dX5_owes_16 rfl ?_
    refine lv_lconst (v := 0) hx hb dX5_owes_17 (by decide) ?_
    refine lv_ldc2 hx hb hown (k_w hts 2 rfl) dX5_owes_18 ?_
    refine k_Si (wr := w_M k am sM) (ws' := w_M k am sM) (Rv := (f_X5_in i2.toInt64 0 363)) (rest := []) ⟨hx, hb, hml, hown, hts⟩ hK hA hP hD hS (c_X5_in l k i2.toInt64 0 363) (va_cwS 3 hts gX5_owes_X5_in rfl rfl rfl (by decide +kernel) ⟨Nat.le_of_ble_eq_true rfl, Nat.le_of_ble_eq_true rfl⟩) rfl hl.1 rfl (Nat.le_of_ble_eq_true rfl) dX5_owes_21 (Nat.zero_le _) (Nat.zero_le _) [] [0, 1, 2, 3, 4, 5, 6, 7, 8, 9, 10, 11, 12, 13, 14, 15, 16, 17, 18, 19, 20, 21] [0, 1, 2, 3, 4, 5, 6, 7, 8, 9, 10, 11, 12, 13, 14, 15, 16, 17, 18, 19, 20, 21] rfl rfl rfl (by decide) rfl rfl rfl (fun H locs hP hD hS => ?_)
    refine lv_if_ne (tgt := 30) hx hb dX5_owes_24 (by decide) (fun c_2 => ?_) (fun c_2 => ?_)
    ·
      refine lv_aload_n hx hb dX5_owes_30 rfl (lv_at hl 0 rfl) ?_
      refine va_get (D := k.1) (ci := 5) (v := .int (sM 0 6)) (C := RX5) (T := TX5) (N := 28) hx hb hts in_X5_owes_X5 hown hK hP 0 rfl rfl 19 (by decide) (k_w hts 3 rfl) (fun _ h9 => h9) rfl dX5_owes_31 ?_
      refine lv_bipush (v := (-9)) hx hb dX5_owes_34 (by decide) ?_
      refine lv_icmp_ne (tgt := 44) hx hb dX5_owes_36 (by decide) (fun c_3 => ?_) (fun c_3 => ?_)
      ·
        refine lv_aload_n hx hb dX5_owes_44 rfl (lv_at hl 0 rfl) ?_
        refine va_get (D := k.1) (ci := 5) (v := .ref (am 12)) (C := RX5) (T := TX5) (N := 28) hx hb hts in_X5_owes_X5 hown hK hP 0 rfl rfl 14 (by decide) (k_w hts 4 rfl) (fun _ h9 => h9) rfl dX5_owes_45 ?_
        refine lv_iload_n hx hb dX5_owes_48 rfl (lv_at hl 1 rfl) ?_
        refine va_iald (f := sM 12) hx hb hK hP 12 0 rfl rfl (by first | assumption | exact k_ns hNs (by assumption) | exact k_nm hNm (by assumption)) dX5_owes_49 ?_
        refine lv_bipush (v := (-9)) hx hb dX5_owes_50 (by decide) ?_
        refine lv_icmp_ne (tgt := 59) hx hb dX5_owes_52 (by decide) (fun c_4 => ?_) (fun c_4 => ?_)
        ·
          refine lv_aload_n hx hb dX5_owes_59 rfl (lv_at hl 0 rfl) ?_
          refine lv_aload_n hx hb dX5_owes_60 rfl (lv_at hl 0 rfl) ?_
          refine va_get (D := k.1) (ci := 5) (v := .ref (am 12)) (C := RX5) (T := TX5) (N := 28) hx hb hts in_X5_owes_X5 hown hK hP 0 rfl rfl 14 (by decide) (k_w hts 4 rfl) (fun _ h9 => h9) rfl dX5_owes_61 ?_
          refine lv_iload_n hx hb dX5_owes_64 rfl (lv_at hl 1 rfl) ?_
          refine va_iald (f := sM 12) hx hb hK hP 12 0 rfl rfl (by first | assumption | exact k_ns hNs (by assumption) | exact k_nm hNm (by assumption)) dX5_owes_65 ?_
          refine lv_iload_n hx hb dX5_owes_66 rfl (lv_at hl 2 rfl) ?_
          refine k_Vi (wr := ([] : va_W)) (ws' := w_M k am sM) (Rv := (f_X5_dueOf sM ((sM 12) i1.toNatClampNeg) i2)) (rest := []) ⟨hx, hb, hml, hown, hts⟩ hK hA hP hD hS (c_X5_dueOf l k am sM ((sM 12) i1.toNatClampNeg) i2 ((hO _ (k_lt (by first | assumption | exact k_ns hNs (by assumption) | exact k_nm hNm (by assumption)))).in (by assumption)) (k_mdy (by assumption))) (cwV 2 hts gX5_owes_X5_dueOf rfl rfl rfl (by decide +kernel) ⟨Nat.le_of_ble_eq_true rfl, Nat.le_of_ble_eq_true rfl⟩) (va_recv hK hP (ci := 5) (q0 := 0) rfl rfl) rfl hl.1 rfl (Nat.le_of_ble_eq_true rfl) dX5_owes_67 (Nat.zero_le _) (Nat.zero_le _) [0, 1, 2, 3, 4, 5, 6, 7, 8, 9, 10, 11, 12, 13, 14, 15, 16, 17, 18, 19, 20, 21] [] [0, 1, 2, 3, 4, 5, 6, 7, 8, 9, 10, 11, 12, 13, 14, 15, 16, 17, 18, 19, 20, 21] rfl rfl rfl (by decide) rfl rfl rfl (fun H locs hP hD hS => ?_)
          have ef : f_X5_owes sM i1 i2 = f_X5_dueOf sM ((sM 12) i1.toNatClampNeg) i2 := by
            rw [f_X5_owes, if_pos c_1, if_neg c_2, if_neg c_3, if_neg c_4]
          exact k_reti hx hb hr hK hP hD hS hlocks dX5_owes_70 (by rw [ef])
        ·
          refine lv_iconst (v := 0) hx hb dX5_owes_55 (by decide) ?_
          refine lv_goto (tgt := 70) hx hb dX5_owes_56 (by decide) ?_
          have ef : f_X5_owes sM i1 i2 = 0 := by
            rw [f_X5_owes, if_pos c_1, if_neg c_2, if_neg c_3, if_pos c_4]
          exact k_reti hx hb hr hK hP hD hS hlocks dX5_owes_70 (by rw [ef])
      ·
        refine lv_bipush (v := (-3)) hx hb dX5_owes_39 (by decide) ?_
        refine lv_goto (tgt := 70) hx hb dX5_owes_41 (by decide) ?_
        have ef : f_X5_owes sM i1 i2 = -3 := by
          rw [f_X5_owes, if_pos c_1, if_neg c_2, if_pos c_3]
        exact k_reti hx hb hr hK hP hD hS hlocks dX5_owes_70 (by rw [ef])
    ·
      refine lv_bipush (v := (-2)) hx hb dX5_owes_27 (by decide) ?_
      have ef : f_X5_owes sM i1 i2 = -2 := by
        rw [f_X5_owes, if_pos c_1, if_pos c_2]
      exact k_reti hx hb hr hK hP hD hS hlocks dX5_owes_29 (by rw [ef])
  ·
    refine lv_iconst (v := (-1)) hx hb dX5_owes_13 (by decide) ?_
    have ef : f_X5_owes sM i1 i2 = -1 := by
      rw [f_X5_owes, if_neg c_1]
    exact k_reti hx hb hr hK hP hD hS hlocks dX5_owes_14 (by rw [ef])
theorem in_X5_hands_X5 : ∀ w ∈ wsX50, w ∈ wsX5_hands := fun _ h => List.mem_cons_of_mem _ (List.mem_append_right _ h)
def g_X5_hands_lp (sM : Nat → Nat → Int32) (i1 : Int32) (i2 : Int32) : Nat → Nat → Int32 → Int32
  | 0, j, a1 => a1
  | r + 1, j, a1 => if ((sM 1) (nI j).toNatClampNeg) = i1 then (if (f_X5_serves sM (nI j) i2) = 0 then g_X5_hands_lp sM i1 i2 r (j + 1) (a1 + 0)
      else g_X5_hands_lp sM i1 i2 r (j + 1) (a1 + 1))
    else g_X5_hands_lp sM i1 i2 r (j + 1) (a1 + 0)
set_option maxHeartbeats 4000000 in
set_option maxRecDepth 100000 in
theorem lp_X5_hands_lp {p : Program} {l : Launch} {e : Env} {s : State} {m : MethodId} {below : List Frame} {meth : Method} {c : Code} {A : Nat → Prop} {Q : State → Prop} {av : Array Value} (k : K_X) (am : Nat → Nat) (sM : Nat → Nat → Int32) (i1 : Int32) (i2 : Int32) (C0 : k_Cx p s m meth c k cX5_hands (some .int) wsX5_hands RX5 5 av A) (hNs : k_n (sM 0 1) 10) : ∀ (r j : Nat) (a1 : Int32) (H : Heap) (locs : List Loc) (ls : Array Slot), j + r = (sM 0 1).toNatClampNeg → va_P k.1 vwCl (w_M k am sM) H → va_D A (w_M k am sM) → va_S A s.heap H locs → lv_has ls 5 [(0, .ref (am 0)), (1, .int i1), (2, .int i2), (3, .int a1), (4, .int (nI j))] → (∀ (H : Heap) (locs : List Loc) (ls : Array Slot), va_P k.1 vwCl (w_M k am sM) H → va_D A (w_M k am sM) → va_S A s.heap H locs → lv_has ls 5 [(0, .ref (am 0)), (1, .int i1), (2, .int i2), (3, .int (g_X5_hands_lp sM i1 i2 r j a1))] → W p l e (k_rm 1 25) s m av below meth c H locs 0 0 Q (F0 m 93 ls [])) → W p l e (k_rm 1 25) s m av below meth c H locs 0 0 Q (F0 m 49 ls []) := by
  obtain ⟨hx, hb, hr, hts, hown, hlocks, hml, hA, hK⟩ := id C0
  have hq := hNs.2
  intro r
  induction r with
  | zero =>
    intro j a1 H locs ls hj hP hD hS hl hQ
    refine lv_iload hx hb dX5_hands_49 (lv_at hl 4 rfl) ?_
    refine lv_aload_n hx hb dX5_hands_51 rfl (lv_at hl 0 rfl) ?_
    refine va_get (D := k.1) (ci := 5) (v := .int (sM 0 1)) (C := RX5) (T := TX5) (N := 28) hx hb hts in_X5_hands_X5 hown hK hP 0 rfl rfl 1 (by decide) (k_w hts 5 rfl) (fun _ h9 => h9) rfl dX5_hands_52 ?_
    refine lv_icmp_ge (tgt := 93) hx hb dX5_hands_55 (by decide) (fun c_1 => ?_) (fun c_1 => ?_)
    rotate_left
    · exact absurd (hNs.ge (by omega)) c_1
    have eg : g_X5_hands_lp sM i1 i2 0 j a1 = a1 := by
      rw [g_X5_hands_lp]
    rw [eg] at hQ
    exact hQ _ _ _ hP hD hS (lv_sub hl [0, 1, 2, 3] rfl)
  | succ r ih =>
    intro j a1 H locs ls hj hP hD hS hl hQ
    refine lv_iload hx hb dX5_hands_49 (lv_at hl 4 rfl) ?_
    refine lv_aload_n hx hb dX5_hands_51 rfl (lv_at hl 0 rfl) ?_
    refine va_get (D := k.1) (ci := 5) (v := .int (sM 0 1)) (C := RX5) (T := TX5) (N := 28) hx hb hts in_X5_hands_X5 hown hK hP 0 rfl rfl 1 (by decide) (k_w hts 5 rfl) (fun _ h9 => h9) rfl dX5_hands_52 ?_
    refine lv_icmp_ge (tgt := 93) hx hb dX5_hands_55 (by decide) (fun c_1 => ?_) (fun c_1 => ?_)
    · exact absurd c_1 (hNs.nge (by omega))
    refine lv_iload_n hx hb dX5_hands_58 rfl (lv_at hl 3 rfl) ?_
    refine lv_aload_n hx hb dX5_hands_59 rfl (lv_at hl 0 rfl) ?_
    refine va_get (D := k.1) (ci := 5) (v := .ref (am 1)) (C := RX5) (T := TX5) (N := 28) hx hb hts in_X5_hands_X5 hown hK hP 0 rfl rfl 2 (by decide) (k_w hts 6 rfl) (fun _ h9 => h9) rfl dX5_hands_60 ?_
    refine lv_iload hx hb dX5_hands_63 (lv_at hl 4 rfl) ?_
    refine va_iald (f := sM 1) hx hb hK hP 1 0 rfl rfl (vp_in_nI (by omega) (by omega)) dX5_hands_65 ?_
    refine lv_iload_n hx hb dX5_hands_66 rfl (lv_at hl 1 rfl) ?_
    refine lv_icmp_ne (tgt := 84) hx hb dX5_hands_67 (by decide) (fun c_2 => ?_) (fun c_2 => ?_)
    ·
      refine lv_iconst (v := 0) hx hb dX5_hands_84 (by decide) ?_
      refine lv_iadd hx hb dX5_hands_85 ?_
      refine lv_istore_n (lv' := [(3, .int (a1 + 0)), (0, .ref (am 0)), (1, .int i1), (2, .int i2), (4, .int (nI j))]) hx hb dX5_hands_86 rfl hl (by decide) rfl (fun ls hl => ?_)
      refine lv_iinc (v := nI (j + 1)) (lv' := [(4, .int (nI (j + 1))), (3, .int (a1 + 0)), (0, .ref (am 0)), (1, .int i1), (2, .int i2)]) hx hb dX5_hands_87 hl (k := 4) rfl (nI_1 j) (by decide) rfl (fun ls hl => ?_)
      refine lv_goto (tgt := 49) hx hb dX5_hands_90 (by decide) ?_
      have eg : g_X5_hands_lp sM i1 i2 (r + 1) j a1 = g_X5_hands_lp sM i1 i2 r (j + 1) (a1 + 0) := by
        rw [g_X5_hands_lp, if_neg c_2]
      rw [eg] at hQ
      exact ih (j + 1) (a1 + 0) _ _ _ (by omega) hP hD hS (lv_sub hl [2, 3, 4, 1, 0] rfl) hQ
    ·
      refine lv_aload_n hx hb dX5_hands_70 rfl (lv_at hl 0 rfl) ?_
      refine lv_iload hx hb dX5_hands_71 (lv_at hl 4 rfl) ?_
      refine lv_iload_n hx hb dX5_hands_73 rfl (lv_at hl 2 rfl) ?_
      refine k_Vi (wr := ([] : va_W)) (ws' := w_M k am sM) (Rv := (f_X5_serves sM (nI j) i2)) (rest := [.int a1]) ⟨hx, hb, hml, hown, hts⟩ hK hA hP hD hS (c_X5_serves l k am sM (nI j) i2 (vp_in_nI (by omega) (by omega))) (cwV 2 hts gX5_hands_X5_serves rfl rfl rfl (by decide +kernel) ⟨Nat.le_of_ble_eq_true rfl, Nat.le_of_ble_eq_true rfl⟩) (va_recv hK hP (ci := 5) (q0 := 0) rfl rfl) rfl hl.1 rfl (Nat.le_of_ble_eq_true rfl) dX5_hands_74 (Nat.zero_le _) (Nat.zero_le _) [0, 1, 2, 3, 4, 5, 6, 7, 8, 9, 10, 11, 12, 13, 14, 15, 16, 17, 18, 19, 20, 21] [] [0, 1, 2, 3, 4, 5, 6, 7, 8, 9, 10, 11, 12, 13, 14, 15, 16, 17, 18, 19, 20, 21] rfl rfl rfl (by decide) rfl rfl rfl (fun H locs hP hD hS => ?_)
      refine lv_if_eq (tgt := 84) hx hb dX5_hands_77 (by decide) (fun c_3 => ?_) (fun c_3 => ?_)
      ·
        refine lv_iconst (v := 0) hx hb dX5_hands_84 (by decide) ?_
        refine lv_iadd hx hb dX5_hands_85 ?_
        refine lv_istore_n (lv' := [(3, .int (a1 + 0)), (0, .ref (am 0)), (1, .int i1), (2, .int i2), (4, .int (nI j))]) hx hb dX5_hands_86 rfl hl (by decide) rfl (fun ls hl => ?_)
        refine lv_iinc (v := nI (j + 1)) (lv' := [(4, .int (nI (j + 1))), (3, .int (a1 + 0)), (0, .ref (am 0)), (1, .int i1), (2, .int i2)]) hx hb dX5_hands_87 hl (k := 4) rfl (nI_1 j) (by decide) rfl (fun ls hl => ?_)
        refine lv_goto (tgt := 49) hx hb dX5_hands_90 (by decide) ?_
        have eg : g_X5_hands_lp sM i1 i2 (r + 1) j a1 = g_X5_hands_lp sM i1 i2 r (j + 1) (a1 + 0) := by
          rw [g_X5_hands_lp, if_pos c_2, if_pos c_3]
        rw [eg] at hQ
        exact ih (j + 1) (a1 + 0) _ _ _ (by omega) hP hD hS (lv_sub hl [2, 3, 4, 1, 0] rfl) hQ
      ·
        refine lv_iconst (v := 1) hx hb dX5_hands_80 (by decide) ?_
        refine lv_goto (tgt := 85) hx hb dX5_hands_81 (by decide) ?_
        refine lv_iadd hx hb dX5_hands_85 ?_
        refine lv_istore_n (lv' := [(3, .int (a1 + 1)), (0, .ref (am 0)), (1, .int i1), (2, .int i2), (4, .int (nI j))]) hx hb dX5_hands_86 rfl hl (by decide) rfl (fun ls hl => ?_)
        refine lv_iinc (v := nI (j + 1)) (lv' := [(4, .int (nI (j + 1))), (3, .int (a1 + 1)), (0, .ref (am 0)), (1, .int i1), (2, .int i2)]) hx hb dX5_hands_87 hl (k := 4) rfl (nI_1 j) (by decide) rfl (fun ls hl => ?_)
        refine lv_goto (tgt := 49) hx hb dX5_hands_90 (by decide) ?_
        have eg : g_X5_hands_lp sM i1 i2 (r + 1) j a1 = g_X5_hands_lp sM i1 i2 r (j + 1) (a1 + 1) := by
          rw [g_X5_hands_lp, if_pos c_2, if_neg c_3]
        rw [eg] at hQ
        exact ih (j + 1) (a1 + 1) _ _ _ (by omega) hP hD hS (lv_sub hl [2, 3, 4, 1, 0] rfl) hQ
def f_X5_hands (sM : Nat → Nat → Int32) (i1 : Int32) (i2 : Int32) : Int32 :=
  if (f_X5_in i1.toInt64 0 2) = 0 then -2
  else if (f_X5_in i2.toInt64 0 363) = 0 then -2
  else if (sM 0 6) = (-9) then -3
  else g_X5_hands_lp sM i1 i2 ((sM 0 1).toNatClampNeg) 0 0
set_option maxHeartbeats 4000000 in
set_option maxRecDepth 100000 in
theorem c_X5_hands (l : Launch) (k : K_X) (am : Nat → Nat) (sM : Nat → Nat → Int32) (i1 : Int32) (i2 : Int32) (hT : sM 0 0 = 0) (hNs : k_n (sM 0 1) 10) : k_C l yX5_hands wsX5_hands (k_rm 1 25) k [.ref (am 0), .int i1, .int i2] (w_M k am sM) (k_qI k (f_X5_hands sM i1 i2) (w_M k am sM)) := by
  refine k_mk (cc := cX5_hands) (maxL := 5) (ret := (some .int)) (by decide) rfl (Nat.le_of_ble_eq_true rfl) ?_
  intro p e s m below meth c A ls C0 hP hD hS hl
  obtain ⟨hx, hb, hr, hts, hown, hlocks, hml, hA, hK⟩ := id C0
  have hown : s.vm.findClass RX5 = some m.cls := hown
  have hl : lv_has ls 5 [(0, .ref (am 0)), (1, .int i1), (2, .int i2)] := hl
  refine lv_aload_n hx hb dX5_hands_0 rfl (lv_at hl 0 rfl) ?_
  refine lv_iconst (v := 0) hx hb dX5_hands_1 (by decide) ?_
  refine va_put (D := k.1) (ci := 5) (v := .int 0) (ty := .int) (C := RX5) (T := TX5) (N := 28) hx hb hts in_X5_hands_X5 tyX5 tyX5_ok nmX5 hown hK hP hD hS 0 rfl rfl 0 (by decide) (k_w hts 1 rfl) (fun _ h9 => h9) rfl (by decide +kernel) rfl rfl (Nat.le_of_ble_eq_true rfl) dX5_hands_2 (fun H locs hP hD hS => ?_)
  have hP := k_cP (w_M_s0 k am sM 0) hP
  have hD := k_cD (w_M_s0 k am sM 0) hD
  rw [k_thr hT] at hP hD
  refine lv_iload_n hx hb dX5_hands_5 rfl (lv_at hl 1 rfl) ?_
  refine lv_i2l (v := i1.toInt64) hx hb dX5_hands_6 rfl ?_
  refine lv_lconst (v := 0) hx hb dX5_hands_7 (by decide) ?_
  refine lv_ldc2 hx hb hown (k_w hts 2 rfl) dX5_hands_8 ?_
  refine k_Si (wr := w_M k am sM) (ws' := w_M k am sM) (Rv := (f_X5_in i1.toInt64 0 2)) (rest := []) ⟨hx, hb, hml, hown, hts⟩ hK hA hP hD hS (c_X5_in l k i1.toInt64 0 2) (va_cwS 3 hts gX5_hands_X5_in rfl rfl rfl (by decide +kernel) ⟨Nat.le_of_ble_eq_true rfl, Nat.le_of_ble_eq_true rfl⟩) rfl hl.1 rfl (Nat.le_of_ble_eq_true rfl) dX5_hands_11 (Nat.zero_le _) (Nat.zero_le _) [] [0, 1, 2, 3, 4, 5, 6, 7, 8, 9, 10, 11, 12, 13, 14, 15, 16, 17, 18, 19, 20, 21] [0, 1, 2, 3, 4, 5, 6, 7, 8, 9, 10, 11, 12, 13, 14, 15, 16, 17, 18, 19, 20, 21] rfl rfl rfl (by decide) rfl rfl rfl (fun H locs hP hD hS => ?_)
  refine lv_if_eq (tgt := 29) hx hb dX5_hands_14 (by decide) (fun c_1 => ?_) (fun c_1 => ?_)
  ·
    refine lv_bipush (v := (-2)) hx hb dX5_hands_29 (by decide) ?_
    have ef : f_X5_hands sM i1 i2 = -2 := by
      rw [f_X5_hands, if_pos c_1]
    exact k_reti hx hb hr hK hP hD hS hlocks dX5_hands_31 (by rw [ef])
  ·
    refine lv_iload_n hx hb dX5_hands_17 rfl (lv_at hl 2 rfl) ?_
    refine lv_i2l (v := i2.toInt64) hx hb dX5_hands_18 rfl ?_
    refine lv_lconst (v := 0) hx hb dX5_hands_19 (by decide) ?_
    refine lv_ldc2 hx hb hown (k_w hts 3 rfl) dX5_hands_20 ?_
    refine k_Si (wr := w_M k am sM) (ws' := w_M k am sM) (Rv := (f_X5_in i2.toInt64 0 363)) (rest := []) ⟨hx, hb, hml, hown, hts⟩ hK hA hP hD hS (c_X5_in l k i2.toInt64 0 363) (va_cwS 3 hts gX5_hands_X5_in rfl rfl rfl (by decide +kernel) ⟨Nat.le_of_ble_eq_true rfl, Nat.le_of_ble_eq_true rfl⟩) rfl hl.1 rfl (Nat.le_of_ble_eq_true rfl) dX5_hands_23 (Nat.zero_le _) (Nat.zero_le _) [] [0, 1, 2, 3, 4, 5, 6, 7, 8, 9, 10, 11, 12, 13, 14, 15, 16, 17, 18, 19, 20, 21] [0, 1, 2, 3, 4, 5, 6, 7, 8, 9, 10, 11, 12, 13, 14, 15, 16, 17, 18, 19, 20, 21] rfl rfl rfl (by decide) rfl rfl rfl (fun H locs hP hD hS => ?_)
    refine lv_if_ne (tgt := 32) hx hb dX5_hands_26 (by decide) (fun c_2 => ?_) (fun c_2 => ?_)
    ·
      refine lv_aload_n hx hb dX5_hands_32 rfl (lv_at hl 0 rfl) ?_
      refine va_get (D := k.1) (ci := 5) (v := .int (sM 0 6)) (C := RX5) (T := TX5) (N := 28) hx hb hts in_X5_hands_X5 hown hK hP 0 rfl rfl 19 (by decide) (k_w hts 4 rfl) (fun _ h9 => h9) rfl dX5_hands_33 ?_
      refine lv_bipush (v := (-9)) hx hb dX5_hands_36 (by decide) ?_
      refine lv_icmp_ne (tgt := 44) hx hb dX5_hands_38 (by decide) (fun c_3 => ?_) (fun c_3 => ?_)
      ·
        refine lv_iconst (v := 0) hx hb dX5_hands_44 (by decide) ?_
        refine lv_istore_n (lv' := [(3, .int 0), (0, .ref (am 0)), (1, .int i1), (2, .int i2)]) hx hb dX5_hands_45 rfl hl (by decide) rfl (fun ls hl => ?_)
        refine lv_iconst (v := 0) hx hb dX5_hands_46 (by decide) ?_
        refine lv_istore (lv' := [(4, .int 0), (3, .int 0), (0, .ref (am 0)), (1, .int i1), (2, .int i2)]) hx hb dX5_hands_47 hl (by decide) rfl (fun ls hl => ?_)
        have hl : lv_has ls 5 [(0, .ref (am 0)), (1, .int i1), (2, .int i2), (3, .int 0), (4, .int (nI 0))] := lv_sub hl [2, 3, 4, 1, 0] rfl
        refine lp_X5_hands_lp k am sM i1 i2 C0 (by first | assumption | omega) ((sM 0 1).toNatClampNeg) 0 0 _ _ _ (by omega) hP hD hS hl (fun H locs ls hP hD hS hl => ?_)
        refine lv_iload_n hx hb dX5_hands_93 rfl (lv_at hl 3 rfl) ?_
        have ef : f_X5_hands sM i1 i2 = g_X5_hands_lp sM i1 i2 ((sM 0 1).toNatClampNeg) 0 0 := by
          rw [f_X5_hands, if_neg c_1, if_neg c_2, if_neg c_3]
        exact k_reti hx hb hr hK hP hD hS hlocks dX5_hands_94 (by rw [ef])
      ·
        refine lv_bipush (v := (-3)) hx hb dX5_hands_41 (by decide) ?_
        have ef : f_X5_hands sM i1 i2 = -3 := by
          rw [f_X5_hands, if_neg c_1, if_neg c_2, if_pos c_3]
        exact k_reti hx hb hr hK hP hD hS hlocks dX5_hands_43 (by rw [ef])
    ·
      refine lv_bipush (v := (-2)) hx hb dX5_hands_29 (by decide) ?_
      have ef : f_X5_hands sM i1 i2 = -2 := by
        rw [f_X5_hands, if_neg c_1, if_pos c_2]
      exact k_reti hx hb hr hK hP hD hS hlocks dX5_hands_31 (by rw [ef])
theorem in_X5_total_X5 : ∀ w ∈ wsX50, w ∈ wsX5_total := fun _ h => List.mem_cons_of_mem _ (List.mem_append_right _ h)
def g_X5_total_lp (sM : Nat → Nat → Int32) (i1 : Int32) : Nat → Nat → Int32 → Int32 → Int32 × Int32
  | 0, j, a1, a2 => (a1, a2)
  | r + 1, j, a1, a2 => if ((sM 9) (nI j).toNatClampNeg) = (-9) then g_X5_total_lp sM i1 r (j + 1) (a1 + 0) (a2 + 0)
    else g_X5_total_lp sM i1 r (j + 1) (a1 + 1) (a2 + ((sM 10) (nI j).toNatClampNeg))
set_option maxHeartbeats 4000000 in
set_option maxRecDepth 100000 in
theorem lp_X5_total_lp {p : Program} {l : Launch} {e : Env} {s : State} {m : MethodId} {below : List Frame} {meth : Method} {c : Code} {A : Nat → Prop} {Q : State → Prop} {av : Array Value} (k : K_X) (am : Nat → Nat) (sM : Nat → Nat → Int32) (i1 : Int32) (C0 : k_Cx p s m meth c k cX5_total (some .int) wsX5_total RX5 5 av A) (hNs : k_n (sM 0 1) 10) : ∀ (r j : Nat) (a1 : Int32) (a2 : Int32) (H : Heap) (locs : List Loc) (ls : Array Slot), j + r = (sM 0 1).toNatClampNeg → va_P k.1 vwCl (w_M k am sM) H → va_D A (w_M k am sM) → va_S A s.heap H locs → lv_has ls 5 [(0, .ref (am 0)), (1, .int i1), (2, .int a1), (3, .int a2), (4, .int (nI j))] → (∀ (H : Heap) (locs : List Loc) (ls : Array Slot), va_P k.1 vwCl (w_M k am sM) H → va_D A (w_M k am sM) → va_S A s.heap H locs → lv_has ls 5 [(0, .ref (am 0)), (1, .int i1), (2, .int ((g_X5_total_lp sM i1 r j a1 a2).1)), (3, .int ((g_X5_total_lp sM i1 r j a1 a2).2))] → W p l e (k_rm 0 0) s m av below meth c H locs 0 0 Q (F0 m 73 ls [])) → W p l e (k_rm 0 0) s m av below meth c H locs 0 0 Q (F0 m 12 ls []) := by
  obtain ⟨hx, hb, hr, hts, hown, hlocks, hml, hA, hK⟩ := id C0
  have hq := hNs.2
  intro r
  induction r with
  | zero =>
    intro j a1 a2 H locs ls hj hP hD hS hl hQ
    refine lv_iload hx hb dX5_total_12 (lv_at hl 4 rfl) ?_
    refine lv_aload_n hx hb dX5_total_14 rfl (lv_at hl 0 rfl) ?_
    refine va_get (D := k.1) (ci := 5) (v := .int (sM 0 1)) (C := RX5) (T := TX5) (N := 28) hx hb hts in_X5_total_X5 hown hK hP 0 rfl rfl 1 (by decide) (k_w hts 2 rfl) (fun _ h9 => h9) rfl dX5_total_15 ?_
    refine lv_icmp_ge (tgt := 73) hx hb dX5_total_18 (by decide) (fun c_1 => ?_) (fun c_1 => ?_)
    rotate_left
    · exact absurd (hNs.ge (by omega)) c_1
    have eg : g_X5_total_lp sM i1 0 j a1 a2 = (a1, a2) := by
      rw [g_X5_total_lp]
    rw [eg] at hQ
    exact hQ _ _ _ hP hD hS (lv_sub hl [0, 1, 2, 3] rfl)
  | succ r ih =>
    intro j a1 a2 H locs ls hj hP hD hS hl hQ
    refine lv_iload hx hb dX5_total_12 (lv_at hl 4 rfl) ?_
    refine lv_aload_n hx hb dX5_total_14 rfl (lv_at hl 0 rfl) ?_
    refine va_get (D := k.1) (ci := 5) (v := .int (sM 0 1)) (C := RX5) (T := TX5) (N := 28) hx hb hts in_X5_total_X5 hown hK hP 0 rfl rfl 1 (by decide) (k_w hts 2 rfl) (fun _ h9 => h9) rfl dX5_total_15 ?_
    refine lv_icmp_ge (tgt := 73) hx hb dX5_total_18 (by decide) (fun c_1 => ?_) (fun c_1 => ?_)
    · exact absurd c_1 (hNs.nge (by omega))
    refine lv_iload_n hx hb dX5_total_21 rfl (lv_at hl 2 rfl) ?_
    refine lv_aload_n hx hb dX5_total_22 rfl (lv_at hl 0 rfl) ?_
    refine va_get (D := k.1) (ci := 5) (v := .ref (am 9)) (C := RX5) (T := TX5) (N := 28) hx hb hts in_X5_total_X5 hown hK hP 0 rfl rfl 11 (by decide) (k_w hts 3 rfl) (fun _ h9 => h9) rfl dX5_total_23 ?_
    refine lv_iload hx hb dX5_total_26 (lv_at hl 4 rfl) ?_
    refine va_iald (f := sM 9) hx hb hK hP 9 0 rfl rfl (vp_in_nI (by omega) (by omega)) dX5_total_28 ?_
    refine lv_bipush (v := (-9)) hx hb dX5_total_29 (by decide) ?_
    refine lv_icmp_ne (tgt := 38) hx hb dX5_total_31 (by decide) (fun c_2 => ?_) (fun c_2 => ?_)
    ·
      refine lv_iconst (v := 1) hx hb dX5_total_38 (by decide) ?_
      refine lv_iadd hx hb dX5_total_39 ?_
      refine lv_istore_n (lv' := [(2, .int (a1 + 1)), (0, .ref (am 0)), (1, .int i1), (3, .int a2), (4, .int (nI j))]) hx hb dX5_total_40 rfl hl (by decide) rfl (fun ls hl => ?_)
      refine lv_iload_n hx hb dX5_total_41 rfl (lv_at hl 3 rfl) ?_
      refine lv_aload_n hx hb dX5_total_42 rfl (lv_at hl 1 rfl) ?_
      refine va_get (D := k.1) (ci := 5) (v := .ref (am 9)) (C := RX5) (T := TX5) (N := 28) hx hb hts in_X5_total_X5 hown hK hP 0 rfl rfl 11 (by decide) (k_w hts 3 rfl) (fun _ h9 => h9) rfl dX5_total_43 ?_
      refine lv_iload hx hb dX5_total_46 (lv_at hl 4 rfl) ?_
      refine va_iald (f := sM 9) hx hb hK hP 9 0 rfl rfl (vp_in_nI (by omega) (by omega)) dX5_total_48 ?_
      refine lv_bipush (v := (-9)) hx hb dX5_total_49 (by decide) ?_
      refine lv_icmp_ne (tgt := 58) hx hb dX5_total_51 (by decide) (fun c_3 => ?_) (fun c_3 => ?_)
      rotate_left
      · exact absurd c_3 c_2
      refine lv_aload_n hx hb dX5_total_58 rfl (lv_at hl 1 rfl) ?_
      refine va_get (D := k.1) (ci := 5) (v := .ref (am 10)) (C := RX5) (T := TX5) (N := 28) hx hb hts in_X5_total_X5 hown hK hP 0 rfl rfl 12 (by decide) (k_w hts 4 rfl) (fun _ h9 => h9) rfl dX5_total_59 ?_
      refine lv_iload hx hb dX5_total_62 (lv_at hl 4 rfl) ?_
      refine va_iald (f := sM 10) hx hb hK hP 10 0 rfl rfl (vp_in_nI (by omega) (by omega)) dX5_total_64 ?_
      refine lv_iadd hx hb dX5_total_65 ?_
      refine lv_istore_n (lv' := [(3, .int (a2 + ((sM 10) (nI j).toNatClampNeg))), (2, .int (a1 + 1)), (0, .ref (am 0)), (1, .int i1), (4, .int (nI j))]) hx hb dX5_total_66 rfl hl (by decide) rfl (fun ls hl => ?_)
      refine lv_iinc (v := nI (j + 1)) (lv' := [(4, .int (nI (j + 1))), (3, .int (a2 + ((sM 10) (nI j).toNatClampNeg))), (2, .int (a1 + 1)), (0, .ref (am 0)), (1, .int i1)]) hx hb dX5_total_67 hl (k := 4) rfl (nI_1 j) (by decide) rfl (fun ls hl => ?_)
      refine lv_goto (tgt := 12) hx hb dX5_total_70 (by decide) ?_
      have eg : g_X5_total_lp sM i1 (r + 1) j a1 a2 = g_X5_total_lp sM i1 r (j + 1) (a1 + 1) (a2 + ((sM 10) (nI j).toNatClampNeg)) := by
        rw [g_X5_total_lp, if_neg c_2]
      rw [eg] at hQ
      exact ih (j + 1) (a1 + 1) (a2 + ((sM 10) (nI j).toNatClampNeg)) _ _ _ (by omega) hP hD hS (lv_sub hl [3, 4, 2, 1, 0] rfl) hQ
    ·
      refine lv_iconst (v := 0) hx hb dX5_total_34 (by decide) ?_
      refine lv_goto (tgt := 39) hx hb dX5_total_35 (by decide) ?_
      refine lv_iadd hx hb dX5_total_39 ?_
      refine lv_istore_n (lv' := [(2, .int (a1 + 0)), (0, .ref (am 0)), (1, .int i1), (3, .int a2), (4, .int (nI j))]) hx hb dX5_total_40 rfl hl (by decide) rfl (fun ls hl => ?_)
      refine lv_iload_n hx hb dX5_total_41 rfl (lv_at hl 3 rfl) ?_
      refine lv_aload_n hx hb dX5_total_42 rfl (lv_at hl 1 rfl) ?_
      refine va_get (D := k.1) (ci := 5) (v := .ref (am 9)) (C := RX5) (T := TX5) (N := 28) hx hb hts in_X5_total_X5 hown hK hP 0 rfl rfl 11 (by decide) (k_w hts 3 rfl) (fun _ h9 => h9) rfl dX5_total_43 ?_
      refine lv_iload hx hb dX5_total_46 (lv_at hl 4 rfl) ?_
      refine va_iald (f := sM 9) hx hb hK hP 9 0 rfl rfl (vp_in_nI (by omega) (by omega)) dX5_total_48 ?_
      refine lv_bipush (v := (-9)) hx hb dX5_total_49 (by decide) ?_
      refine lv_icmp_ne (tgt := 58) hx hb dX5_total_51 (by decide) (fun c_4 => ?_) (fun c_4 => ?_)
      · exact absurd c_2 c_4
      refine lv_iconst (v := 0) hx hb dX5_total_54 (by decide) ?_
      refine lv_goto (tgt := 65) hx hb dX5_total_55 (by decide) ?_
      refine lv_iadd hx hb dX5_total_65 ?_
      refine lv_istore_n (lv' := [(3, .int (a2 + 0)), (2, .int (a1 + 0)), (0, .ref (am 0)), (1, .int i1), (4, .int (nI j))]) hx hb dX5_total_66 rfl hl (by decide) rfl (fun ls hl => ?_)
      refine lv_iinc (v := nI (j + 1)) (lv' := [(4, .int (nI (j + 1))), (3, .int (a2 + 0)), (2, .int (a1 + 0)), (0, .ref (am 0)), (1, .int i1)]) hx hb dX5_total_67 hl (k := 4) rfl (nI_1 j) (by decide) rfl (fun ls hl => ?_)
      refine lv_goto (tgt := 12) hx hb dX5_total_70 (by decide) ?_
      have eg : g_X5_total_lp sM i1 (r + 1) j a1 a2 = g_X5_total_lp sM i1 r (j + 1) (a1 + 0) (a2 + 0) := by
        rw [g_X5_total_lp, if_pos c_2]
      rw [eg] at hQ
      exact ih (j + 1) (a1 + 0) (a2 + 0) _ _ _ (by omega) hP hD hS (lv_sub hl [3, 4, 2, 1, 0] rfl) hQ
def f_X5_total (sM : Nat → Nat → Int32) (i1 : Int32) : Int32 :=
  if i1 = 0 then sM 0 1
  else if i1 = 1 then sM 0 2
  else if i1 = 2 then (g_X5_total_lp sM i1 ((sM 0 1).toNatClampNeg) 0 0 0).1
  else if i1 = 3 then sM 0 3
  else if i1 = 4 then sM 0 6
  else if i1 = 5 then (g_X5_total_lp sM i1 ((sM 0 1).toNatClampNeg) 0 0 0).2
  else if i1 = 6 then sM 0 5
  else -2
set_option maxHeartbeats 4000000 in
set_option maxRecDepth 100000 in
theorem c_X5_total (l : Launch) (k : K_X) (am : Nat → Nat) (sM : Nat → Nat → Int32) (i1 : Int32) (hT : sM 0 0 = 0) (hNs : k_n (sM 0 1) 10) : k_C l yX5_total wsX5_total (k_rm 0 0) k [.ref (am 0), .int i1] (w_M k am sM) (k_qI k (f_X5_total sM i1) (w_M k am sM)) := by
  refine k_mk (cc := cX5_total) (maxL := 5) (ret := (some .int)) (by decide) rfl (Nat.le_of_ble_eq_true rfl) ?_
  intro p e s m below meth c A ls C0 hP hD hS hl
  obtain ⟨hx, hb, hr, hts, hown, hlocks, hml, hA, hK⟩ := id C0
  have hown : s.vm.findClass RX5 = some m.cls := hown
  have hl : lv_has ls 5 [(0, .ref (am 0)), (1, .int i1)] := hl
  refine lv_aload_n hx hb dX5_total_0 rfl (lv_at hl 0 rfl) ?_
  refine lv_iconst (v := 0) hx hb dX5_total_1 (by decide) ?_
  refine va_put (D := k.1) (ci := 5) (v := .int 0) (ty := .int) (C := RX5) (T := TX5) (N := 28) hx hb hts in_X5_total_X5 tyX5 tyX5_ok nmX5 hown hK hP hD hS 0 rfl rfl 0 (by decide) (k_w hts 1 rfl) (fun _ h9 => h9) rfl (by decide +kernel) rfl rfl (Nat.le_of_ble_eq_true rfl) dX5_total_2 (fun H locs hP hD hS => ?_)
  have hP := k_cP (w_M_s0 k am sM 0) hP
  have hD := k_cD (w_M_s0 k am sM 0) hD
  rw [k_thr hT] at hP hD
  refine lv_iconst (v := 0) hx hb dX5_total_5 (by decide) ?_
  refine lv_istore_n (lv' := [(2, .int 0), (0, .ref (am 0)), (1, .int i1)]) hx hb dX5_total_6 rfl hl (by decide) rfl (fun ls hl => ?_)
  refine lv_iconst (v := 0) hx hb dX5_total_7 (by decide) ?_
  refine lv_istore_n (lv' := [(3, .int 0), (2, .int 0), (0, .ref (am 0)), (1, .int i1)]) hx hb dX5_total_8 rfl hl (by decide) rfl (fun ls hl => ?_)
  refine lv_iconst (v := 0) hx hb dX5_total_9 (by decide) ?_
  refine lv_istore (lv' := [(4, .int 0), (3, .int 0), (2, .int 0), (0, .ref (am 0)), (1, .int i1)]) hx hb dX5_total_10 hl (by decide) rfl (fun ls hl => ?_)
  have hl : lv_has ls 5 [(0, .ref (am 0)), (1, .int i1), (2, .int 0), (3, .int 0), (4, .int (nI 0))] := lv_sub hl [3, 4, 2, 1, 0] rfl
  refine lp_X5_total_lp k am sM i1 C0 (by first | assumption | omega) ((sM 0 1).toNatClampNeg) 0 0 0 _ _ _ (by omega) hP hD hS hl (fun H locs ls hP hD hS hl => ?_)
  refine lv_iload_n hx hb dX5_total_73 rfl (lv_at hl 1 rfl) ?_
  by_cases c_1 : i1 = 0
  ·
    refine lv_tableIn (off := 42) (tgt := 116) hx hb dX5_total_74 (by rw [c_1]; decide) (by rw [c_1]; decide) (by rw [c_1]; rfl) (by decide) ?_
    refine lv_aload_n hx hb dX5_total_116 rfl (lv_at hl 0 rfl) ?_
    refine va_get (D := k.1) (ci := 5) (v := .int (sM 0 1)) (C := RX5) (T := TX5) (N := 28) hx hb hts in_X5_total_X5 hown hK hP 0 rfl rfl 1 (by decide) (k_w hts 2 rfl) (fun _ h9 => h9) rfl dX5_total_117 ?_
    have ef : f_X5_total sM i1 = sM 0 1 := by
      rw [f_X5_total, if_pos c_1]
    exact k_reti hx hb hr hK hP hD hS hlocks dX5_total_120 (by rw [ef])
  by_cases c_2 : i1 = 1
  ·
    refine lv_tableIn (off := 47) (tgt := 121) hx hb dX5_total_74 (by rw [c_2]; decide) (by rw [c_2]; decide) (by rw [c_2]; rfl) (by decide) ?_
    refine lv_aload_n hx hb dX5_total_121 rfl (lv_at hl 0 rfl) ?_
    refine va_get (D := k.1) (ci := 5) (v := .int (sM 0 2)) (C := RX5) (T := TX5) (N := 28) hx hb hts in_X5_total_X5 hown hK hP 0 rfl rfl 5 (by decide) (k_w hts 5 rfl) (fun _ h9 => h9) rfl dX5_total_122 ?_
    have ef : f_X5_total sM i1 = sM 0 2 := by
      rw [f_X5_total, if_neg c_1, if_pos c_2]
    exact k_reti hx hb hr hK hP hD hS hlocks dX5_total_125 (by rw [ef])
  by_cases c_3 : i1 = 2
  ·
    refine lv_tableIn (off := 52) (tgt := 126) hx hb dX5_total_74 (by rw [c_3]; decide) (by rw [c_3]; decide) (by rw [c_3]; rfl) (by decide) ?_
    refine lv_iload_n hx hb dX5_total_126 rfl (lv_at hl 2 rfl) ?_
    have ef : f_X5_total sM i1 = (g_X5_total_lp sM i1 ((sM 0 1).toNatClampNeg) 0 0 0).1 := by
      rw [f_X5_total, if_neg c_1, if_neg c_2, if_pos c_3]
    exact k_reti hx hb hr hK hP hD hS hlocks dX5_total_127 (by rw [ef])
  by_cases c_4 : i1 = 3
  ·
    refine lv_tableIn (off := 54) (tgt := 128) hx hb dX5_total_74 (by rw [c_4]; decide) (by rw [c_4]; decide) (by rw [c_4]; rfl) (by decide) ?_
    refine lv_aload_n hx hb dX5_total_128 rfl (lv_at hl 0 rfl) ?_
    refine va_get (D := k.1) (ci := 5) (v := .int (sM 0 3)) (C := RX5) (T := TX5) (N := 28) hx hb hts in_X5_total_X5 hown hK hP 0 rfl rfl 15 (by decide) (k_w hts 6 rfl) (fun _ h9 => h9) rfl dX5_total_129 ?_
    have ef : f_X5_total sM i1 = sM 0 3 := by
      rw [f_X5_total, if_neg c_1, if_neg c_2, if_neg c_3, if_pos c_4]
    exact k_reti hx hb hr hK hP hD hS hlocks dX5_total_132 (by rw [ef])
  by_cases c_5 : i1 = 4
  ·
    refine lv_tableIn (off := 59) (tgt := 133) hx hb dX5_total_74 (by rw [c_5]; decide) (by rw [c_5]; decide) (by rw [c_5]; rfl) (by decide) ?_
    refine lv_aload_n hx hb dX5_total_133 rfl (lv_at hl 0 rfl) ?_
    refine va_get (D := k.1) (ci := 5) (v := .int (sM 0 6)) (C := RX5) (T := TX5) (N := 28) hx hb hts in_X5_total_X5 hown hK hP 0 rfl rfl 19 (by decide) (k_w hts 7 rfl) (fun _ h9 => h9) rfl dX5_total_134 ?_
    have ef : f_X5_total sM i1 = sM 0 6 := by
      rw [f_X5_total, if_neg c_1, if_neg c_2, if_neg c_3, if_neg c_4, if_pos c_5]
    exact k_reti hx hb hr hK hP hD hS hlocks dX5_total_137 (by rw [ef])
  by_cases c_6 : i1 = 5
  ·
    refine lv_tableIn (off := 64) (tgt := 138) hx hb dX5_total_74 (by rw [c_6]; decide) (by rw [c_6]; decide) (by rw [c_6]; rfl) (by decide) ?_
    refine lv_iload_n hx hb dX5_total_138 rfl (lv_at hl 3 rfl) ?_
    have ef : f_X5_total sM i1 = (g_X5_total_lp sM i1 ((sM 0 1).toNatClampNeg) 0 0 0).2 := by
      rw [f_X5_total, if_neg c_1, if_neg c_2, if_neg c_3, if_neg c_4, if_neg c_5, if_pos c_6]
    exact k_reti hx hb hr hK hP hD hS hlocks dX5_total_139 (by rw [ef])
  by_cases c_7 : i1 = 6
  ·
    refine lv_tableIn (off := 66) (tgt := 140) hx hb dX5_total_74 (by rw [c_7]; decide) (by rw [c_7]; decide) (by rw [c_7]; rfl) (by decide) ?_
    refine lv_aload_n hx hb dX5_total_140 rfl (lv_at hl 0 rfl) ?_
    refine va_get (D := k.1) (ci := 5) (v := .int (sM 0 5)) (C := RX5) (T := TX5) (N := 28) hx hb hts in_X5_total_X5 hown hK hP 0 rfl rfl 18 (by decide) (k_w hts 8 rfl) (fun _ h9 => h9) rfl dX5_total_141 ?_
    have ef : f_X5_total sM i1 = sM 0 5 := by
      rw [f_X5_total, if_neg c_1, if_neg c_2, if_neg c_3, if_neg c_4, if_neg c_5, if_neg c_6, if_pos c_7]
    exact k_reti hx hb hr hK hP hD hS hlocks dX5_total_144 (by rw [ef])
  refine lv_tableOut (tgt := 145) hx hb dX5_total_74 (by have q0 := lv_neT c_1 (a := 0) (by decide); have q1 := lv_neT c_2 (a := 1) (by decide); have q2 := lv_neT c_3 (a := 2) (by decide); have q3 := lv_neT c_4 (a := 3) (by decide); have q4 := lv_neT c_5 (a := 4) (by decide); have q5 := lv_neT c_6 (a := 5) (by decide); have q6 := lv_neT c_7 (a := 6) (by decide); omega) (by decide) ?_
  refine lv_bipush (v := (-2)) hx hb dX5_total_145 (by decide) ?_
  have ef : f_X5_total sM i1 = -2 := by
    rw [f_X5_total, if_neg c_1, if_neg c_2, if_neg c_3, if_neg c_4, if_neg c_5, if_neg c_6, if_neg c_7]
  exact k_reti hx hb hr hK hP hD hS hlocks dX5_total_147 (by rw [ef])
