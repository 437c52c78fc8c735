theorem in_X4_text_X4 : ∀ w ∈ wsX40, w ∈ wsX4_text := fun _ h => List.mem_cons_of_mem _ (List.mem_append_right _ h)
def f_X4_text (tx : Int32) (i1 : Int32) : Int32 × Int32 :=
  if (f_X4_isWithin i1 0 1) = 0 then ((-2), tx)
  else (tx, i1)
set_option maxHeartbeats 4000000 in
set_option maxRecDepth 100000 in
theorem c_X4_text (l : Launch) (k : K_X) (ax : Nat) (p0 : Nat) (f0 : Nat) (g0 : Nat) (y0 : Nat) (tx : Int32) (i1 : Int32) : k_C l yX4_text wsX4_text (k_rm 1 22) k [.ref ax, .int i1] (w_X ax (p0) (f0) (g0) (y0) tx) (k_qI k ((f_X4_text tx i1).1) (w_X ax (p0) (f0) (g0) (y0) ((f_X4_text tx i1).2))) := by
  refine k_mk (cc := cX4_text) (maxL := 3) (ret := (some .int)) (by decide) rfl (Nat.le_of_ble_eq_true rfl) ?_
  intro p e s m below meth c A ls C0 hP hD hS hl
  obtain ⟨hx, hb, hr, hts, hown, hlocks, hml, hA, hK⟩ := id C0
  have hown : s.vm.findClass RX4 = some m.cls := hown
  have hl : lv_has ls 3 [(0, .ref ax), (1, .int i1)] := hl
  refine lv_iload_n hx hb dX4_text_0 rfl (lv_at hl 1 rfl) ?_
  refine lv_iconst (v := 0) hx hb dX4_text_1 (by decide) ?_
  refine lv_iconst (v := 1) hx hb dX4_text_2 (by decide) ?_
  refine k_Si (wr := w_X ax (p0) (f0) (g0) (y0) tx) (ws' := w_X ax (p0) (f0) (g0) (y0) tx) (Rv := (f_X4_isWithin i1 0 1)) (rest := []) ⟨hx, hb, hml, hown, hts⟩ hK hA hP hD hS (c_X4_isWithin l k i1 0 1) (va_cwS 3 hts gX4_text_X4_isWithin rfl rfl rfl (by decide +kernel) ⟨Nat.le_of_ble_eq_true rfl, Nat.le_of_ble_eq_true rfl⟩) rfl hl.1 rfl (Nat.le_of_ble_eq_true rfl) dX4_text_3 (Nat.zero_le _) (Nat.zero_le _) [] [0] [0] rfl rfl rfl (by decide) rfl rfl rfl (fun H locs hP hD hS => ?_)
  refine lv_if_ne (tgt := 12) hx hb dX4_text_6 (by decide) (fun c_1 => ?_) (fun c_1 => ?_)
  ·
    refine lv_aload_n hx hb dX4_text_12 rfl (lv_at hl 0 rfl) ?_
    refine va_get (D := k.1) (ci := 4) (v := .int tx) (C := RX4) (T := TX4) (N := 5) hx hb hts in_X4_text_X4 hown hK hP 0 rfl rfl 4 (by decide) (k_w hts 1 rfl) (fun _ h9 => h9) rfl dX4_text_13 ?_
    refine lv_istore_n (lv' := [(2, .int tx), (0, .ref ax), (1, .int i1)]) hx hb dX4_text_16 rfl hl (by decide) rfl (fun ls hl => ?_)
    refine lv_aload_n hx hb dX4_text_17 rfl (lv_at hl 1 rfl) ?_
    refine lv_iload_n hx hb dX4_text_18 rfl (lv_at hl 2 rfl) ?_
    refine va_put (D := k.1) (ci := 4) (v := .int i1) (ty := .int) (C := RX4) (T := TX4) (N := 5) hx hb hts in_X4_text_X4 tyX4 tyX4_ok nmX4 hown hK hP hD hS 0 rfl rfl 4 (by decide) (k_w hts 1 rfl) (fun _ h9 => h9) rfl (by decide +kernel) rfl rfl (Nat.le_of_ble_eq_true rfl) dX4_text_19 (fun H locs hP hD hS => ?_)
    have hP := k_cP (w_X_t ax (p0) (f0) (g0) (y0) tx i1) hP
    have hD := k_cD (w_X_t ax (p0) (f0) (g0) (y0) tx i1) hD
    refine lv_iload_n hx hb dX4_text_22 rfl (lv_at hl 0 rfl) ?_
    have ef : f_X4_text tx i1 = (tx, i1) := by
      rw [f_X4_text, if_neg c_1]
    exact k_reti hx hb hr hK (by rw [ef]; exact hP) (by rw [ef]; exact hD) hS hlocks dX4_text_23 (by rw [ef])
  ·
    refine lv_bipush (v := (-2)) hx hb dX4_text_9 (by decide) ?_
    have ef : f_X4_text tx i1 = ((-2), tx) := by
      rw [f_X4_text, if_pos c_1]
    exact k_reti hx hb hr hK (by rw [ef]; exact hP) (by rw [ef]; exact hD) hS hlocks dX4_text_11 (by rw [ef])
theorem in_X4_days_X4 : ∀ w ∈ wsX40, w ∈ wsX4_days := fun _ h => List.mem_cons_of_mem _ (List.mem_append_left _ (List.mem_append_right _ h))
theorem in_X4_days_X3 : ∀ w ∈ wsX30, w ∈ wsX4_days := fun _ h => List.mem_cons_of_mem _ (List.mem_append_right _ h)
def f_X4_days (tx : Int32) (sY : Nat → Nat → Int32) (sJ : Nat → Int64) (i1 : Int32) : Int32 × (Nat → Nat → Int32) :=
  if (f_X4_isWithin i1 1 363) = 0 then ((-2), sY)
  else if (f_X3_hasBegun sY sJ) = 0 then ((-3), sY)
  else if ((sY 0 0) + i1) ≤ 363 then (((sY 0 0) + i1), k_st sY 0 (k_st (sY 0) 0 ((sY 0 0) + i1)))
  else ((-4), sY)
set_option maxHeartbeats 4000000 in
set_option maxRecDepth 100000 in
theorem c_X4_days (l : Launch) (k : K_X) (ax : Nat) (ay : Nat → Nat) (f0 : Nat) (p0 : Nat) (g0 : Nat) (tx : Int32) (sY : Nat → Nat → Int32) (sJ : Nat → Int64) (i1 : Int32) : k_C l yX4_days wsX4_days (k_rm 1 22) k [.ref ax, .int i1] ((w_X ax (p0) (f0) (g0) (ay 0) tx) ++ (w_Y k ay (f0) sY sJ)) (k_qI k ((f_X4_days tx sY sJ i1).1) ((w_X ax (p0) (f0) (g0) (ay 0) tx) ++ (w_Y k ay (f0) ((f_X4_days tx sY sJ i1).2) sJ))) := by
  refine k_mk (cc := cX4_days) (maxL := 2) (ret := (some .int)) (by decide) rfl (Nat.le_of_ble_eq_true rfl) ?_
  intro p e s m below meth c A ls C0 hP hD hS hl
  obtain ⟨hx, hb, hr, hts, hown, hlocks, hml, hA, hK⟩ := id C0
  have hown : s.vm.findClass RX4 = some m.cls := hown
  have hl : lv_has ls 2 [(0, .ref ax), (1, .int i1)] := hl
  refine lv_iload_n hx hb dX4_days_0 rfl (lv_at hl 1 rfl) ?_
  refine lv_iconst (v := 1) hx hb dX4_days_1 (by decide) ?_
  refine lv_sipush (v := 363) hx hb dX4_days_2 (by decide) ?_
  refine k_Si (wr := (w_X ax (p0) (f0) (g0) (ay 0) tx) ++ (w_Y k ay (f0) sY sJ)) (ws' := (w_X ax (p0) (f0) (g0) (ay 0) tx) ++ (w_Y k ay (f0) sY sJ)) (Rv := (f_X4_isWithin i1 1 363)) (rest := []) ⟨hx, hb, hml, hown, hts⟩ hK hA hP hD hS (c_X4_isWithin l k i1 1 363) (va_cwS 3 hts gX4_days_X4_isWithin rfl rfl rfl (by decide +kernel) ⟨Nat.le_of_ble_eq_true rfl, Nat.le_of_ble_eq_true rfl⟩) rfl hl.1 rfl (Nat.le_of_ble_eq_true rfl) dX4_days_5 (Nat.zero_le _) (Nat.zero_le _) [] [0, 1, 2, 3, 4, 5] [0, 1, 2, 3, 4, 5] rfl rfl rfl (by decide) rfl rfl rfl (fun H locs hP hD hS => ?_)
  refine lv_if_ne (tgt := 14) hx hb dX4_days_8 (by decide) (fun c_1 => ?_) (fun c_1 => ?_)
  ·
    refine lv_aload_n hx hb dX4_days_14 rfl (lv_at hl 0 rfl) ?_
    refine va_get (D := k.1) (ci := 4) (v := .ref (ay 0)) (C := RX4) (T := TX4) (N := 5) hx hb hts in_X4_days_X4 hown hK hP 0 rfl rfl 3 (by decide) (k_w hts 1 rfl) (fun _ h9 => h9) rfl dX4_days_15 ?_
    refine k_Vi (wr := w_X ax (p0) (f0) (g0) (ay 0) tx) (ws' := (w_X ax (p0) (f0) (g0) (ay 0) tx) ++ (w_Y k ay (f0) sY sJ)) (Rv := (f_X3_hasBegun sY sJ)) (rest := []) ⟨hx, hb, hml, hown, hts⟩ hK hA hP hD hS (c_X3_hasBegun l k ay (f0) sY sJ) (cwV 0 hts gX4_days_X3_hasBegun rfl rfl rfl (by decide +kernel) ⟨Nat.le_of_ble_eq_true rfl, Nat.le_of_ble_eq_true rfl⟩) (va_recv hK hP (ci := 3) (q0 := 1) rfl rfl) rfl hl.1 rfl (Nat.le_of_ble_eq_true rfl) dX4_days_18 (Nat.zero_le _) (Nat.zero_le _) [1, 2, 3, 4, 5] [0] [0, 1, 2, 3, 4, 5] rfl rfl rfl (by decide) rfl rfl rfl (fun H locs hP hD hS => ?_)
    refine lv_if_ne (tgt := 27) hx hb dX4_days_21 (by decide) (fun c_2 => ?_) (fun c_2 => ?_)
    ·
      refine lv_aload_n hx hb dX4_days_27 rfl (lv_at hl 0 rfl) ?_
      refine va_get (D := k.1) (ci := 4) (v := .ref (ay 0)) (C := RX4) (T := TX4) (N := 5) hx hb hts in_X4_days_X4 hown hK hP 0 rfl rfl 3 (by decide) (k_w hts 1 rfl) (fun _ h9 => h9) rfl dX4_days_28 ?_
      refine va_get (D := k.1) (ci := 3) (v := .int (sY 0 0)) (C := RX3) (T := TX3) (N := 6) hx hb hts in_X4_days_X3 hown hK hP 1 rfl rfl 1 (by decide) (k_w hts 2 rfl) (fun _ h9 => h9) rfl dX4_days_31 ?_
      refine lv_iload_n hx hb dX4_days_34 rfl (lv_at hl 1 rfl) ?_
      refine lv_iadd hx hb dX4_days_35 ?_
      refine lv_sipush (v := 363) hx hb dX4_days_36 (by decide) ?_
      refine lv_icmp_le (tgt := 45) hx hb dX4_days_39 (by decide) (fun c_3 => ?_) (fun c_3 => ?_)
      ·
        refine lv_aload_n hx hb dX4_days_45 rfl (lv_at hl 0 rfl) ?_
        refine va_get (D := k.1) (ci := 4) (v := .ref (ay 0)) (C := RX4) (T := TX4) (N := 5) hx hb hts in_X4_days_X4 hown hK hP 0 rfl rfl 3 (by decide) (k_w hts 1 rfl) (fun _ h9 => h9) rfl dX4_days_46 ?_
        refine lv_dup hx hb dX4_days_49 rfl ?_
        refine va_get (D := k.1) (ci := 3) (v := .int (sY 0 0)) (C := RX3) (T := TX3) (N := 6) hx hb hts in_X4_days_X3 hown hK hP 1 rfl rfl 1 (by decide) (k_w hts 2 rfl) (fun _ h9 => h9) rfl dX4_days_50 ?_
        refine lv_iload_n hx hb dX4_days_53 rfl (lv_at hl 1 rfl) ?_
        refine lv_iadd hx hb dX4_days_54 ?_
        refine va_put (D := k.1) (ci := 3) (v := .int ((sY 0 0) + i1)) (ty := .int) (C := RX3) (T := TX3) (N := 6) hx hb hts in_X4_days_X3 tyX3 tyX3_ok nmX3 hown hK hP hD hS 1 rfl rfl 1 (by decide) (k_w hts 2 rfl) (fun _ h9 => h9) rfl (by decide +kernel) rfl rfl (Nat.le_of_ble_eq_true rfl) dX4_days_55 (fun H locs hP hD hS => ?_)
        have hP := k_cP (k_sr (w_Y_s0 k ay (f0) sY sJ ((sY 0 0) + i1))) hP
        have hD := k_cD (k_sr (w_Y_s0 k ay (f0) sY sJ ((sY 0 0) + i1))) hD
        refine lv_aload_n hx hb dX4_days_58 rfl (lv_at hl 0 rfl) ?_
        refine va_get (D := k.1) (ci := 4) (v := .ref (ay 0)) (C := RX4) (T := TX4) (N := 5) hx hb hts in_X4_days_X4 hown hK hP 0 rfl rfl 3 (by decide) (k_w hts 1 rfl) (fun _ h9 => h9) rfl dX4_days_59 ?_
        refine va_get (D := k.1) (ci := 3) (v := .int ((sY 0 0) + i1)) (C := RX3) (T := TX3) (N := 6) hx hb hts in_X4_days_X3 hown hK hP 1 rfl rfl 1 (by decide) (k_w hts 2 rfl) (fun _ h9 => h9) rfl dX4_days_62 ?_
        have ef : f_X4_days tx sY sJ i1 = (((sY 0 0) + i1), k_st sY 0 (k_st (sY 0) 0 ((sY 0 0) + i1))) := by
          rw [f_X4_days, if_neg c_1, if_neg c_2, if_pos c_3]
        exact k_reti hx hb hr hK (by rw [ef]; exact hP) (by rw [ef]; exact hD) hS hlocks dX4_days_65 (by rw [ef])
      ·
        refine lv_bipush (v := (-4)) hx hb dX4_days_42 (by decide) ?_
        have ef : f_X4_days tx sY sJ i1 = ((-4), sY) := by
          rw [f_X4_days, if_neg c_1, if_neg c_2, if_neg c_3]
        exact k_reti hx hb hr hK (by rw [ef]; exact hP) (by rw [ef]; exact hD) hS hlocks dX4_days_44 (by rw [ef])
    ·
      refine lv_bipush (v := (-3)) hx hb dX4_days_24 (by decide) ?_
      have ef : f_X4_days tx sY sJ i1 = ((-3), sY) := by
        rw [f_X4_days, if_neg c_1, if_pos c_2]
      exact k_reti hx hb hr hK (by rw [ef]; exact hP) (by rw [ef]; exact hD) hS hlocks dX4_days_26 (by rw [ef])
  ·
    refine lv_bipush (v := (-2)) hx hb dX4_days_11 (by decide) ?_
    have ef : f_X4_days tx sY sJ i1 = ((-2), sY) := by
      rw [f_X4_days, if_pos c_1]
    exact k_reti hx hb hr hK (by rw [ef]; exact hP) (by rw [ef]; exact hD) hS hlocks dX4_days_13 (by rw [ef])
theorem in_X4_sick_X4 : ∀ w ∈ wsX40, w ∈ wsX4_sick := fun _ h => List.mem_cons_of_mem _ (List.mem_append_left _ (List.mem_append_left _ (List.mem_append_left _ (List.mem_append_right _ h))))
theorem in_X4_sick_X2 : ∀ w ∈ wsX20, w ∈ wsX4_sick := fun _ h => List.mem_cons_of_mem _ (List.mem_append_left _ (List.mem_append_left _ (List.mem_append_right _ h)))
theorem in_X4_sick_X3 : ∀ w ∈ wsX30, w ∈ wsX4_sick := fun _ h => List.mem_cons_of_mem _ (List.mem_append_left _ (List.mem_append_right _ h))
theorem in_X4_sick_X0 : ∀ w ∈ wsX00, w ∈ wsX4_sick := fun _ h => List.mem_cons_of_mem _ (List.mem_append_right _ h)
def f_X4_sick (tx : Int32) (sP : Nat → Nat → Int32) (sF : Nat → Nat → Int32) (sY : Nat → Nat → Int32) (sJ : Nat → Int64) (i1 : Int32) (i2 : Int32) : Int32 × (Nat → Int64) :=
  if (f_X2_hasServant sP i1) = 0 then ((-1), sJ)
  else if (f_X4_isWithin i2 1 363) = 0 then ((-2), sJ)
  else if (f_X3_servesNow sF sY sJ i1) = 0 then ((-3), sJ)
  else ((f_X3_countSick sY ((f_X3_fallSick sY sJ i1 i2)) i1 363), ((f_X3_fallSick sY sJ i1 i2)))
set_option maxHeartbeats 4000000 in
set_option maxRecDepth 100000 in
theorem c_X4_sick (l : Launch) (k : K_X) (ax : Nat) (ap : Nat → Nat) (af : Nat → Nat) (ay : Nat → Nat) (l0 : Nat) (g0 : Nat) (tx : Int32) (sP : Nat → Nat → Int32) (sF : Nat → Nat → Int32) (sY : Nat → Nat → Int32) (sJ : Nat → Int64) (i1 : Int32) (i2 : Int32) (hNs : k_n (sP 0 0) 10) (hdy : sY 0 0 = -9 ∨ k_n (sY 0 0) 363) : k_C l yX4_sick wsX4_sick (k_rm 3 64) k [.ref ax, .int i1, .int i2] ((w_X ax (ap 0) (af 0) (g0) (ay 0) tx) ++ (w_P k ap sP) ++ (w_F k af (ap 0) (l0) sF) ++ (w_Y k ay (af 0) sY sJ)) (k_qI k ((f_X4_sick tx sP sF sY sJ i1 i2).1) ((w_X ax (ap 0) (af 0) (g0) (ay 0) tx) ++ (w_P k ap sP) ++ (w_F k af (ap 0) (l0) sF) ++ (w_Y k ay (af 0) sY ((f_X4_sick tx sP sF sY sJ i1 i2).2)))) := by
  refine k_mk (cc := cX4_sick) (maxL := 3) (ret := (some .int)) (by decide) rfl (Nat.le_of_ble_eq_true rfl) ?_
  intro p e s m below meth c A ls C0 hP hD hS hl
  obtain ⟨hx, hb, hr, hts, hown, hlocks, hml, hA, hK⟩ := id C0
  have hown : s.vm.findClass RX4 = some m.cls := hown
  have hl : lv_has ls 3 [(0, .ref ax), (1, .int i1), (2, .int i2)] := hl
  refine lv_aload_n hx hb dX4_sick_0 rfl (lv_at hl 0 rfl) ?_
  refine va_get (D := k.1) (ci := 4) (v := .ref (ap 0)) (C := RX4) (T := TX4) (N := 5) hx hb hts in_X4_sick_X4 hown hK hP 0 rfl rfl 0 (by decide) (k_w hts 1 rfl) (fun _ h9 => h9) rfl dX4_sick_1 ?_
  refine lv_iload_n hx hb dX4_sick_4 rfl (lv_at hl 1 rfl) ?_
  refine k_Vi (wr := (w_X ax (ap 0) (af 0) (g0) (ay 0) tx) ++ (w_F k af (ap 0) (l0) sF) ++ (w_Y k ay (af 0) sY sJ)) (ws' := (w_X ax (ap 0) (af 0) (g0) (ay 0) tx) ++ (w_P k ap sP) ++ (w_F k af (ap 0) (l0) sF) ++ (w_Y k ay (af 0) sY sJ)) (Rv := (f_X2_hasServant sP i1)) (rest := []) ⟨hx, hb, hml, hown, hts⟩ hK hA hP hD hS (c_X2_hasServant l k ap sP i1) (cwV 1 hts gX4_sick_X2_hasServant rfl rfl rfl (by decide +kernel) ⟨Nat.le_of_ble_eq_true rfl, Nat.le_of_ble_eq_true rfl⟩) (va_recv hK hP (ci := 2) (q0 := 1) rfl rfl) rfl hl.1 rfl (Nat.le_of_ble_eq_true rfl) dX4_sick_5 (Nat.zero_le _) (Nat.zero_le _) [1, 2, 3, 4, 5, 6, 7, 8, 9, 10, 11, 12, 13, 14, 15, 16, 17, 18] [0, 19, 20, 21, 22, 23, 24, 25, 26, 27, 28, 29] [0, 12, 13, 14, 15, 16, 17, 18, 19, 20, 21, 22, 23, 24, 25, 26, 27, 28, 29, 1, 2, 3, 4, 5, 6, 7, 8, 9, 10, 11] rfl rfl rfl (by decide) rfl rfl rfl (fun H locs hP hD hS => ?_)
  refine lv_if_ne (tgt := 13) hx hb dX4_sick_8 (by decide) (fun c_1 => ?_) (fun c_1 => ?_)
  ·
    refine lv_iload_n hx hb dX4_sick_13 rfl (lv_at hl 2 rfl) ?_
    refine lv_iconst (v := 1) hx hb dX4_sick_14 (by decide) ?_
    refine lv_sipush (v := 363) hx hb dX4_sick_15 (by decide) ?_
    refine k_Si (wr := (w_X ax (ap 0) (af 0) (g0) (ay 0) tx) ++ (w_P k ap sP) ++ (w_F k af (ap 0) (l0) sF) ++ (w_Y k ay (af 0) sY sJ)) (ws' := (w_X ax (ap 0) (af 0) (g0) (ay 0) tx) ++ (w_P k ap sP) ++ (w_F k af (ap 0) (l0) sF) ++ (w_Y k ay (af 0) sY sJ)) (Rv := (f_X4_isWithin i2 1 363)) (rest := []) ⟨hx, hb, hml, hown, hts⟩ hK hA hP hD hS (c_X4_isWithin l k i2 1 363) (va_cwS 3 hts gX4_sick_X4_isWithin rfl rfl rfl (by decide +kernel) ⟨Nat.le_of_ble_eq_true rfl, Nat.le_of_ble_eq_true rfl⟩) rfl hl.1 rfl (Nat.le_of_ble_eq_true rfl) dX4_sick_18 (Nat.zero_le _) (Nat.zero_le _) [] [0, 1, 2, 3, 4, 5, 6, 7, 8, 9, 10, 11, 12, 13, 14, 15, 16, 17, 18, 19, 20, 21, 22, 23, 24, 25, 26, 27, 28, 29] [0, 1, 2, 3, 4, 5, 6, 7, 8, 9, 10, 11, 12, 13, 14, 15, 16, 17, 18, 19, 20, 21, 22, 23, 24, 25, 26, 27, 28, 29] rfl rfl rfl (by decide) rfl rfl rfl (fun H locs hP hD hS => ?_)
    refine lv_if_ne (tgt := 27) hx hb dX4_sick_21 (by decide) (fun c_2 => ?_) (fun c_2 => ?_)
    ·
      refine lv_aload_n hx hb dX4_sick_27 rfl (lv_at hl 0 rfl) ?_
      refine va_get (D := k.1) (ci := 4) (v := .ref (ay 0)) (C := RX4) (T := TX4) (N := 5) hx hb hts in_X4_sick_X4 hown hK hP 0 rfl rfl 3 (by decide) (k_w hts 2 rfl) (fun _ h9 => h9) rfl dX4_sick_28 ?_
      refine lv_iload_n hx hb dX4_sick_31 rfl (lv_at hl 1 rfl) ?_
      refine k_Vi (wr := (w_X ax (ap 0) (af 0) (g0) (ay 0) tx) ++ (w_P k ap sP)) (ws' := (w_X ax (ap 0) (af 0) (g0) (ay 0) tx) ++ (w_P k ap sP) ++ (w_F k af (ap 0) (l0) sF) ++ (w_Y k ay (af 0) sY sJ)) (Rv := (f_X3_servesNow sF sY sJ i1)) (rest := []) ⟨hx, hb, hml, hown, hts⟩ hK hA hP hD hS (c_X3_servesNow l k af ay (ap 0) (l0) sF sY sJ i1 (by first | assumption | exact k_hs hNs (by assumption) | exact k_hm hNm (by assumption) | exact (k_hb hNs hNm (by assumption)).1 | exact (k_hb hNs hNm (by assumption)).2)) (cwV 1 hts gX4_sick_X3_servesNow rfl rfl rfl (by decide +kernel) ⟨Nat.le_of_ble_eq_true rfl, Nat.le_of_ble_eq_true rfl⟩) (va_recv hK hP (ci := 3) (q0 := 25) rfl rfl) rfl hl.1 rfl (Nat.le_of_ble_eq_true rfl) dX4_sick_32 (Nat.zero_le _) (Nat.zero_le _) [19, 20, 21, 22, 23, 24, 25, 26, 27, 28, 29] [0, 1, 2, 3, 4, 5, 6, 7, 8, 9, 10, 11, 12, 13, 14, 15, 16, 17, 18] [0, 1, 2, 3, 4, 5, 6, 7, 8, 9, 10, 11, 12, 13, 14, 15, 16, 17, 18, 19, 20, 21, 22, 23, 24, 25, 26, 27, 28, 29] rfl rfl rfl (by decide) rfl rfl rfl (fun H locs hP hD hS => ?_)
      refine lv_if_ne (tgt := 41) hx hb dX4_sick_35 (by decide) (fun c_3 => ?_) (fun c_3 => ?_)
      ·
        refine lv_aload_n hx hb dX4_sick_41 rfl (lv_at hl 0 rfl) ?_
        refine va_get (D := k.1) (ci := 4) (v := .ref (ay 0)) (C := RX4) (T := TX4) (N := 5) hx hb hts in_X4_sick_X4 hown hK hP 0 rfl rfl 3 (by decide) (k_w hts 2 rfl) (fun _ h9 => h9) rfl dX4_sick_42 ?_
        refine lv_iload_n hx hb dX4_sick_45 rfl (lv_at hl 1 rfl) ?_
        refine lv_iload_n hx hb dX4_sick_46 rfl (lv_at hl 2 rfl) ?_
        refine k_Vv (wr := (w_X ax (ap 0) (af 0) (g0) (ay 0) tx) ++ (w_P k ap sP) ++ (w_F k af (ap 0) (l0) sF)) (ws' := (w_X ax (ap 0) (af 0) (g0) (ay 0) tx) ++ (w_P k ap sP) ++ (w_F k af (ap 0) (l0) sF) ++ (w_Y k ay (af 0) sY (f_X3_fallSick sY sJ i1 i2))) (rest := []) ⟨hx, hb, hml, hown, hts⟩ hK hA hP hD hS (c_X3_fallSick l k ay (af 0) sY sJ i1 i2 (by first | assumption | exact k_hs hNs (by assumption) | exact k_hm hNm (by assumption) | exact (k_hb hNs hNm (by assumption)).1 | exact (k_hb hNs hNm (by assumption)).2) (k_sv hdy (by assumption)) ((k_iw (a := 1) (b := 363) rfl rfl (by decide) (by decide) (by assumption)).1) ((k_iw (a := 1) (b := 363) rfl rfl (by decide) (by decide) (by assumption)).2)) (cwV 2 hts gX4_sick_X3_fallSick rfl rfl rfl (by decide +kernel) ⟨Nat.le_of_ble_eq_true rfl, Nat.le_of_ble_eq_true rfl⟩) (va_recv hK hP (ci := 3) (q0 := 25) rfl rfl) rfl hl.1 rfl (Nat.le_of_ble_eq_true rfl) dX4_sick_47 (Nat.zero_le _) (Nat.zero_le _) [25, 26, 27, 28, 29] [0, 1, 2, 3, 4, 5, 6, 7, 8, 9, 10, 11, 12, 13, 14, 15, 16, 17, 18, 19, 20, 21, 22, 23, 24] [0, 1, 2, 3, 4, 5, 6, 7, 8, 9, 10, 11, 12, 13, 14, 15, 16, 17, 18, 19, 20, 21, 22, 23, 24, 25, 26, 27, 28, 29] rfl rfl rfl (by decide) rfl rfl rfl (fun H locs hP hD hS => ?_)
        obtain ⟨z_4, ez_4⟩ : ∃ z, z = f_X3_fallSick sY sJ i1 i2 := ⟨_, rfl⟩
        rw [← ez_4] at hP hD
        refine lv_aload_n hx hb dX4_sick_50 rfl (lv_at hl 0 rfl) ?_
        refine va_get (D := k.1) (ci := 4) (v := .ref (ay 0)) (C := RX4) (T := TX4) (N := 5) hx hb hts in_X4_sick_X4 hown hK hP 0 rfl rfl 3 (by decide) (k_w hts 2 rfl) (fun _ h9 => h9) rfl dX4_sick_51 ?_
        refine lv_iload_n hx hb dX4_sick_54 rfl (lv_at hl 1 rfl) ?_
        refine lv_sipush (v := 363) hx hb dX4_sick_55 (by decide) ?_
        refine k_Vi (wr := (w_X ax (ap 0) (af 0) (g0) (ay 0) tx) ++ (w_P k ap sP) ++ (w_F k af (ap 0) (l0) sF)) (ws' := (w_X ax (ap 0) (af 0) (g0) (ay 0) tx) ++ (w_P k ap sP) ++ (w_F k af (ap 0) (l0) sF) ++ (w_Y k ay (af 0) sY (z_4))) (Rv := (f_X3_countSick sY (z_4) i1 363)) (rest := []) ⟨hx, hb, hml, hown, hts⟩ hK hA hP hD hS (c_X3_countSick l k ay (af 0) sY (z_4) i1 363 (by first | assumption | exact k_hs hNs (by assumption) | exact k_hm hNm (by assumption) | exact (k_hb hNs hNm (by assumption)).1 | exact (k_hb hNs hNm (by assumption)).2) (k_n.mk (j := 364) (b := 364) (by omega))) (cwV 2 hts gX4_sick_X3_countSick rfl rfl rfl (by decide +kernel) ⟨Nat.le_of_ble_eq_true rfl, Nat.le_of_ble_eq_true rfl⟩) (va_recv hK hP (ci := 3) (q0 := 25) rfl rfl) rfl hl.1 rfl (Nat.le_of_ble_eq_true rfl) dX4_sick_58 (Nat.zero_le _) (Nat.zero_le _) [25, 26, 27, 28, 29] [0, 1, 2, 3, 4, 5, 6, 7, 8, 9, 10, 11, 12, 13, 14, 15, 16, 17, 18, 19, 20, 21, 22, 23, 24] [0, 1, 2, 3, 4, 5, 6, 7, 8, 9, 10, 11, 12, 13, 14, 15, 16, 17, 18, 19, 20, 21, 22, 23, 24, 25, 26, 27, 28, 29] rfl rfl rfl (by decide) rfl rfl rfl (fun H locs hP hD hS => ?_)
        have ef : f_X4_sick tx sP sF sY sJ i1 i2 = ((f_X3_countSick sY (z_4) i1 363), (z_4)) := by
          rw [f_X4_sick, ← ez_4, if_neg c_1, if_neg c_2, if_neg c_3]
        exact k_reti hx hb hr hK (by rw [ef]; exact hP) (by rw [ef]; exact hD) hS hlocks dX4_sick_61 (by rw [ef])
      ·
        refine lv_bipush (v := (-3)) hx hb dX4_sick_38 (by decide) ?_
        have ef : f_X4_sick tx sP sF sY sJ i1 i2 = ((-3), sJ) := by
          rw [f_X4_sick, if_neg c_1, if_neg c_2, if_pos c_3]
        exact k_reti hx hb hr hK (by rw [ef]; exact hP) (by rw [ef]; exact hD) hS hlocks dX4_sick_40 (by rw [ef])
    ·
      refine lv_bipush (v := (-2)) hx hb dX4_sick_24 (by decide) ?_
      have ef : f_X4_sick tx sP sF sY sJ i1 i2 = ((-2), sJ) := by
        rw [f_X4_sick, if_neg c_1, if_pos c_2]
      exact k_reti hx hb hr hK (by rw [ef]; exact hP) (by rw [ef]; exact hD) hS hlocks dX4_sick_26 (by rw [ef])
  ·
    refine lv_iconst (v := (-1)) hx hb dX4_sick_11 (by decide) ?_
    have ef : f_X4_sick tx sP sF sY sJ i1 i2 = ((-1), sJ) := by
      rw [f_X4_sick, if_pos c_1]
    exact k_reti hx hb hr hK (by rw [ef]; exact hP) (by rw [ef]; exact hD) hS hlocks dX4_sick_12 (by rw [ef])
theorem in_X4_warn_X4 : ∀ w ∈ wsX40, w ∈ wsX4_warn := fun _ h => List.mem_cons_of_mem _ (List.mem_append_left _ (List.mem_append_left _ (List.mem_append_left _ (List.mem_append_right _ h))))
theorem in_X4_warn_X3 : ∀ w ∈ wsX30, w ∈ wsX4_warn := fun _ h => List.mem_cons_of_mem _ (List.mem_append_left _ (List.mem_append_left _ (List.mem_append_right _ h)))
theorem in_X4_warn_X2 : ∀ w ∈ wsX20, w ∈ wsX4_warn := fun _ h => List.mem_cons_of_mem _ (List.mem_append_left _ (List.mem_append_right _ h))
theorem in_X4_warn_X0 : ∀ w ∈ wsX00, w ∈ wsX4_warn := fun _ h => List.mem_cons_of_mem _ (List.mem_append_right _ h)
def f_X4_warn (tx : Int32) (sP : Nat → Nat → Int32) (sF : Nat → Nat → Int32) (sY : Nat → Nat → Int32) (sJ : Nat → Int64) (i1 : Int32) : Int32 × (Nat → Nat → Int32) :=
  if (f_X2_hasServant sP i1) = 0 then ((-1), sY)
  else if (f_X3_servesNow sF sY sJ i1) = 0 then ((-3), sY)
  else if ((sY 2) i1.toNatClampNeg) = 0 then ((((f_X3_giveWarning sY sJ i1)).1), (((f_X3_giveWarning sY sJ i1)).2))
  else ((-3), sY)
set_option maxHeartbeats 4000000 in
set_option maxRecDepth 100000 in
theorem c_X4_warn (l : Launch) (k : K_X) (ax : Nat) (ap : Nat → Nat) (af : Nat → Nat) (ay : Nat → Nat) (l0 : Nat) (g0 : Nat) (tx : Int32) (sP : Nat → Nat → Int32) (sF : Nat → Nat → Int32) (sY : Nat → Nat → Int32) (sJ : Nat → Int64) (i1 : Int32) (hNs : k_n (sP 0 0) 10) : k_C l yX4_warn wsX4_warn (k_rm 3 64) k [.ref ax, .int i1] ((w_X ax (ap 0) (af 0) (g0) (ay 0) tx) ++ (w_P k ap sP) ++ (w_F k af (ap 0) (l0) sF) ++ (w_Y k ay (af 0) sY sJ)) (k_qI k ((f_X4_warn tx sP sF sY sJ i1).1) ((w_X ax (ap 0) (af 0) (g0) (ay 0) tx) ++ (w_P k ap sP) ++ (w_F k af (ap 0) (l0) sF) ++ (w_Y k ay (af 0) ((f_X4_warn tx sP sF sY sJ i1).2) sJ))) := by
  refine k_mk (cc := cX4_warn) (maxL := 2) (ret := (some .int)) (by decide) rfl (Nat.le_of_ble_eq_true rfl) ?_
  intro p e s m below meth c A ls C0 hP hD hS hl
  obtain ⟨hx, hb, hr, hts, hown, hlocks, hml, hA, hK⟩ := id C0
  have hown : s.vm.findClass RX4 = some m.cls := hown
  have hl : lv_has ls 2 [(0, .ref ax), (1, .int i1)] := hl
  refine lv_aload_n hx hb dX4_warn_0 rfl (lv_at hl 0 rfl) ?_
  refine va_get (D := k.1) (ci := 4) (v := .ref (ap 0)) (C := RX4) (T := TX4) (N := 5) hx hb hts in_X4_warn_X4 hown hK hP 0 rfl rfl 0 (by decide) (k_w hts 1 rfl) (fun _ h9 => h9) rfl dX4_warn_1 ?_
  refine lv_iload_n hx hb dX4_warn_4 rfl (lv_at hl 1 rfl) ?_
  refine k_Vi (wr := (w_X ax (ap 0) (af 0) (g0) (ay 0) tx) ++ (w_F k af (ap 0) (l0) sF) ++ (w_Y k ay (af 0) sY sJ)) (ws' := (w_X ax (ap 0) (af 0) (g0) (ay 0) tx) ++ (w_P k ap sP) ++ (w_F k af (ap 0) (l0) sF) ++ (w_Y k ay (af 0) sY sJ)) (Rv := (f_X2_hasServant sP i1)) (rest := []) ⟨hx, hb, hml, hown, hts⟩ hK hA hP hD hS (c_X2_hasServant l k ap sP i1) (cwV 1 hts gX4_warn_X2_hasServant rfl rfl rfl (by decide +kernel) ⟨Nat.le_of_ble_eq_true rfl, Nat.le_of_ble_eq_true rfl⟩) (va_recv hK hP (ci := 2) (q0 := 1) rfl rfl) rfl hl.1 rfl (Nat.le_of_ble_eq_true rfl) dX4_warn_5 (Nat.zero_le _) (Nat.zero_le _) [1, 2, 3, 4, 5, 6, 7, 8, 9, 10, 11, 12, 13, 14, 15, 16, 17, 18] [0, 19, 20, 21, 22, 23, 24, 25, 26, 27, 28, 29] [0, 12, 13, 14, 15, 16, 17, 18, 19, 20, 21, 22, 23, 24, 25, 26, 27, 28, 29, 1, 2, 3, 4, 5, 6, 7, 8, 9, 10, 11] rfl rfl rfl (by decide) rfl rfl rfl (fun H locs hP hD hS => ?_)
  refine lv_if_ne (tgt := 13) hx hb dX4_warn_8 (by decide) (fun c_1 => ?_) (fun c_1 => ?_)
  ·
    refine lv_aload_n hx hb dX4_warn_13 rfl (lv_at hl 0 rfl) ?_
    refine va_get (D := k.1) (ci := 4) (v := .ref (ay 0)) (C := RX4) (T := TX4) (N := 5) hx hb hts in_X4_warn_X4 hown hK hP 0 rfl rfl 3 (by decide) (k_w hts 2 rfl) (fun _ h9 => h9) rfl dX4_warn_14 ?_
    refine lv_iload_n hx hb dX4_warn_17 rfl (lv_at hl 1 rfl) ?_
    refine k_Vi (wr := (w_X ax (ap 0) (af 0) (g0) (ay 0) tx) ++ (w_P k ap sP)) (ws' := (w_X ax (ap 0) (af 0) (g0) (ay 0) tx) ++ (w_P k ap sP) ++ (w_F k af (ap 0) (l0) sF) ++ (w_Y k ay (af 0) sY sJ)) (Rv := (f_X3_servesNow sF sY sJ i1)) (rest := []) ⟨hx, hb, hml, hown, hts⟩ hK hA hP hD hS (c_X3_servesNow l k af ay (ap 0) (l0) sF sY sJ i1 (by first | assumption | exact k_hs hNs (by assumption) | exact k_hm hNm (by assumption) | exact (k_hb hNs hNm (by assumption)).1 | exact (k_hb hNs hNm (by assumption)).2)) (cwV 1 hts gX4_warn_X3_servesNow rfl rfl rfl (by decide +kernel) ⟨Nat.le_of_ble_eq_true rfl, Nat.le_of_ble_eq_true rfl⟩) (va_recv hK hP (ci := 3) (q0 := 25) rfl rfl) rfl hl.1 rfl (Nat.le_of_ble_eq_true rfl) dX4_warn_18 (Nat.zero_le _) (Nat.zero_le _) [19, 20, 21, 22, 23, 24, 25, 26, 27, 28, 29] [0, 1, 2, 3, 4, 5, 6, 7, 8, 9, 10, 11, 12, 13, 14, 15, 16, 17, 18] [0, 1, 2, 3, 4, 5, 6, 7, 8, 9, 10, 11, 12, 13, 14, 15, 16, 17, 18, 19, 20, 21, 22, 23, 24, 25, 26, 27, 28, 29] rfl rfl rfl (by decide) rfl rfl rfl (fun H locs hP hD hS => ?_)
    refine lv_if_eq (tgt := 36) hx hb dX4_warn_21 (by decide) (fun c_2 => ?_) (fun c_2 => ?_)
    ·
      refine lv_bipush (v := (-3)) hx hb dX4_warn_36 (by decide) ?_
      have ef : f_X4_warn tx sP sF sY sJ i1 = ((-3), sY) := by
        rw [f_X4_warn, if_neg c_1, if_pos c_2]
      exact k_reti hx hb hr hK (by rw [ef]; exact hP) (by rw [ef]; exact hD) hS hlocks dX4_warn_38 (by rw [ef])
    ·
      refine lv_aload_n hx hb dX4_warn_24 rfl (lv_at hl 0 rfl) ?_
      refine va_get (D := k.1) (ci := 4) (v := .ref (ay 0)) (C := RX4) (T := TX4) (N := 5) hx hb hts in_X4_warn_X4 hown hK hP 0 rfl rfl 3 (by decide) (k_w hts 2 rfl) (fun _ h9 => h9) rfl dX4_warn_25 ?_
      refine va_get (D := k.1) (ci := 3) (v := .ref (ay 2)) (C := RX3) (T := TX3) (N := 6) hx hb hts in_X4_warn_X3 hown hK hP 25 rfl rfl 3 (by decide) (k_w hts 3 rfl) (fun _ h9 => h9) rfl dX4_warn_28 ?_
      refine lv_iload_n hx hb dX4_warn_31 rfl (lv_at hl 1 rfl) ?_
      refine va_zald (f := sY 2) hx hb hK hP 27 1 rfl rfl (by first | assumption | exact k_hs hNs (by assumption) | exact k_hm hNm (by assumption) | exact (k_hb hNs hNm (by assumption)).1 | exact (k_hb hNs hNm (by assumption)).2) dX4_warn_32 ?_
      refine lv_if_eq (tgt := 39) hx hb dX4_warn_33 (by decide) (fun c_3 => ?_) (fun c_3 => ?_)
      ·
        refine lv_aload_n hx hb dX4_warn_39 rfl (lv_at hl 0 rfl) ?_
        refine va_get (D := k.1) (ci := 4) (v := .ref (ay 0)) (C := RX4) (T := TX4) (N := 5) hx hb hts in_X4_warn_X4 hown hK hP 0 rfl rfl 3 (by decide) (k_w hts 2 rfl) (fun _ h9 => h9) rfl dX4_warn_40 ?_
        refine lv_iload_n hx hb dX4_warn_43 rfl (lv_at hl 1 rfl) ?_
        refine k_Vi (wr := (w_X ax (ap 0) (af 0) (g0) (ay 0) tx) ++ (w_P k ap sP) ++ (w_F k af (ap 0) (l0) sF)) (ws' := (w_X ax (ap 0) (af 0) (g0) (ay 0) tx) ++ (w_P k ap sP) ++ (w_F k af (ap 0) (l0) sF) ++ (w_Y k ay (af 0) ((f_X3_giveWarning sY sJ i1).2) sJ)) (Rv := ((f_X3_giveWarning sY sJ i1).1)) (rest := []) ⟨hx, hb, hml, hown, hts⟩ hK hA hP hD hS (c_X3_giveWarning l k ay (af 0) sY sJ i1 (by first | assumption | exact k_hs hNs (by assumption) | exact k_hm hNm (by assumption) | exact (k_hb hNs hNm (by assumption)).1 | exact (k_hb hNs hNm (by assumption)).2)) (cwV 1 hts gX4_warn_X3_giveWarning rfl rfl rfl (by decide +kernel) ⟨Nat.le_of_ble_eq_true rfl, Nat.le_of_ble_eq_true rfl⟩) (va_recv hK hP (ci := 3) (q0 := 25) rfl rfl) rfl hl.1 rfl (Nat.le_of_ble_eq_true rfl) dX4_warn_44 (Nat.zero_le _) (Nat.zero_le _) [25, 26, 27, 28, 29] [0, 1, 2, 3, 4, 5, 6, 7, 8, 9, 10, 11, 12, 13, 14, 15, 16, 17, 18, 19, 20, 21, 22, 23, 24] [0, 1, 2, 3, 4, 5, 6, 7, 8, 9, 10, 11, 12, 13, 14, 15, 16, 17, 18, 19, 20, 21, 22, 23, 24, 25, 26, 27, 28, 29] rfl rfl rfl (by decide) rfl rfl rfl (fun H locs hP hD hS => ?_)
        obtain ⟨z_4, ez_4⟩ : ∃ z, z = f_X3_giveWarning sY sJ i1 := ⟨_, rfl⟩
        rw [← ez_4] at hP hD ⊢
        have ef : f_X4_warn tx sP sF sY sJ i1 = (((z_4).1), ((z_4).2)) := by
          rw [f_X4_warn, ← ez_4, if_neg c_1, if_neg c_2, if_pos c_3]
        exact k_reti hx hb hr hK (by rw [ef]; exact hP) (by rw [ef]; exact hD) hS hlocks dX4_warn_47 (by rw [ef])
      ·
        refine lv_bipush (v := (-3)) hx hb dX4_warn_36 (by decide) ?_
        have ef : f_X4_warn tx sP sF sY sJ i1 = ((-3), sY) := by
          rw [f_X4_warn, if_neg c_1, if_neg c_2, if_neg c_3]
        exact k_reti hx hb hr hK (by rw [ef]; exact hP) (by rw [ef]; exact hD) hS hlocks dX4_warn_38 (by rw [ef])
  ·
    refine lv_iconst (v := (-1)) hx hb dX4_warn_11 (by decide) ?_
    have ef : f_X4_warn tx sP sF sY sJ i1 = ((-1), sY) := by
      rw [f_X4_warn, if_pos c_1]
    exact k_reti hx hb hr hK (by rw [ef]; exact hP) (by rw [ef]; exact hD) hS hlocks dX4_warn_12 (by rw [ef])
theorem in_X4_run_X4 : ∀ w ∈ wsX40, w ∈ wsX4_run := fun _ h => List.mem_cons_of_mem _ (List.mem_append_left _ (List.mem_append_left _ (List.mem_append_left _ (List.mem_append_right _ h))))
theorem in_X4_run_X3 : ∀ w ∈ wsX30, w ∈ wsX4_run := fun _ h => List.mem_cons_of_mem _ (List.mem_append_left _ (List.mem_append_left _ (List.mem_append_right _ h)))
theorem in_X4_run_X2 : ∀ w ∈ wsX20, w ∈ wsX4_run := fun _ h => List.mem_cons_of_mem _ (List.mem_append_left _ (List.mem_append_right _ h))
theorem in_X4_run_X0 : ∀ w ∈ wsX00, w ∈ wsX4_run := fun _ h => List.mem_cons_of_mem _ (List.mem_append_right _ h)
def f_X4_run (tx : Int32) (sP : Nat → Nat → Int32) (sF : Nat → Nat → Int32) (sY : Nat → Nat → Int32) (sJ : Nat → Int64) (i1 : Int32) : Int32 × (Nat → Nat → Int32) :=
  if (f_X2_hasServant sP i1) = 0 then ((-1), sY)
  else if (f_X3_servesNow sF sY sJ i1) = 0 then ((-3), sY)
  else if tx = 0 then ((((f_X3_leave (k_st sY 3 (upd (sY 3) i1.toNatClampNeg (vp_nar .boolean 1))) sJ i1)).1), (((f_X3_leave (k_st sY 3 (upd (sY 3) i1.toNatClampNeg (vp_nar .boolean 1))) sJ i1)).2))
  else ((((f_X3_leave (k_st sY 3 (upd (sY 3) i1.toNatClampNeg (vp_nar .boolean 0))) sJ i1)).1), (((f_X3_leave (k_st sY 3 (upd (sY 3) i1.toNatClampNeg (vp_nar .boolean 0))) sJ i1)).2))
set_option maxHeartbeats 4000000 in
set_option maxRecDepth 100000 in
theorem c_X4_run (l : Launch) (k : K_X) (ax : Nat) (ap : Nat → Nat) (af : Nat → Nat) (ay : Nat → Nat) (l0 : Nat) (g0 : Nat) (tx : Int32) (sP : Nat → Nat → Int32) (sF : Nat → Nat → Int32) (sY : Nat → Nat → Int32) (sJ : Nat → Int64) (i1 : Int32) (hNs : k_n (sP 0 0) 10) : k_C l yX4_run wsX4_run (k_rm 3 64) k [.ref ax, .int i1] ((w_X ax (ap 0) (af 0) (g0) (ay 0) tx) ++ (w_P k ap sP) ++ (w_F k af (ap 0) (l0) sF) ++ (w_Y k ay (af 0) sY sJ)) (k_qI k ((f_X4_run tx sP sF sY sJ i1).1) ((w_X ax (ap 0) (af 0) (g0) (ay 0) tx) ++ (w_P k ap sP) ++ (w_F k af (ap 0) (l0) sF) ++ (w_Y k ay (af 0) ((f_X4_run tx sP sF sY sJ i1).2) sJ))) := by
  refine k_mk (cc := cX4_run) (maxL := 2) (ret := (some .int)) (by decide) rfl (Nat.le_of_ble_eq_true rfl) ?_
  intro p e s m below meth c A ls C0 hP hD hS hl
  obtain ⟨hx, hb, hr, hts, hown, hlocks, hml, hA, hK⟩ := id C0
  have hown : s.vm.findClass RX4 = some m.cls := hown
  have hl : lv_has ls 2 [(0, .ref ax), (1, .int i1)] := hl
  refine lv_aload_n hx hb dX4_run_0 rfl (lv_at hl 0 rfl) ?_
  refine va_get (D := k.1) (ci := 4) (v := .ref (ap 0)) (C := RX4) (T := TX4) (N := 5) hx hb hts in_X4_run_X4 hown hK hP 0 rfl rfl 0 (by decide) (k_w hts 1 rfl) (fun _ h9 => h9) rfl dX4_run_1 ?_
  refine lv_iload_n hx hb dX4_run_4 rfl (lv_at hl 1 rfl) ?_
  refine k_Vi (wr := (w_X ax (ap 0) (af 0) (g0) (ay 0) tx) ++ (w_F k af (ap 0) (l0) sF) ++ (w_Y k ay (af 0) sY sJ)) (ws' := (w_X ax (ap 0) (af 0) (g0) (ay 0) tx) ++ (w_P k ap sP) ++ (w_F k af (ap 0) (l0) sF) ++ (w_Y k ay (af 0) sY sJ)) (Rv := (f_X2_hasServant sP i1)) (rest := []) ⟨hx, hb, hml, hown, hts⟩ hK hA hP hD hS (c_X2_hasServant l k ap sP i1) (cwV 1 hts gX4_run_X2_hasServant rfl rfl rfl (by decide +kernel) ⟨Nat.le_of_ble_eq_true rfl, Nat.le_of_ble_eq_true rfl⟩) (va_recv hK hP (ci := 2) (q0 := 1) rfl rfl) rfl hl.1 rfl (Nat.le_of_ble_eq_true rfl) dX4_run_5 (Nat.zero_le _) (Nat.zero_le _) [1, 2, 3, 4, 5, 6, 7, 8, 9, 10, 11, 12, 13, 14, 15, 16, 17, 18] [0, 19, 20, 21, 22, 23, 24, 25, 26, 27, 28, 29] [0, 12, 13, 14, 15, 16, 17, 18, 19, 20, 21, 22, 23, 24, 25, 26, 27, 28, 29, 1, 2, 3, 4, 5, 6, 7, 8, 9, 10, 11] rfl rfl rfl (by decide) rfl rfl rfl (fun H locs hP hD hS => ?_)
  refine lv_if_ne (tgt := 13) hx hb dX4_run_8 (by decide) (fun c_1 => ?_) (fun c_1 => ?_)
  ·
    refine lv_aload_n hx hb dX4_run_13 rfl (lv_at hl 0 rfl) ?_
    refine va_get (D := k.1) (ci := 4) (v := .ref (ay 0)) (C := RX4) (T := TX4) (N := 5) hx hb hts in_X4_run_X4 hown hK hP 0 rfl rfl 3 (by decide) (k_w hts 2 rfl) (fun _ h9 => h9) rfl dX4_run_14 ?_
    refine lv_iload_n hx hb dX4_run_17 rfl (lv_at hl 1 rfl) ?_
    refine k_Vi (wr := (w_X ax (ap 0) (af 0) (g0) (ay 0) tx) ++ (w_P k ap sP)) (ws' := (w_X ax (ap 0) (af 0) (g0) (ay 0) tx) ++ (w_P k ap sP) ++ (w_F k af (ap 0) (l0) sF) ++ (w_Y k ay (af 0) sY sJ)) (Rv := (f_X3_servesNow sF sY sJ i1)) (rest := []) ⟨hx, hb, hml, hown, hts⟩ hK hA hP hD hS (c_X3_servesNow l k af ay (ap 0) (l0) sF sY sJ i1 (by first | assumption | exact k_hs hNs (by assumption) | exact k_hm hNm (by assumption) | exact (k_hb hNs hNm (by assumption)).1 | exact (k_hb hNs hNm (by assumption)).2)) (cwV 1 hts gX4_run_X3_servesNow rfl rfl rfl (by decide +kernel) ⟨Nat.le_of_ble_eq_true rfl, Nat.le_of_ble_eq_true rfl⟩) (va_recv hK hP (ci := 3) (q0 := 25) rfl rfl) rfl hl.1 rfl (Nat.le_of_ble_eq_true rfl) dX4_run_18 (Nat.zero_le _) (Nat.zero_le _) [19, 20, 21, 22, 23, 24, 25, 26, 27, 28, 29] [0, 1, 2, 3, 4, 5, 6, 7, 8, 9, 10, 11, 12, 13, 14, 15, 16, 17, 18] [0, 1, 2, 3, 4, 5, 6, 7, 8, 9, 10, 11, 12, 13, 14, 15, 16, 17, 18, 19, 20, 21, 22, 23, 24, 25, 26, 27, 28, 29] rfl rfl rfl (by decide) rfl rfl rfl (fun H locs hP hD hS => ?_)
    refine lv_if_ne (tgt := 27) hx hb dX4_run_21 (by decide) (fun c_2 => ?_) (fun c_2 => ?_)
    ·
      refine lv_aload_n hx hb dX4_run_27 rfl (lv_at hl 0 rfl) ?_
      refine va_get (D := k.1) (ci := 4) (v := .ref (ay 0)) (C := RX4) (T := TX4) (N := 5) hx hb hts in_X4_run_X4 hown hK hP 0 rfl rfl 3 (by decide) (k_w hts 2 rfl) (fun _ h9 => h9) rfl dX4_run_28 ?_
      refine va_get (D := k.1) (ci := 3) (v := .ref (ay 3)) (C := RX3) (T := TX3) (N := 6) hx hb hts in_X4_run_X3 hown hK hP 25 rfl rfl 4 (by decide) (k_w hts 3 rfl) (fun _ h9 => h9) rfl dX4_run_31 ?_
      refine lv_iload_n hx hb dX4_run_34 rfl (lv_at hl 1 rfl) ?_
      refine lv_aload_n hx hb dX4_run_35 rfl (lv_at hl 0 rfl) ?_
      refine va_get (D := k.1) (ci := 4) (v := .int tx) (C := RX4) (T := TX4) (N := 5) hx hb hts in_X4_run_X4 hown hK hP 0 rfl rfl 4 (by decide) (k_w hts 4 rfl) (fun _ h9 => h9) rfl dX4_run_36 ?_
      refine lv_if_ne (tgt := 46) hx hb dX4_run_39 (by decide) (fun c_3 => ?_) (fun c_3 => ?_)
      ·
        refine lv_iconst (v := 0) hx hb dX4_run_46 (by decide) ?_
        refine va_zast (f := sY 3) hx hb hK hP hD hS 28 1 rfl rfl (by first | assumption | exact k_hs hNs (by assumption) | exact k_hm hNm (by assumption) | exact (k_hb hNs hNm (by assumption)).1 | exact (k_hb hNs hNm (by assumption)).2) dX4_run_47 (fun H locs hP hD hS => ?_)
        have hP := k_cP (k_sr (w_Y_3 k ay (af 0) sY sJ (upd (sY 3) i1.toNatClampNeg (vp_nar .boolean 0)))) hP
        have hD := k_cD (k_sr (w_Y_3 k ay (af 0) sY sJ (upd (sY 3) i1.toNatClampNeg (vp_nar .boolean 0)))) hD
        refine lv_aload_n hx hb dX4_run_48 rfl (lv_at hl 0 rfl) ?_
        refine va_get (D := k.1) (ci := 4) (v := .ref (ay 0)) (C := RX4) (T := TX4) (N := 5) hx hb hts in_X4_run_X4 hown hK hP 0 rfl rfl 3 (by decide) (k_w hts 2 rfl) (fun _ h9 => h9) rfl dX4_run_49 ?_
        refine lv_iload_n hx hb dX4_run_52 rfl (lv_at hl 1 rfl) ?_
        refine k_Vi (wr := (w_X ax (ap 0) (af 0) (g0) (ay 0) tx) ++ (w_P k ap sP) ++ (w_F k af (ap 0) (l0) sF)) (ws' := (w_X ax (ap 0) (af 0) (g0) (ay 0) tx) ++ (w_P k ap sP) ++ (w_F k af (ap 0) (l0) sF) ++ (w_Y k ay (af 0) ((f_X3_leave (k_st sY 3 (upd (sY 3) i1.toNatClampNeg (vp_nar .boolean 0))) sJ i1).2) sJ)) (Rv := ((f_X3_leave (k_st sY 3 (upd (sY 3) i1.toNatClampNeg (vp_nar .boolean 0))) sJ i1).1)) (rest := []) ⟨hx, hb, hml, hown, hts⟩ hK hA hP hD hS (c_X3_leave l k ay (af 0) (k_st sY 3 (upd (sY 3) i1.toNatClampNeg (vp_nar .boolean 0))) sJ i1 (by first | assumption | exact k_hs hNs (by assumption) | exact k_hm hNm (by assumption) | exact (k_hb hNs hNm (by assumption)).1 | exact (k_hb hNs hNm (by assumption)).2)) (cwV 1 hts gX4_run_X3_leave rfl rfl rfl (by decide +kernel) ⟨Nat.le_of_ble_eq_true rfl, Nat.le_of_ble_eq_true rfl⟩) (va_recv hK hP (ci := 3) (q0 := 25) rfl rfl) rfl hl.1 rfl (Nat.le_of_ble_eq_true rfl) dX4_run_53 (Nat.zero_le _) (Nat.zero_le _) [25, 26, 27, 28, 29] [0, 1, 2, 3, 4, 5, 6, 7, 8, 9, 10, 11, 12, 13, 14, 15, 16, 17, 18, 19, 20, 21, 22, 23, 24] [0, 1, 2, 3, 4, 5, 6, 7, 8, 9, 10, 11, 12, 13, 14, 15, 16, 17, 18, 19, 20, 21, 22, 23, 24, 25, 26, 27, 28, 29] rfl rfl rfl (by decide) rfl rfl rfl (fun H locs hP hD hS => ?_)
        obtain ⟨z_4, ez_4⟩ : ∃ z, z = f_X3_leave (k_st sY 3 (upd (sY 3) i1.toNatClampNeg (vp_nar .boolean 0))) sJ i1 := ⟨_, rfl⟩
        rw [← ez_4] at hP hD ⊢
        have ef : f_X4_run tx sP sF sY sJ i1 = (((z_4).1), ((z_4).2)) := by
          rw [f_X4_run, ← ez_4, if_neg c_1, if_neg c_2, if_neg c_3]
        exact k_reti hx hb hr hK (by rw [ef]; exact hP) (by rw [ef]; exact hD) hS hlocks dX4_run_56 (by rw [ef])
      ·
        refine lv_iconst (v := 1) hx hb dX4_run_42 (by decide) ?_
        refine lv_goto (tgt := 47) hx hb dX4_run_43 (by decide) ?_
        refine va_zast (f := sY 3) hx hb hK hP hD hS 28 1 rfl rfl (by first | assumption | exact k_hs hNs (by assumption) | exact k_hm hNm (by assumption) | exact (k_hb hNs hNm (by assumption)).1 | exact (k_hb hNs hNm (by assumption)).2) dX4_run_47 (fun H locs hP hD hS => ?_)
        have hP := k_cP (k_sr (w_Y_3 k ay (af 0) sY sJ (upd (sY 3) i1.toNatClampNeg (vp_nar .boolean 1)))) hP
        have hD := k_cD (k_sr (w_Y_3 k ay (af 0) sY sJ (upd (sY 3) i1.toNatClampNeg (vp_nar .boolean 1)))) hD
        refine lv_aload_n hx hb dX4_run_48 rfl (lv_at hl 0 rfl) ?_
        refine va_get (D := k.1) (ci := 4) (v := .ref (ay 0)) (C := RX4) (T := TX4) (N := 5) hx hb hts in_X4_run_X4 hown hK hP 0 rfl rfl 3 (by decide) (k_w hts 2 rfl) (fun _ h9 => h9) rfl dX4_run_49 ?_
        refine lv_iload_n hx hb dX4_run_52 rfl (lv_at hl 1 rfl) ?_
        refine k_Vi (wr := (w_X ax (ap 0) (af 0) (g0) (ay 0) tx) ++ (w_P k ap sP) ++ (w_F k af (ap 0) (l0) sF)) (ws' := (w_X ax (ap 0) (af 0) (g0) (ay 0) tx) ++ (w_P k ap sP) ++ (w_F k af (ap 0) (l0) sF) ++ (w_Y k ay (af 0) ((f_X3_leave (k_st sY 3 (upd (sY 3) i1.toNatClampNeg (vp_nar .boolean 1))) sJ i1).2) sJ)) (Rv := ((f_X3_leave (k_st sY 3 (upd (sY 3) i1.toNatClampNeg (vp_nar .boolean 1))) sJ i1).1)) (rest := []) ⟨hx, hb, hml, hown, hts⟩ hK hA hP hD hS (c_X3_leave l k ay (af 0) (k_st sY 3 (upd (sY 3) i1.toNatClampNeg (vp_nar .boolean 1))) sJ i1 (by first | assumption | exact k_hs hNs (by assumption) | exact k_hm hNm (by assumption) | exact (k_hb hNs hNm (by assumption)).1 | exact (k_hb hNs hNm (by assumption)).2)) (cwV 1 hts gX4_run_X3_leave rfl rfl rfl (by decide +kernel) ⟨Nat.le_of_ble_eq_true rfl, Nat.le_of_ble_eq_true rfl⟩) (va_recv hK hP (ci := 3) (q0 := 25) rfl rfl) rfl hl.1 rfl (Nat.le_of_ble_eq_true rfl) dX4_run_53 (Nat.zero_le _) (Nat.zero_le _) [25, 26, 27, 28, 29] [0, 1, 2, 3, 4, 5, 6, 7, 8, 9, 10, 11, 12, 13, 14, 15, 16, 17, 18, 19, 20, 21, 22, 23, 24] [0, 1, 2, 3, 4, 5, 6, 7, 8, 9, 10, 11, 12, 13, 14, 15, 16, 17, 18, 19, 20, 21, 22, 23, 24, 25, 26, 27, 28, 29] rfl rfl rfl (by decide) rfl rfl rfl (fun H locs hP hD hS => ?_)
        obtain ⟨z_5, ez_5⟩ : ∃ z, z = f_X3_leave (k_st sY 3 (upd (sY 3) i1.toNatClampNeg (vp_nar .boolean 1))) sJ i1 := ⟨_, rfl⟩
        rw [← ez_5] at hP hD ⊢
        have ef : f_X4_run tx sP sF sY sJ i1 = (((z_5).1), ((z_5).2)) := by
          rw [f_X4_run, ← ez_5, if_neg c_1, if_neg c_2, if_pos c_3]
        exact k_reti hx hb hr hK (by rw [ef]; exact hP) (by rw [ef]; exact hD) hS hlocks dX4_run_56 (by rw [ef])
    ·
      refine lv_bipush (v := (-3)) hx hb dX4_run_24 (by decide) ?_
      have ef : f_X4_run tx sP sF sY sJ i1 = ((-3), sY) := by
        rw [f_X4_run, if_neg c_1, if_pos c_2]
      exact k_reti hx hb hr hK (by rw [ef]; exact hP) (by rw [ef]; exact hD) hS hlocks dX4_run_26 (by rw [ef])
  ·
    refine lv_iconst (v := (-1)) hx hb dX4_run_11 (by decide) ?_
    have ef : f_X4_run tx sP sF sY sJ i1 = ((-1), sY) := by
      rw [f_X4_run, if_pos c_1]
    exact k_reti hx hb hr hK (by rw [ef]; exact hP) (by rw [ef]; exact hD) hS hlocks dX4_run_12 (by rw [ef])
theorem in_X4_isHeldAboveSkill_X4 : ∀ w ∈ wsX40, w ∈ wsX4_isHeldAboveSkill := fun _ h => List.mem_cons_of_mem _ (List.mem_append_left _ (List.mem_append_left _ (List.mem_append_right _ h)))
theorem in_X4_isHeldAboveSkill_X0 : ∀ w ∈ wsX00, w ∈ wsX4_isHeldAboveSkill := fun _ h => List.mem_cons_of_mem _ (List.mem_append_left _ (List.mem_append_right _ h))
theorem in_X4_isHeldAboveSkill_X2 : ∀ w ∈ wsX20, w ∈ wsX4_isHeldAboveSkill := fun _ h => List.mem_cons_of_mem _ (List.mem_append_right _ h)
def f_X4_isHeldAboveSkill (tx : Int32) (sP : Nat → Nat → Int32) (sF : Nat → Nat → Int32) (i1 : Int32) : Int32 :=
  if ((sF 1) i1.toNatClampNeg) = (-9) then 0
  else if (f_X2_heldFor sP ((sF 1) i1.toNatClampNeg) i1) ≤ ((sP 2) i1.toNatClampNeg) then 0
  else 1
set_option maxHeartbeats 4000000 in
set_option maxRecDepth 100000 in
theorem c_X4_isHeldAboveSkill (l : Launch) (k : K_X) (ax : Nat) (ap : Nat → Nat) (af : Nat → Nat) (l0 : Nat) (g0 : Nat) (y0 : Nat) (tx : Int32) (sP : Nat → Nat → Int32) (sF : Nat → Nat → Int32) (i1 : Int32) (h1 : vp_in i1 10) (ho : k_o (sF 1 i1.toNatClampNeg) 10) : k_C l yX4_isHeldAboveSkill wsX4_isHeldAboveSkill (k_rm 1 23) k [.ref ax, .int i1] ((w_X ax (ap 0) (af 0) (g0) (y0) tx) ++ (w_P k ap sP) ++ (w_F k af (ap 0) (l0) sF)) (k_qI k (f_X4_isHeldAboveSkill tx sP sF i1) ((w_X ax (ap 0) (af 0) (g0) (y0) tx) ++ (w_P k ap sP) ++ (w_F k af (ap 0) (l0) sF))) := by
  refine k_mk (cc := cX4_isHeldAboveSkill) (maxL := 3) (ret := (some .boolean)) (by decide) rfl (Nat.le_of_ble_eq_true rfl) ?_
  intro p e s m below meth c A ls C0 hP hD hS hl
  obtain ⟨hx, hb, hr, hts, hown, hlocks, hml, hA, hK⟩ := id C0
  have hown : s.vm.findClass RX4 = some m.cls := hown
  have hl : lv_has ls 3 [(0, .ref ax), (1, .int i1)] := hl
  refine lv_aload_n hx hb dX4_isHeldAboveSkill_0 rfl (lv_at hl 0 rfl) ?_
  refine va_get (D := k.1) (ci := 4) (v := .ref (af 0)) (C := RX4) (T := TX4) (N := 5) hx hb hts in_X4_isHeldAboveSkill_X4 hown hK hP 0 rfl rfl 1 (by decide) (k_w hts 1 rfl) (fun _ h9 => h9) rfl dX4_isHeldAboveSkill_1 ?_
  refine va_get (D := k.1) (ci := 0) (v := .ref (af 1)) (C := RX0) (T := TX0) (N := 8) hx hb hts in_X4_isHeldAboveSkill_X0 hown hK hP 19 rfl rfl 3 (by decide) (k_w hts 2 rfl) (fun _ h9 => h9) rfl dX4_isHeldAboveSkill_4 ?_
  refine lv_iload_n hx hb dX4_isHeldAboveSkill_7 rfl (lv_at hl 1 rfl) ?_
  refine va_iald (f := sF 1) hx hb hK hP 20 0 rfl rfl (by assumption) dX4_isHeldAboveSkill_8 ?_
  refine lv_istore_n (lv' := [(2, .int ((sF 1) i1.toNatClampNeg)), (0, .ref ax), (1, .int i1)]) hx hb dX4_isHeldAboveSkill_9 rfl hl (by decide) rfl (fun ls hl => ?_)
  refine lv_iload_n hx hb dX4_isHeldAboveSkill_10 rfl (lv_at hl 0 rfl) ?_
  refine lv_bipush (v := (-9)) hx hb dX4_isHeldAboveSkill_11 (by decide) ?_
  refine lv_icmp_eq (tgt := 41) hx hb dX4_isHeldAboveSkill_13 (by decide) (fun c_1 => ?_) (fun c_1 => ?_)
  ·
    refine lv_iconst (v := 0) hx hb dX4_isHeldAboveSkill_41 (by decide) ?_
    have ef : f_X4_isHeldAboveSkill tx sP sF i1 = 0 := by
      rw [f_X4_isHeldAboveSkill, if_pos c_1]
    exact k_retz hx hb hr (by decide) hK hP hD hS hlocks dX4_isHeldAboveSkill_42 (by rw [ef])
  ·
    refine lv_aload_n hx hb dX4_isHeldAboveSkill_16 rfl (lv_at hl 1 rfl) ?_
    refine va_get (D := k.1) (ci := 4) (v := .ref (ap 0)) (C := RX4) (T := TX4) (N := 5) hx hb hts in_X4_isHeldAboveSkill_X4 hown hK hP 0 rfl rfl 0 (by decide) (k_w hts 3 rfl) (fun _ h9 => h9) rfl dX4_isHeldAboveSkill_17 ?_
    refine lv_iload_n hx hb dX4_isHeldAboveSkill_20 rfl (lv_at hl 0 rfl) ?_
    refine lv_iload_n hx hb dX4_isHeldAboveSkill_21 rfl (lv_at hl 2 rfl) ?_
    refine k_Vi (wr := (w_X ax (ap 0) (af 0) (g0) (y0) tx) ++ (w_F k af (ap 0) (l0) sF)) (ws' := (w_X ax (ap 0) (af 0) (g0) (y0) tx) ++ (w_P k ap sP) ++ (w_F k af (ap 0) (l0) sF)) (Rv := (f_X2_heldFor sP ((sF 1) i1.toNatClampNeg) i1)) (rest := []) ⟨hx, hb, hml, hown, hts⟩ hK hA hP hD hS (c_X2_heldFor l k ap sP ((sF 1) i1.toNatClampNeg) i1 (ho.in (by assumption)) (h1)) (cwV 2 hts gX4_isHeldAboveSkill_X2_heldFor rfl rfl rfl (by decide +kernel) ⟨Nat.le_of_ble_eq_true rfl, Nat.le_of_ble_eq_true rfl⟩) (va_recv hK hP (ci := 2) (q0 := 1) rfl rfl) rfl hl.1 rfl (Nat.le_of_ble_eq_true rfl) dX4_isHeldAboveSkill_22 (Nat.zero_le _) (Nat.zero_le _) [1, 2, 3, 4, 5, 6, 7, 8, 9, 10, 11, 12, 13, 14, 15, 16, 17, 18] [0, 19, 20, 21, 22, 23, 24] [0, 7, 8, 9, 10, 11, 12, 13, 14, 15, 16, 17, 18, 19, 20, 21, 22, 23, 24, 1, 2, 3, 4, 5, 6] rfl rfl rfl (by decide) rfl rfl rfl (fun H locs hP hD hS => ?_)
    refine lv_aload_n hx hb dX4_isHeldAboveSkill_25 rfl (lv_at hl 1 rfl) ?_
    refine va_get (D := k.1) (ci := 4) (v := .ref (ap 0)) (C := RX4) (T := TX4) (N := 5) hx hb hts in_X4_isHeldAboveSkill_X4 hown hK hP 0 rfl rfl 0 (by decide) (k_w hts 3 rfl) (fun _ h9 => h9) rfl dX4_isHeldAboveSkill_26 ?_
    refine va_get (D := k.1) (ci := 2) (v := .ref (ap 2)) (C := RX2) (T := TX2) (N := 9) hx hb hts in_X4_isHeldAboveSkill_X2 hown hK hP 1 rfl rfl 2 (by decide) (k_w hts 4 rfl) (fun _ h9 => h9) rfl dX4_isHeldAboveSkill_29 ?_
    refine lv_iload_n hx hb dX4_isHeldAboveSkill_32 rfl (lv_at hl 2 rfl) ?_
    refine va_iald (f := sP 2) hx hb hK hP 3 0 rfl rfl (by assumption) dX4_isHeldAboveSkill_33 ?_
    refine lv_icmp_le (tgt := 41) hx hb dX4_isHeldAboveSkill_34 (by decide) (fun c_2 => ?_) (fun c_2 => ?_)
    ·
      refine lv_iconst (v := 0) hx hb dX4_isHeldAboveSkill_41 (by decide) ?_
      have ef : f_X4_isHeldAboveSkill tx sP sF i1 = 0 := by
        rw [f_X4_isHeldAboveSkill, if_neg c_1, if_pos c_2]
      exact k_retz hx hb hr (by decide) hK hP hD hS hlocks dX4_isHeldAboveSkill_42 (by rw [ef])
    ·
      refine lv_iconst (v := 1) hx hb dX4_isHeldAboveSkill_37 (by decide) ?_
      refine lv_goto (tgt := 42) hx hb dX4_isHeldAboveSkill_38 (by decide) ?_
      have ef : f_X4_isHeldAboveSkill tx sP sF i1 = 1 := by
        rw [f_X4_isHeldAboveSkill, if_neg c_1, if_neg c_2]
      exact k_retz hx hb hr (by decide) hK hP hD hS hlocks dX4_isHeldAboveSkill_42 (by rw [ef])
theorem in_X4_send_X4 : ∀ w ∈ wsX40, w ∈ wsX4_send := fun _ h => List.mem_cons_of_mem _ (List.mem_append_left _ (List.mem_append_left _ (List.mem_append_left _ (List.mem_append_right _ h))))
theorem in_X4_send_X2 : ∀ w ∈ wsX20, w ∈ wsX4_send := fun _ h => List.mem_cons_of_mem _ (List.mem_append_left _ (List.mem_append_left _ (List.mem_append_right _ h)))
theorem in_X4_send_X3 : ∀ w ∈ wsX30, w ∈ wsX4_send := fun _ h => List.mem_cons_of_mem _ (List.mem_append_left _ (List.mem_append_right _ h))
theorem in_X4_send_X0 : ∀ w ∈ wsX00, w ∈ wsX4_send := fun _ h => List.mem_cons_of_mem _ (List.mem_append_right _ h)
def f_X4_send (tx : Int32) (sP : Nat → Nat → Int32) (sF : Nat → Nat → Int32) (sY : Nat → Nat → Int32) (sJ : Nat → Int64) (i1 : Int32) : Int32 × (Nat → Nat → Int32) :=
  if (f_X2_hasServant sP i1) = 0 then ((-1), sY)
  else if (f_X3_servesNow sF sY sJ i1) = 0 then ((-3), sY)
  else if (f_X4_isHeldAboveSkill tx sP sF i1) = 0 then ((-3), sY)
  else ((((f_X3_leave sY sJ i1)).1), (((f_X3_leave sY sJ i1)).2))
set_option maxHeartbeats 4000000 in
set_option maxRecDepth 100000 in
theorem c_X4_send (l : Launch) (k : K_X) (ax : Nat) (ap : Nat → Nat) (af : Nat → Nat) (ay : Nat → Nat) (l0 : Nat) (g0 : Nat) (tx : Int32) (sP : Nat → Nat → Int32) (sF : Nat → Nat → Int32) (sY : Nat → Nat → Int32) (sJ : Nat → Int64) (i1 : Int32) (hNs : k_n (sP 0 0) 10) (hB : ∀ j, j < 10 → k_o (sF 1 j) 10) : k_C l yX4_send wsX4_send (k_rm 3 64) k [.ref ax, .int i1] ((w_X ax (ap 0) (af 0) (g0) (ay 0) tx) ++ (w_P k ap sP) ++ (w_F k af (ap 0) (l0) sF) ++ (w_Y k ay (af 0) sY sJ)) (k_qI k ((f_X4_send tx sP sF sY sJ i1).1) ((w_X ax (ap 0) (af 0) (g0) (ay 0) tx) ++ (w_P k ap sP) ++ (w_F k af (ap 0) (l0) sF) ++ (w_Y k ay (af 0) ((f_X4_send tx sP sF sY sJ i1).2) sJ))) := by
  refine k_mk (cc := cX4_send) (maxL := 2) (ret := (some .int)) (by decide) rfl (Nat.le_of_ble_eq_true rfl) ?_
  intro p e s m below meth c A ls C0 hP hD hS hl
  obtain ⟨hx, hb, hr, hts, hown, hlocks, hml, hA, hK⟩ := id C0
  have hown : s.vm.findClass RX4 = some m.cls := hown
  have hl : lv_has ls 2 [(0, .ref ax), (1, .int i1)] := hl
  refine lv_aload_n hx hb dX4_send_0 rfl (lv_at hl 0 rfl) ?_
  refine va_get (D := k.1) (ci := 4) (v := .ref (ap 0)) (C := RX4) (T := TX4) (N := 5) hx hb hts in_X4_send_X4 hown hK hP 0 rfl rfl 0 (by decide) (k_w hts 1 rfl) (fun _ h9 => h9) rfl dX4_send_1 ?_
  refine lv_iload_n hx hb dX4_send_4 rfl (lv_at hl 1 rfl) ?_
  refine k_Vi (wr := (w_X ax (ap 0) (af 0) (g0) (ay 0) tx) ++ (w_F k af (ap 0) (l0) sF) ++ (w_Y k ay (af 0) sY sJ)) (ws' := (w_X ax (ap 0) (af 0) (g0) (ay 0) tx) ++ (w_P k ap sP) ++ (w_F k af (ap 0) (l0) sF) ++ (w_Y k ay (af 0) sY sJ)) (Rv := (f_X2_hasServant sP i1)) (rest := []) ⟨hx, hb, hml, hown, hts⟩ hK hA hP hD hS (c_X2_hasServant l k ap sP i1) (cwV 1 hts gX4_send_X2_hasServant rfl rfl rfl (by decide +kernel) ⟨Nat.le_of_ble_eq_true rfl, Nat.le_of_ble_eq_true rfl⟩) (va_recv hK hP (ci := 2) (q0 := 1) rfl rfl) rfl hl.1 rfl (Nat.le_of_ble_eq_true rfl) dX4_send_5 (Nat.zero_le _) (Nat.zero_le _) [1, 2, 3, 4, 5, 6, 7, 8, 9, 10, 11, 12, 13, 14, 15, 16, 17, 18] [0, 19, 20, 21, 22, 23, 24, 25, 26, 27, 28, 29] [0, 12, 13, 14, 15, 16, 17, 18, 19, 20, 21, 22, 23, 24, 25, 26, 27, 28, 29, 1, 2, 3, 4, 5, 6, 7, 8, 9, 10, 11] rfl rfl rfl (by decide) rfl rfl rfl (fun H locs hP hD hS => ?_)
  refine lv_if_ne (tgt := 13) hx hb dX4_send_8 (by decide) (fun c_1 => ?_) (fun c_1 => ?_)
  ·
    refine lv_aload_n hx hb dX4_send_13 rfl (lv_at hl 0 rfl) ?_
    refine va_get (D := k.1) (ci := 4) (v := .ref (ay 0)) (C := RX4) (T := TX4) (N := 5) hx hb hts in_X4_send_X4 hown hK hP 0 rfl rfl 3 (by decide) (k_w hts 2 rfl) (fun _ h9 => h9) rfl dX4_send_14 ?_
    refine lv_iload_n hx hb dX4_send_17 rfl (lv_at hl 1 rfl) ?_
    refine k_Vi (wr := (w_X ax (ap 0) (af 0) (g0) (ay 0) tx) ++ (w_P k ap sP)) (ws' := (w_X ax (ap 0) (af 0) (g0) (ay 0) tx) ++ (w_P k ap sP) ++ (w_F k af (ap 0) (l0) sF) ++ (w_Y k ay (af 0) sY sJ)) (Rv := (f_X3_servesNow sF sY sJ i1)) (rest := []) ⟨hx, hb, hml, hown, hts⟩ hK hA hP hD hS (c_X3_servesNow l k af ay (ap 0) (l0) sF sY sJ i1 (by first | assumption | exact k_hs hNs (by assumption) | exact k_hm hNm (by assumption) | exact (k_hb hNs hNm (by assumption)).1 | exact (k_hb hNs hNm (by assumption)).2)) (cwV 1 hts gX4_send_X3_servesNow rfl rfl rfl (by decide +kernel) ⟨Nat.le_of_ble_eq_true rfl, Nat.le_of_ble_eq_true rfl⟩) (va_recv hK hP (ci := 3) (q0 := 25) rfl rfl) rfl hl.1 rfl (Nat.le_of_ble_eq_true rfl) dX4_send_18 (Nat.zero_le _) (Nat.zero_le _) [19, 20, 21, 22, 23, 24, 25, 26, 27, 28, 29] [0, 1, 2, 3, 4, 5, 6, 7, 8, 9, 10, 11, 12, 13, 14, 15, 16, 17, 18] [0, 1, 2, 3, 4, 5, 6, 7, 8, 9, 10, 11, 12, 13, 14, 15, 16, 17, 18, 19, 20, 21, 22, 23, 24, 25, 26, 27, 28, 29] rfl rfl rfl (by decide) rfl rfl rfl (fun H locs hP hD hS => ?_)
    refine lv_if_eq (tgt := 32) hx hb dX4_send_21 (by decide) (fun c_2 => ?_) (fun c_2 => ?_)
    ·
      refine lv_bipush (v := (-3)) hx hb dX4_send_32 (by decide) ?_
      have ef : f_X4_send tx sP sF sY sJ i1 = ((-3), sY) := by
        rw [f_X4_send, if_neg c_1, if_pos c_2]
      exact k_reti hx hb hr hK (by rw [ef]; exact hP) (by rw [ef]; exact hD) hS hlocks dX4_send_34 (by rw [ef])
    ·
      refine lv_aload_n hx hb dX4_send_24 rfl (lv_at hl 0 rfl) ?_
      refine lv_iload_n hx hb dX4_send_25 rfl (lv_at hl 1 rfl) ?_
      refine k_Vi (wr := w_Y k ay (af 0) sY sJ) (ws' := (w_X ax (ap 0) (af 0) (g0) (ay 0) tx) ++ (w_P k ap sP) ++ (w_F k af (ap 0) (l0) sF) ++ (w_Y k ay (af 0) sY sJ)) (Rv := (f_X4_isHeldAboveSkill tx sP sF i1)) (rest := []) ⟨hx, hb, hml, hown, hts⟩ hK hA hP hD hS (c_X4_isHeldAboveSkill l k ax ap af (l0) (g0) (ay 0) tx sP sF i1 (by first | assumption | exact k_hs hNs (by assumption) | exact k_hm hNm (by assumption) | exact (k_hb hNs hNm (by assumption)).1 | exact (k_hb hNs hNm (by assumption)).2) (hB _ (k_lt (by first | assumption | exact k_hs hNs (by assumption) | exact k_hm hNm (by assumption) | exact (k_hb hNs hNm (by assumption)).1 | exact (k_hb hNs hNm (by assumption)).2)))) (cwV 1 hts gX4_send_X4_isHeldAboveSkill rfl rfl rfl (by decide +kernel) ⟨Nat.le_of_ble_eq_true rfl, Nat.le_of_ble_eq_true rfl⟩) (va_recv hK hP (ci := 4) (q0 := 0) rfl rfl) rfl hl.1 rfl (Nat.le_of_ble_eq_true rfl) dX4_send_26 (Nat.zero_le _) (Nat.zero_le _) [0, 1, 2, 3, 4, 5, 6, 7, 8, 9, 10, 11, 12, 13, 14, 15, 16, 17, 18, 19, 20, 21, 22, 23, 24] [25, 26, 27, 28, 29] [5, 6, 7, 8, 9, 10, 11, 12, 13, 14, 15, 16, 17, 18, 19, 20, 21, 22, 23, 24, 25, 26, 27, 28, 29, 0, 1, 2, 3, 4] rfl rfl rfl (by decide) rfl rfl rfl (fun H locs hP hD hS => ?_)
      refine lv_if_ne (tgt := 35) hx hb dX4_send_29 (by decide) (fun c_3 => ?_) (fun c_3 => ?_)
      ·
        refine lv_aload_n hx hb dX4_send_35 rfl (lv_at hl 0 rfl) ?_
        refine va_get (D := k.1) (ci := 4) (v := .ref (ay 0)) (C := RX4) (T := TX4) (N := 5) hx hb hts in_X4_send_X4 hown hK hP 0 rfl rfl 3 (by decide) (k_w hts 2 rfl) (fun _ h9 => h9) rfl dX4_send_36 ?_
        refine lv_iload_n hx hb dX4_send_39 rfl (lv_at hl 1 rfl) ?_
        refine k_Vi (wr := (w_X ax (ap 0) (af 0) (g0) (ay 0) tx) ++ (w_P k ap sP) ++ (w_F k af (ap 0) (l0) sF)) (ws' := (w_X ax (ap 0) (af 0) (g0) (ay 0) tx) ++ (w_P k ap sP) ++ (w_F k af (ap 0) (l0) sF) ++ (w_Y k ay (af 0) ((f_X3_leave sY sJ i1).2) sJ)) (Rv := ((f_X3_leave sY sJ i1).1)) (rest := []) ⟨hx, hb, hml, hown, hts⟩ hK hA hP hD hS (c_X3_leave l k ay (af 0) sY sJ i1 (by first | assumption | exact k_hs hNs (by assumption) | exact k_hm hNm (by assumption) | exact (k_hb hNs hNm (by assumption)).1 | exact (k_hb hNs hNm (by assumption)).2)) (cwV 1 hts gX4_send_X3_leave rfl rfl rfl (by decide +kernel) ⟨Nat.le_of_ble_eq_true rfl, Nat.le_of_ble_eq_true rfl⟩) (va_recv hK hP (ci := 3) (q0 := 25) rfl rfl) rfl hl.1 rfl (Nat.le_of_ble_eq_true rfl) dX4_send_40 (Nat.zero_le _) (Nat.zero_le _) [25, 26, 27, 28, 29] [0, 1, 2, 3, 4, 5, 6, 7, 8, 9, 10, 11, 12, 13, 14, 15, 16, 17, 18, 19, 20, 21, 22, 23, 24] [0, 1, 2, 3, 4, 5, 6, 7, 8, 9, 10, 11, 12, 13, 14, 15, 16, 17, 18, 19, 20, 21, 22, 23, 24, 25, 26, 27, 28, 29] rfl rfl rfl (by decide) rfl rfl rfl (fun H locs hP hD hS => ?_)
        obtain ⟨z_4, ez_4⟩ : ∃ z, z = f_X3_leave sY sJ i1 := ⟨_, rfl⟩
        rw [← ez_4] at hP hD ⊢
        have ef : f_X4_send tx sP sF sY sJ i1 = (((z_4).1), ((z_4).2)) := by
          rw [f_X4_send, ← ez_4, if_neg c_1, if_neg c_2, if_neg c_3]
        exact k_reti hx hb hr hK (by rw [ef]; exact hP) (by rw [ef]; exact hD) hS hlocks dX4_send_43 (by rw [ef])
      ·
        refine lv_bipush (v := (-3)) hx hb dX4_send_32 (by decide) ?_
        have ef : f_X4_send tx sP sF sY sJ i1 = ((-3), sY) := by
          rw [f_X4_send, if_neg c_1, if_neg c_2, if_pos c_3]
        exact k_reti hx hb hr hK (by rw [ef]; exact hP) (by rw [ef]; exact hD) hS hlocks dX4_send_34 (by rw [ef])
  ·
    refine lv_iconst (v := (-1)) hx hb dX4_send_11 (by decide) ?_
    have ef : f_X4_send tx sP sF sY sJ i1 = ((-1), sY) := by
      rw [f_X4_send, if_pos c_1]
    exact k_reti hx hb hr hK (by rw [ef]; exact hP) (by rw [ef]; exact hD) hS hlocks dX4_send_12 (by rw [ef])
theorem in_X4_due_X4 : ∀ w ∈ wsX40, w ∈ wsX4_due := fun _ h => List.mem_cons_of_mem _ (List.mem_append_left _ (List.mem_append_left _ (List.mem_append_left _ (List.mem_append_right _ h))))
theorem in_X4_due_X2 : ∀ w ∈ wsX20, w ∈ wsX4_due := fun _ h => List.mem_cons_of_mem _ (List.mem_append_left _ (List.mem_append_left _ (List.mem_append_right _ h)))
theorem in_X4_due_X3 : ∀ w ∈ wsX30, w ∈ wsX4_due := fun _ h => List.mem_cons_of_mem _ (List.mem_append_left _ (List.mem_append_right _ h))
theorem in_X4_due_X0 : ∀ w ∈ wsX00, w ∈ wsX4_due := fun _ h => List.mem_cons_of_mem _ (List.mem_append_right _ h)
def f_X4_due (tx : Int32) (sP : Nat → Nat → Int32) (sF : Nat → Nat → Int32) (sY : Nat → Nat → Int32) (sJ : Nat → Int64) (i1 : Int32) (i2 : Int32) : Int32 :=
  if (f_X2_hasServant sP i1) = 0 then -1
  else if (f_X4_isDay i2) = 0 then -2
  else if (f_X3_hasBegun sY sJ) = 0 then -3
  else if (f_X0_isBound sF i1) = 0 then -3
  else f_X3_wagesDue sF sY sJ i1 i2
set_option maxHeartbeats 4000000 in
set_option maxRecDepth 100000 in
theorem c_X4_due (l : Launch) (k : K_X) (ax : Nat) (ap : Nat → Nat) (af : Nat → Nat) (ay : Nat → Nat) (l0 : Nat) (g0 : Nat) (tx : Int32) (sP : Nat → Nat → Int32) (sF : Nat → Nat → Int32) (sY : Nat → Nat → Int32) (sJ : Nat → Int64) (i1 : Int32) (i2 : Int32) (hNs : k_n (sP 0 0) 10) (hE : ∀ j, j < 10 → k_n (sY 1 j + 1) 364) : k_C l yX4_due wsX4_due (k_rm 3 69) k [.ref ax, .int i1, .int i2] ((w_X ax (ap 0) (af 0) (g0) (ay 0) tx) ++ (w_P k ap sP) ++ (w_F k af (ap 0) (l0) sF) ++ (w_Y k ay (af 0) sY sJ)) (k_qI k (f_X4_due tx sP sF sY sJ i1 i2) ((w_X ax (ap 0) (af 0) (g0) (ay 0) tx) ++ (w_P k ap sP) ++ (w_F k af (ap 0) (l0) sF) ++ (w_Y k ay (af 0) sY sJ))) := by
  refine k_mk (cc := cX4_due) (maxL := 3) (ret := (some .int)) (by decide) rfl (Nat.le_of_ble_eq_true rfl) ?_
  intro p e s m below meth c A ls C0 hP hD hS hl
  obtain ⟨hx, hb, hr, hts, hown, hlocks, hml, hA, hK⟩ := id C0
  have hown : s.vm.findClass RX4 = some m.cls := hown
  have hl : lv_has ls 3 [(0, .ref ax), (1, .int i1), (2, .int i2)] := hl
  refine lv_aload_n hx hb dX4_due_0 rfl (lv_at hl 0 rfl) ?_
  refine va_get (D := k.1) (ci := 4) (v := .ref (ap 0)) (C := RX4) (T := TX4) (N := 5) hx hb hts in_X4_due_X4 hown hK hP 0 rfl rfl 0 (by decide) (k_w hts 1 rfl) (fun _ h9 => h9) rfl dX4_due_1 ?_
  refine lv_iload_n hx hb dX4_due_4 rfl (lv_at hl 1 rfl) ?_
  refine k_Vi (wr := (w_X ax (ap 0) (af 0) (g0) (ay 0) tx) ++ (w_F k af (ap 0) (l0) sF) ++ (w_Y k ay (af 0) sY sJ)) (ws' := (w_X ax (ap 0) (af 0) (g0) (ay 0) tx) ++ (w_P k ap sP) ++ (w_F k af (ap 0) (l0) sF) ++ (w_Y k ay (af 0) sY sJ)) (Rv := (f_X2_hasServant sP i1)) (rest := []) ⟨hx, hb, hml, hown, hts⟩ hK hA hP hD hS (c_X2_hasServant l k ap sP i1) (cwV 1 hts gX4_due_X2_hasServant rfl rfl rfl (by decide +kernel) ⟨Nat.le_of_ble_eq_true rfl, Nat.le_of_ble_eq_true rfl⟩) (va_recv hK hP (ci := 2) (q0 := 1) rfl rfl) rfl hl.1 rfl (Nat.le_of_ble_eq_true rfl) dX4_due_5 (Nat.zero_le _) (Nat.zero_le _) [1, 2, 3, 4, 5, 6, 7, 8, 9, 10, 11, 12, 13, 14, 15, 16, 17, 18] [0, 19, 20, 21, 22, 23, 24, 25, 26, 27, 28, 29] [0, 12, 13, 14, 15, 16, 17, 18, 19, 20, 21, 22, 23, 24, 25, 26, 27, 28, 29, 1, 2, 3, 4, 5, 6, 7, 8, 9, 10, 11] rfl rfl rfl (by decide) rfl rfl rfl (fun H locs hP hD hS => ?_)
  refine lv_if_ne (tgt := 13) hx hb dX4_due_8 (by decide) (fun c_1 => ?_) (fun c_1 => ?_)
  ·
    refine lv_iload_n hx hb dX4_due_13 rfl (lv_at hl 2 rfl) ?_
    refine k_Si (wr := (w_X ax (ap 0) (af 0) (g0) (ay 0) tx) ++ (w_P k ap sP) ++ (w_F k af (ap 0) (l0) sF) ++ (w_Y k ay (af 0) sY sJ)) (ws' := (w_X ax (ap 0) (af 0) (g0) (ay 0) tx) ++ (w_P k ap sP) ++ (w_F k af (ap 0) (l0) sF) ++ (w_Y k ay (af 0) sY sJ)) (Rv := (f_X4_isDay i2)) (rest := []) ⟨hx, hb, hml, hown, hts⟩ hK hA hP hD hS (c_X4_isDay l k i2) (va_cwS 1 hts gX4_due_X4_isDay rfl rfl rfl (by decide +kernel) ⟨Nat.le_of_ble_eq_true rfl, Nat.le_of_ble_eq_true rfl⟩) rfl hl.1 rfl (Nat.le_of_ble_eq_true rfl) dX4_due_14 (Nat.zero_le _) (Nat.zero_le _) [] [0, 1, 2, 3, 4, 5, 6, 7, 8, 9, 10, 11, 12, 13, 14, 15, 16, 17, 18, 19, 20, 21, 22, 23, 24, 25, 26, 27, 28, 29] [0, 1, 2, 3, 4, 5, 6, 7, 8, 9, 10, 11, 12, 13, 14, 15, 16, 17, 18, 19, 20, 21, 22, 23, 24, 25, 26, 27, 28, 29] rfl rfl rfl (by decide) rfl rfl rfl (fun H locs hP hD hS => ?_)
    refine lv_if_ne (tgt := 23) hx hb dX4_due_17 (by decide) (fun c_2 => ?_) (fun c_2 => ?_)
    ·
      refine lv_aload_n hx hb dX4_due_23 rfl (lv_at hl 0 rfl) ?_
      refine va_get (D := k.1) (ci := 4) (v := .ref (ay 0)) (C := RX4) (T := TX4) (N := 5) hx hb hts in_X4_due_X4 hown hK hP 0 rfl rfl 3 (by decide) (k_w hts 2 rfl) (fun _ h9 => h9) rfl dX4_due_24 ?_
      refine k_Vi (wr := (w_X ax (ap 0) (af 0) (g0) (ay 0) tx) ++ (w_P k ap sP) ++ (w_F k af (ap 0) (l0) sF)) (ws' := (w_X ax (ap 0) (af 0) (g0) (ay 0) tx) ++ (w_P k ap sP) ++ (w_F k af (ap 0) (l0) sF) ++ (w_Y k ay (af 0) sY sJ)) (Rv := (f_X3_hasBegun sY sJ)) (rest := []) ⟨hx, hb, hml, hown, hts⟩ hK hA hP hD hS (c_X3_hasBegun l k ay (af 0) sY sJ) (cwV 0 hts gX4_due_X3_hasBegun rfl rfl rfl (by decide +kernel) ⟨Nat.le_of_ble_eq_true rfl, Nat.le_of_ble_eq_true rfl⟩) (va_recv hK hP (ci := 3) (q0 := 25) rfl rfl) rfl hl.1 rfl (Nat.le_of_ble_eq_true rfl) dX4_due_27 (Nat.zero_le _) (Nat.zero_le _) [25, 26, 27, 28, 29] [0, 1, 2, 3, 4, 5, 6, 7, 8, 9, 10, 11, 12, 13, 14, 15, 16, 17, 18, 19, 20, 21, 22, 23, 24] [0, 1, 2, 3, 4, 5, 6, 7, 8, 9, 10, 11, 12, 13, 14, 15, 16, 17, 18, 19, 20, 21, 22, 23, 24, 25, 26, 27, 28, 29] rfl rfl rfl (by decide) rfl rfl rfl (fun H locs hP hD hS => ?_)
      refine lv_if_eq (tgt := 44) hx hb dX4_due_30 (by decide) (fun c_3 => ?_) (fun c_3 => ?_)
      ·
        refine lv_bipush (v := (-3)) hx hb dX4_due_44 (by decide) ?_
        have ef : f_X4_due tx sP sF sY sJ i1 i2 = -3 := by
          rw [f_X4_due, if_neg c_1, if_neg c_2, if_pos c_3]
        exact k_reti hx hb hr hK hP hD hS hlocks dX4_due_46 (by rw [ef])
      ·
        refine lv_aload_n hx hb dX4_due_33 rfl (lv_at hl 0 rfl) ?_
        refine va_get (D := k.1) (ci := 4) (v := .ref (af 0)) (C := RX4) (T := TX4) (N := 5) hx hb hts in_X4_due_X4 hown hK hP 0 rfl rfl 1 (by decide) (k_w hts 3 rfl) (fun _ h9 => h9) rfl dX4_due_34 ?_
        refine lv_iload_n hx hb dX4_due_37 rfl (lv_at hl 1 rfl) ?_
        refine k_Vi (wr := (w_X ax (ap 0) (af 0) (g0) (ay 0) tx) ++ (w_P k ap sP) ++ (w_Y k ay (af 0) sY sJ)) (ws' := (w_X ax (ap 0) (af 0) (g0) (ay 0) tx) ++ (w_P k ap sP) ++ (w_F k af (ap 0) (l0) sF) ++ (w_Y k ay (af 0) sY sJ)) (Rv := (f_X0_isBound sF i1)) (rest := []) ⟨hx, hb, hml, hown, hts⟩ hK hA hP hD hS (c_X0_isBound l k af (ap 0) (l0) sF i1 (by first | assumption | exact k_hs hNs (by assumption) | exact k_hm hNm (by assumption) | exact (k_hb hNs hNm (by assumption)).1 | exact (k_hb hNs hNm (by assumption)).2)) (cwV 1 hts gX4_due_X0_isBound rfl rfl rfl (by decide +kernel) ⟨Nat.le_of_ble_eq_true rfl, Nat.le_of_ble_eq_true rfl⟩) (va_recv hK hP (ci := 0) (q0 := 19) rfl rfl) rfl hl.1 rfl (Nat.le_of_ble_eq_true rfl) dX4_due_38 (Nat.zero_le _) (Nat.zero_le _) [19, 20, 21, 22, 23, 24] [0, 1, 2, 3, 4, 5, 6, 7, 8, 9, 10, 11, 12, 13, 14, 15, 16, 17, 18, 25, 26, 27, 28, 29] [0, 1, 2, 3, 4, 5, 6, 7, 8, 9, 10, 11, 12, 13, 14, 15, 16, 17, 18, 24, 25, 26, 27, 28, 29, 19, 20, 21, 22, 23] rfl rfl rfl (by decide) rfl rfl rfl (fun H locs hP hD hS => ?_)
        refine lv_if_ne (tgt := 47) hx hb dX4_due_41 (by decide) (fun c_4 => ?_) (fun c_4 => ?_)
        ·
          refine lv_aload_n hx hb dX4_due_47 rfl (lv_at hl 0 rfl) ?_
          refine va_get (D := k.1) (ci := 4) (v := .ref (ay 0)) (C := RX4) (T := TX4) (N := 5) hx hb hts in_X4_due_X4 hown hK hP 0 rfl rfl 3 (by decide) (k_w hts 2 rfl) (fun _ h9 => h9) rfl dX4_due_48 ?_
          refine lv_iload_n hx hb dX4_due_51 rfl (lv_at hl 1 rfl) ?_
          refine lv_iload_n hx hb dX4_due_52 rfl (lv_at hl 2 rfl) ?_
          refine k_Vi (wr := (w_X ax (ap 0) (af 0) (g0) (ay 0) tx) ++ (w_P k ap sP)) (ws' := (w_X ax (ap 0) (af 0) (g0) (ay 0) tx) ++ (w_P k ap sP) ++ (w_F k af (ap 0) (l0) sF) ++ (w_Y k ay (af 0) sY sJ)) (Rv := (f_X3_wagesDue sF sY sJ i1 i2)) (rest := []) ⟨hx, hb, hml, hown, hts⟩ hK hA hP hD hS (c_X3_wagesDue l k af ay (ap 0) (l0) sF sY sJ i1 i2 (by first | assumption | exact k_hs hNs (by assumption) | exact k_hm hNm (by assumption) | exact (k_hb hNs hNm (by assumption)).1 | exact (k_hb hNs hNm (by assumption)).2) (k_dy (by assumption)) (hE _ (k_lt (by first | assumption | exact k_hs hNs (by assumption) | exact k_hm hNm (by assumption) | exact (k_hb hNs hNm (by assumption)).1 | exact (k_hb hNs hNm (by assumption)).2)))) (cwV 2 hts gX4_due_X3_wagesDue rfl rfl rfl (by decide +kernel) ⟨Nat.le_of_ble_eq_true rfl, Nat.le_of_ble_eq_true rfl⟩) (va_recv hK hP (ci := 3) (q0 := 25) rfl rfl) rfl hl.1 rfl (Nat.le_of_ble_eq_true rfl) dX4_due_53 (Nat.zero_le _) (Nat.zero_le _) [19, 20, 21, 22, 23, 24, 25, 26, 27, 28, 29] [0, 1, 2, 3, 4, 5, 6, 7, 8, 9, 10, 11, 12, 13, 14, 15, 16, 17, 18] [0, 1, 2, 3, 4, 5, 6, 7, 8, 9, 10, 11, 12, 13, 14, 15, 16, 17, 18, 19, 20, 21, 22, 23, 24, 25, 26, 27, 28, 29] rfl rfl rfl (by decide) rfl rfl rfl (fun H locs hP hD hS => ?_)
          have ef : f_X4_due tx sP sF sY sJ i1 i2 = f_X3_wagesDue sF sY sJ i1 i2 := by
            rw [f_X4_due, if_neg c_1, if_neg c_2, if_neg c_3, if_neg c_4]
          exact k_reti hx hb hr hK hP hD hS hlocks dX4_due_56 (by rw [ef])
        ·
          refine lv_bipush (v := (-3)) hx hb dX4_due_44 (by decide) ?_
          have ef : f_X4_due tx sP sF sY sJ i1 i2 = -3 := by
            rw [f_X4_due, if_neg c_1, if_neg c_2, if_neg c_3, if_pos c_4]
          exact k_reti hx hb hr hK hP hD hS hlocks dX4_due_46 (by rw [ef])
    ·
      refine lv_bipush (v := (-2)) hx hb dX4_due_20 (by decide) ?_
      have ef : f_X4_due tx sP sF sY sJ i1 i2 = -2 := by
        rw [f_X4_due, if_neg c_1, if_pos c_2]
      exact k_reti hx hb hr hK hP hD hS hlocks dX4_due_22 (by rw [ef])
  ·
    refine lv_iconst (v := (-1)) hx hb dX4_due_11 (by decide) ?_
    have ef : f_X4_due tx sP sF sY sJ i1 i2 = -1 := by
      rw [f_X4_due, if_pos c_1]
    exact k_reti hx hb hr hK hP hD hS hlocks dX4_due_12 (by rw [ef])
theorem in_X4_owes_X4 : ∀ w ∈ wsX40, w ∈ wsX4_owes := fun _ h => List.mem_cons_of_mem _ (List.mem_append_left _ (List.mem_append_left _ (List.mem_append_left _ (List.mem_append_right _ h))))
theorem in_X4_owes_X0 : ∀ w ∈ wsX00, w ∈ wsX4_owes := fun _ h => List.mem_cons_of_mem _ (List.mem_append_left _ (List.mem_append_left _ (List.mem_append_right _ h)))
theorem in_X4_owes_X2 : ∀ w ∈ wsX20, w ∈ wsX4_owes := fun _ h => List.mem_cons_of_mem _ (List.mem_append_left _ (List.mem_append_right _ h))
theorem in_X4_owes_X3 : ∀ w ∈ wsX30, w ∈ wsX4_owes := fun _ h => List.mem_cons_of_mem _ (List.mem_append_right _ h)
def f_X4_owes (tx : Int32) (sP : Nat → Nat → Int32) (sF : Nat → Nat → Int32) (sY : Nat → Nat → Int32) (sJ : Nat → Int64) (i1 : Int32) (i2 : Int32) : Int32 :=
  if (f_X2_hasMaster sP i1) = 0 then -1
  else if (f_X4_isDay i2) = 0 then -2
  else if (f_X3_hasBegun sY sJ) = 0 then -3
  else if ((sF 4) i1.toNatClampNeg) = (-9) then 0
  else f_X3_wagesDue sF sY sJ ((sF 4) i1.toNatClampNeg) i2
set_option maxHeartbeats 4000000 in
set_option maxRecDepth 100000 in
theorem c_X4_owes (l : Launch) (k : K_X) (ax : Nat) (ap : Nat → Nat) (af : Nat → Nat) (ay : Nat → Nat) (l0 : Nat) (g0 : Nat) (tx : Int32) (sP : Nat → Nat → Int32) (sF : Nat → Nat → Int32) (sY : Nat → Nat → Int32) (sJ : Nat → Int64) (i1 : Int32) (i2 : Int32) (hNm : k_n (sP 0 1) 10) (hO : ∀ j, j < 10 → k_o (sF 4 j) 10) (hE : ∀ j, j < 10 → k_n (sY 1 j + 1) 364) : k_C l yX4_owes wsX4_owes (k_rm 3 69) k [.ref ax, .int i1, .int i2] ((w_X ax (ap 0) (af 0) (g0) (ay 0) tx) ++ (w_P k ap sP) ++ (w_F k af (ap 0) (l0) sF) ++ (w_Y k ay (af 0) sY sJ)) (k_qI k (f_X4_owes tx sP sF sY sJ i1 i2) ((w_X ax (ap 0) (af 0) (g0) (ay 0) tx) ++ (w_P k ap sP) ++ (w_F k af (ap 0) (l0) sF) ++ (w_Y k ay (af 0) sY sJ))) := by
  refine k_mk (cc := cX4_owes) (maxL := 4) (ret := (some .int)) (by decide) rfl (Nat.le_of_ble_eq_true rfl) ?_
  intro p e s m below meth c A ls C0 hP hD hS hl
  obtain ⟨hx, hb, hr, hts, hown, hlocks, hml, hA, hK⟩ := id C0
  have hown : s.vm.findClass RX4 = some m.cls := hown
  have hl : lv_has ls 4 [(0, .ref ax), (1, .int i1), (2, .int i2)] := hl
  refine lv_aload_n hx hb dX4_owes_0 rfl (lv_at hl 0 rfl) ?_
  refine va_get (D := k.1) (ci := 4) (v := .ref (ap 0)) (C := RX4) (T := TX4) (N := 5) hx hb hts in_X4_owes_X4 hown hK hP 0 rfl rfl 0 (by decide) (k_w hts 1 rfl) (fun _ h9 => h9) rfl dX4_owes_1 ?_
  refine lv_iload_n hx hb dX4_owes_4 rfl (lv_at hl 1 rfl) ?_
  refine k_Vi (wr := (w_X ax (ap 0) (af 0) (g0) (ay 0) tx) ++ (w_F k af (ap 0) (l0) sF) ++ (w_Y k ay (af 0) sY sJ)) (ws' := (w_X ax (ap 0) (af 0) (g0) (ay 0) tx) ++ (w_P k ap sP) ++ (w_F k af (ap 0) (l0) sF) ++ (w_Y k ay (af 0) sY sJ)) (Rv := (f_X2_hasMaster sP i1)) (rest := []) ⟨hx, hb, hml, hown, hts⟩ hK hA hP hD hS (c_X2_hasMaster l k ap sP i1) (cwV 1 hts gX4_owes_X2_hasMaster rfl rfl rfl (by decide +kernel) ⟨Nat.le_of_ble_eq_true rfl, Nat.le_of_ble_eq_true rfl⟩) (va_recv hK hP (ci := 2) (q0 := 1) rfl rfl) rfl hl.1 rfl (Nat.le_of_ble_eq_true rfl) dX4_owes_5 (Nat.zero_le _) (Nat.zero_le _) [1, 2, 3, 4, 5, 6, 7, 8, 9, 10, 11, 12, 13, 14, 15, 16, 17, 18] [0, 19, 20, 21, 22, 23, 24, 25, 26, 27, 28, 29] [0, 12, 13, 14, 15, 16, 17, 18, 19, 20, 21, 22, 23, 24, 25, 26, 27, 28, 29, 1, 2, 3, 4, 5, 6, 7, 8, 9, 10, 11] rfl rfl rfl (by decide) rfl rfl rfl (fun H locs hP hD hS => ?_)
  refine lv_if_ne (tgt := 13) hx hb dX4_owes_8 (by decide) (fun c_1 => ?_) (fun c_1 => ?_)
  ·
    refine lv_iload_n hx hb dX4_owes_13 rfl (lv_at hl 2 rfl) ?_
    refine k_Si (wr := (w_X ax (ap 0) (af 0) (g0) (ay 0) tx) ++ (w_P k ap sP) ++ (w_F k af (ap 0) (l0) sF) ++ (w_Y k ay (af 0) sY sJ)) (ws' := (w_X ax (ap 0) (af 0) (g0) (ay 0) tx) ++ (w_P k ap sP) ++ (w_F k af (ap 0) (l0) sF) ++ (w_Y k ay (af 0) sY sJ)) (Rv := (f_X4_isDay i2)) (rest := []) ⟨hx, hb, hml, hown, hts⟩ hK hA hP hD hS (c_X4_isDay l k i2) (va_cwS 1 hts gX4_owes_X4_isDay rfl rfl rfl (by decide +kernel) ⟨Nat.le_of_ble_eq_true rfl, Nat.le_of_ble_eq_true rfl⟩) rfl hl.1 rfl (Nat.le_of_ble_eq_true rfl) dX4_owes_14 (Nat.zero_le _) (Nat.zero_le _) [] [0, 1, 2, 3, 4, 5, 6, 7, 8, 9, 10, 11, 12, 13, 14, 15, 16, 17, 18, 19, 20, 21, 22, 23, 24, 25, 26, 27, 28, 29] [0, 1, 2, 3, 4, 5, 6, 7, 8, 9, 10, 11, 12, 13, 14, 15, 16, 17, 18, 19, 20, 21, 22, 23, 24, 25, 26, 27, 28, 29] rfl rfl rfl (by decide) rfl rfl rfl (fun H locs hP hD hS => ?_)
    refine lv_if_ne (tgt := 23) hx hb dX4_owes_17 (by decide) (fun c_2 => ?_) (fun c_2 => ?_)
    ·
      refine lv_aload_n hx hb dX4_owes_23 rfl (lv_at hl 0 rfl) ?_
      refine va_get (D := k.1) (ci := 4) (v := .ref (ay 0)) (C := RX4) (T := TX4) (N := 5) hx hb hts in_X4_owes_X4 hown hK hP 0 rfl rfl 3 (by decide) (k_w hts 2 rfl) (fun _ h9 => h9) rfl dX4_owes_24 ?_
      refine k_Vi (wr := (w_X ax (ap 0) (af 0) (g0) (ay 0) tx) ++ (w_P k ap sP) ++ (w_F k af (ap 0) (l0) sF)) (ws' := (w_X ax (ap 0) (af 0) (g0) (ay 0) tx) ++ (w_P k ap sP) ++ (w_F k af (ap 0) (l0) sF) ++ (w_Y k ay (af 0) sY sJ)) (Rv := (f_X3_hasBegun sY sJ)) (rest := []) ⟨hx, hb, hml, hown, hts⟩ hK hA hP hD hS (c_X3_hasBegun l k ay (af 0) sY sJ) (cwV 0 hts gX4_owes_X3_hasBegun rfl rfl rfl (by decide +kernel) ⟨Nat.le_of_ble_eq_true rfl, Nat.le_of_ble_eq_true rfl⟩) (va_recv hK hP (ci := 3) (q0 := 25) rfl rfl) rfl hl.1 rfl (Nat.le_of_ble_eq_true rfl) dX4_owes_27 (Nat.zero_le _) (Nat.zero_le _) [25, 26, 27, 28, 29] [0, 1, 2, 3, 4, 5, 6, 7, 8, 9, 10, 11, 12, 13, 14, 15, 16, 17, 18, 19, 20, 21, 22, 23, 24] [0, 1, 2, 3, 4, 5, 6, 7, 8, 9, 10, 11, 12, 13, 14, 15, 16, 17, 18, 19, 20, 21, 22, 23, 24, 25, 26, 27, 28, 29] rfl rfl rfl (by decide) rfl rfl rfl (fun H locs hP hD hS => ?_)
      refine lv_if_ne (tgt := 36) hx hb dX4_owes_30 (by decide) (fun c_3 => ?_) (fun c_3 => ?_)
      ·
        refine lv_aload_n hx hb dX4_owes_36 rfl (lv_at hl 0 rfl) ?_
        refine va_get (D := k.1) (ci := 4) (v := .ref (af 0)) (C := RX4) (T := TX4) (N := 5) hx hb hts in_X4_owes_X4 hown hK hP 0 rfl rfl 1 (by decide) (k_w hts 3 rfl) (fun _ h9 => h9) rfl dX4_owes_37 ?_
        refine va_get (D := k.1) (ci := 0) (v := .ref (af 4)) (C := RX0) (T := TX0) (N := 8) hx hb hts in_X4_owes_X0 hown hK hP 19 rfl rfl 6 (by decide) (k_w hts 4 rfl) (fun _ h9 => h9) rfl dX4_owes_40 ?_
        refine lv_iload_n hx hb dX4_owes_43 rfl (lv_at hl 1 rfl) ?_
        refine va_iald (f := sF 4) hx hb hK hP 23 0 rfl rfl (by first | assumption | exact k_hs hNs (by assumption) | exact k_hm hNm (by assumption) | exact (k_hb hNs hNm (by assumption)).1 | exact (k_hb hNs hNm (by assumption)).2) dX4_owes_44 ?_
        refine lv_istore_n (lv' := [(3, .int ((sF 4) i1.toNatClampNeg)), (0, .ref ax), (1, .int i1), (2, .int i2)]) hx hb dX4_owes_45 rfl hl (by decide) rfl (fun ls hl => ?_)
        refine lv_iload_n hx hb dX4_owes_46 rfl (lv_at hl 0 rfl) ?_
        refine lv_bipush (v := (-9)) hx hb dX4_owes_47 (by decide) ?_
        refine lv_icmp_ne (tgt := 56) hx hb dX4_owes_49 (by decide) (fun c_4 => ?_) (fun c_4 => ?_)
        ·
          refine lv_aload_n hx hb dX4_owes_56 rfl (lv_at hl 1 rfl) ?_
          refine va_get (D := k.1) (ci := 4) (v := .ref (ay 0)) (C := RX4) (T := TX4) (N := 5) hx hb hts in_X4_owes_X4 hown hK hP 0 rfl rfl 3 (by decide) (k_w hts 2 rfl) (fun _ h9 => h9) rfl dX4_owes_57 ?_
          refine lv_iload_n hx hb dX4_owes_60 rfl (lv_at hl 0 rfl) ?_
          refine lv_iload_n hx hb dX4_owes_61 rfl (lv_at hl 3 rfl) ?_
          refine k_Vi (wr := (w_X ax (ap 0) (af 0) (g0) (ay 0) tx) ++ (w_P k ap sP)) (ws' := (w_X ax (ap 0) (af 0) (g0) (ay 0) tx) ++ (w_P k ap sP) ++ (w_F k af (ap 0) (l0) sF) ++ (w_Y k ay (af 0) sY sJ)) (Rv := (f_X3_wagesDue sF sY sJ ((sF 4) i1.toNatClampNeg) i2)) (rest := []) ⟨hx, hb, hml, hown, hts⟩ hK hA hP hD hS (c_X3_wagesDue l k af ay (ap 0) (l0) sF sY sJ ((sF 4) i1.toNatClampNeg) i2 ((hO _ (k_lt (by first | assumption | exact k_hs hNs (by assumption) | exact k_hm hNm (by assumption) | exact (k_hb hNs hNm (by assumption)).1 | exact (k_hb hNs hNm (by assumption)).2))).in (by assumption)) (k_dy (by assumption)) (hE _ (k_lt ((hO _ (k_lt (by first | assumption | exact k_hs hNs (by assumption) | exact k_hm hNm (by assumption) | exact (k_hb hNs hNm (by assumption)).1 | exact (k_hb hNs hNm (by assumption)).2))).in (by assumption))))) (cwV 2 hts gX4_owes_X3_wagesDue rfl rfl rfl (by decide +kernel) ⟨Nat.le_of_ble_eq_true rfl, Nat.le_of_ble_eq_true rfl⟩) (va_recv hK hP (ci := 3) (q0 := 25) rfl rfl) rfl hl.1 rfl (Nat.le_of_ble_eq_true rfl) dX4_owes_62 (Nat.zero_le _) (Nat.zero_le _) [19, 20, 21, 22, 23, 24, 25, 26, 27, 28, 29] [0, 1, 2, 3, 4, 5, 6, 7, 8, 9, 10, 11, 12, 13, 14, 15, 16, 17, 18] [0, 1, 2, 3, 4, 5, 6, 7, 8, 9, 10, 11, 12, 13, 14, 15, 16, 17, 18, 19, 20, 21, 22, 23, 24, 25, 26, 27, 28, 29] rfl rfl rfl (by decide) rfl rfl rfl (fun H locs hP hD hS => ?_)
          have ef : f_X4_owes tx sP sF sY sJ i1 i2 = f_X3_wagesDue sF sY sJ ((sF 4) i1.toNatClampNeg) i2 := by
            rw [f_X4_owes, if_neg c_1, if_neg c_2, if_neg c_3, if_neg c_4]
          exact k_reti hx hb hr hK hP hD hS hlocks dX4_owes_65 (by rw [ef])
        ·
          refine lv_iconst (v := 0) hx hb dX4_owes_52 (by decide) ?_
          refine lv_goto (tgt := 65) hx hb dX4_owes_53 (by decide) ?_
          have ef : f_X4_owes tx sP sF sY sJ i1 i2 = 0 := by
            rw [f_X4_owes, if_neg c_1, if_neg c_2, if_neg c_3, if_pos c_4]
          exact k_reti hx hb hr hK hP hD hS hlocks dX4_owes_65 (by rw [ef])
      ·
        refine lv_bipush (v := (-3)) hx hb dX4_owes_33 (by decide) ?_
        have ef : f_X4_owes tx sP sF sY sJ i1 i2 = -3 := by
          rw [f_X4_owes, if_neg c_1, if_neg c_2, if_pos c_3]
        exact k_reti hx hb hr hK hP hD hS hlocks dX4_owes_35 (by rw [ef])
    ·
      refine lv_bipush (v := (-2)) hx hb dX4_owes_20 (by decide) ?_
      have ef : f_X4_owes tx sP sF sY sJ i1 i2 = -2 := by
        rw [f_X4_owes, if_neg c_1, if_pos c_2]
      exact k_reti hx hb hr hK hP hD hS hlocks dX4_owes_22 (by rw [ef])
  ·
    refine lv_iconst (v := (-1)) hx hb dX4_owes_11 (by decide) ?_
    have ef : f_X4_owes tx sP sF sY sJ i1 i2 = -1 := by
      rw [f_X4_owes, if_pos c_1]
    exact k_reti hx hb hr hK hP hD hS hlocks dX4_owes_12 (by rw [ef])
theorem in_X4_hands_X4 : ∀ w ∈ wsX40, w ∈ wsX4_hands := fun _ h => List.mem_cons_of_mem _ (List.mem_append_left _ (List.mem_append_left _ (List.mem_append_left _ (List.mem_append_right _ h))))
theorem in_X4_hands_X2 : ∀ w ∈ wsX20, w ∈ wsX4_hands := fun _ h => List.mem_cons_of_mem _ (List.mem_append_left _ (List.mem_append_left _ (List.mem_append_right _ h)))
theorem in_X4_hands_X3 : ∀ w ∈ wsX30, w ∈ wsX4_hands := fun _ h => List.mem_cons_of_mem _ (List.mem_append_left _ (List.mem_append_right _ h))
theorem in_X4_hands_X0 : ∀ w ∈ wsX00, w ∈ wsX4_hands := fun _ h => List.mem_cons_of_mem _ (List.mem_append_right _ h)
def g_X4_hands_lp (tx : Int32) (sP : Nat → Nat → Int32) (sF : Nat → Nat → Int32) (sY : Nat → Nat → Int32) (sJ : Nat → Int64) (i1 : Int32) (i2 : Int32) : Nat → Nat → Int32 → Int32
  | 0, j, a1 => a1
  | r + 1, j, a1 => if ((sP 1) (nI j).toNatClampNeg) = i1 then (if (f_X3_servesOn sF sY sJ (nI j) i2) = 0 then g_X4_hands_lp tx sP sF sY sJ i1 i2 r (j + 1) a1
      else g_X4_hands_lp tx sP sF sY sJ i1 i2 r (j + 1) (a1 + 1))
    else g_X4_hands_lp tx sP sF sY sJ i1 i2 r (j + 1) a1
set_option maxHeartbeats 4000000 in
set_option maxRecDepth 100000 in
theorem lp_X4_hands_lp {p : Program} {l : Launch} {e : Env} {s : State} {m : MethodId} {below : List Frame} {meth : Method} {c : Code} {A : Nat → Prop} {Q : State → Prop} {av : Array Value} (k : K_X) (ax : Nat) (ap : Nat → Nat) (af : Nat → Nat) (ay : Nat → Nat) (l0 : Nat) (g0 : Nat) (tx : Int32) (sP : Nat → Nat → Int32) (sF : Nat → Nat → Int32) (sY : Nat → Nat → Int32) (sJ : Nat → Int64) (i1 : Int32) (i2 : Int32) (C0 : k_Cx p s m meth c k cX4_hands (some .int) wsX4_hands RX4 5 av A) (hNs : k_n (sP 0 0) 10) : ∀ (r j : Nat) (a1 : Int32) (H : Heap) (locs : List Loc) (ls : Array Slot), j + r = (sP 0 0).toNatClampNeg → va_P k.1 vwCl ((w_X ax (ap 0) (af 0) (g0) (ay 0) tx) ++ (w_P k ap sP) ++ (w_F k af (ap 0) (l0) sF) ++ (w_Y k ay (af 0) sY sJ)) H → va_D A ((w_X ax (ap 0) (af 0) (g0) (ay 0) tx) ++ (w_P k ap sP) ++ (w_F k af (ap 0) (l0) sF) ++ (w_Y k ay (af 0) sY sJ)) → va_S A s.heap H locs → lv_has ls 5 [(0, .ref ax), (1, .int i1), (2, .int i2), (3, .int a1), (4, .int (nI j))] → (∀ (H : Heap) (locs : List Loc) (ls : Array Slot), va_P k.1 vwCl ((w_X ax (ap 0) (af 0) (g0) (ay 0) tx) ++ (w_P k ap sP) ++ (w_F k af (ap 0) (l0) sF) ++ (w_Y k ay (af 0) sY sJ)) H → va_D A ((w_X ax (ap 0) (af 0) (g0) (ay 0) tx) ++ (w_P k ap sP) ++ (w_F k af (ap 0) (l0) sF) ++ (w_Y k ay (af 0) sY sJ)) → va_S A s.heap H locs → lv_has ls 5 [(0, .ref ax), (1, .int i1), (2, .int i2), (3, .int (g_X4_hands_lp tx sP sF sY sJ i1 i2 r j a1))] → W p l e (k_rm 2 43) s m av below meth c H locs 0 0 Q (F0 m 83 ls [])) → W p l e (k_rm 2 43) s m av below meth c H locs 0 0 Q (F0 m 35 ls []) := by
  obtain ⟨hx, hb, hr, hts, hown, hlocks, hml, hA, hK⟩ := id C0
  have hq := hNs.2
  intro r
  induction r with
  | zero =>
    intro j a1 H locs ls hj hP hD hS hl hQ
    refine lv_iload hx hb dX4_hands_35 (lv_at hl 4 rfl) ?_
    refine lv_aload_n hx hb dX4_hands_37 rfl (lv_at hl 0 rfl) ?_
    refine va_get (D := k.1) (ci := 4) (v := .ref (ap 0)) (C := RX4) (T := TX4) (N := 5) hx hb hts in_X4_hands_X4 hown hK hP 0 rfl rfl 0 (by decide) (k_w hts 2 rfl) (fun _ h9 => h9) rfl dX4_hands_38 ?_
    refine va_get (D := k.1) (ci := 2) (v := .int (sP 0 0)) (C := RX2) (T := TX2) (N := 9) hx hb hts in_X4_hands_X2 hown hK hP 1 rfl rfl 0 (by decide) (k_w hts 3 rfl) (fun _ h9 => h9) rfl dX4_hands_41 ?_
    refine lv_icmp_ge (tgt := 83) hx hb dX4_hands_44 (by decide) (fun c_1 => ?_) (fun c_1 => ?_)
    rotate_left
    · exact absurd (hNs.ge (by omega)) c_1
    have eg : g_X4_hands_lp tx sP sF sY sJ i1 i2 0 j a1 = a1 := by
      rw [g_X4_hands_lp]
    rw [eg] at hQ
    exact hQ _ _ _ hP hD hS (lv_sub hl [0, 1, 2, 3] rfl)
  | succ r ih =>
    intro j a1 H locs ls hj hP hD hS hl hQ
    refine lv_iload hx hb dX4_hands_35 (lv_at hl 4 rfl) ?_
    refine lv_aload_n hx hb dX4_hands_37 rfl (lv_at hl 0 rfl) ?_
    refine va_get (D := k.1) (ci := 4) (v := .ref (ap 0)) (C := RX4) (T := TX4) (N := 5) hx hb hts in_X4_hands_X4 hown hK hP 0 rfl rfl 0 (by decide) (k_w hts 2 rfl) (fun _ h9 => h9) rfl dX4_hands_38 ?_
    refine va_get (D := k.1) (ci := 2) (v := .int (sP 0 0)) (C := RX2) (T := TX2) (N := 9) hx hb hts in_X4_hands_X2 hown hK hP 1 rfl rfl 0 (by decide) (k_w hts 3 rfl) (fun _ h9 => h9) rfl dX4_hands_41 ?_
    refine lv_icmp_ge (tgt := 83) hx hb dX4_hands_44 (by decide) (fun c_1 => ?_) (fun c_1 => ?_)
    · exact absurd c_1 (hNs.nge (by omega))
    refine lv_aload_n hx hb dX4_hands_47 rfl (lv_at hl 0 rfl) ?_
    refine va_get (D := k.1) (ci := 4) (v := .ref (ap 0)) (C := RX4) (T := TX4) (N := 5) hx hb hts in_X4_hands_X4 hown hK hP 0 rfl rfl 0 (by decide) (k_w hts 2 rfl) (fun _ h9 => h9) rfl dX4_hands_48 ?_
    refine va_get (D := k.1) (ci := 2) (v := .ref (ap 1)) (C := RX2) (T := TX2) (N := 9) hx hb hts in_X4_hands_X2 hown hK hP 1 rfl rfl 1 (by decide) (k_w hts 4 rfl) (fun _ h9 => h9) rfl dX4_hands_51 ?_
    refine lv_iload hx hb dX4_hands_54 (lv_at hl 4 rfl) ?_
    refine va_iald (f := sP 1) hx hb hK hP 2 0 rfl rfl (vp_in_nI (by omega) (by omega)) dX4_hands_56 ?_
    refine lv_iload_n hx hb dX4_hands_57 rfl (lv_at hl 1 rfl) ?_
    refine lv_icmp_ne (tgt := 77) hx hb dX4_hands_58 (by decide) (fun c_2 => ?_) (fun c_2 => ?_)
    ·
      refine lv_iinc (v := nI (j + 1)) (lv' := [(4, .int (nI (j + 1))), (0, .ref ax), (1, .int i1), (2, .int i2), (3, .int a1)]) hx hb dX4_hands_77 hl (k := 4) rfl (nI_1 j) (by decide) rfl (fun ls hl => ?_)
      refine lv_goto (tgt := 35) hx hb dX4_hands_80 (by decide) ?_
      have eg : g_X4_hands_lp tx sP sF sY sJ i1 i2 (r + 1) j a1 = g_X4_hands_lp tx sP sF sY sJ i1 i2 r (j + 1) a1 := by
        rw [g_X4_hands_lp, if_neg c_2]
      rw [eg] at hQ
      exact ih (j + 1) a1 _ _ _ (by omega) hP hD hS (lv_sub hl [1, 2, 3, 4, 0] rfl) hQ
    ·
      refine lv_aload_n hx hb dX4_hands_61 rfl (lv_at hl 0 rfl) ?_
      refine va_get (D := k.1) (ci := 4) (v := .ref (ay 0)) (C := RX4) (T := TX4) (N := 5) hx hb hts in_X4_hands_X4 hown hK hP 0 rfl rfl 3 (by decide) (k_w hts 1 rfl) (fun _ h9 => h9) rfl dX4_hands_62 ?_
      refine lv_iload hx hb dX4_hands_65 (lv_at hl 4 rfl) ?_
      refine lv_iload_n hx hb dX4_hands_67 rfl (lv_at hl 2 rfl) ?_
      refine k_Vi (wr := (w_X ax (ap 0) (af 0) (g0) (ay 0) tx) ++ (w_P k ap sP)) (ws' := (w_X ax (ap 0) (af 0) (g0) (ay 0) tx) ++ (w_P k ap sP) ++ (w_F k af (ap 0) (l0) sF) ++ (w_Y k ay (af 0) sY sJ)) (Rv := (f_X3_servesOn sF sY sJ (nI j) i2)) (rest := []) ⟨hx, hb, hml, hown, hts⟩ hK hA hP hD hS (c_X3_servesOn l k af ay (ap 0) (l0) sF sY sJ (nI j) i2 (vp_in_nI (by omega) (by omega))) (cwV 2 hts gX4_hands_X3_servesOn rfl rfl rfl (by decide +kernel) ⟨Nat.le_of_ble_eq_true rfl, Nat.le_of_ble_eq_true rfl⟩) (va_recv hK hP (ci := 3) (q0 := 25) rfl rfl) rfl hl.1 rfl (Nat.le_of_ble_eq_true rfl) dX4_hands_68 (Nat.zero_le _) (Nat.zero_le _) [19, 20, 21, 22, 23, 24, 25, 26, 27, 28, 29] [0, 1, 2, 3, 4, 5, 6, 7, 8, 9, 10, 11, 12, 13, 14, 15, 16, 17, 18] [0, 1, 2, 3, 4, 5, 6, 7, 8, 9, 10, 11, 12, 13, 14, 15, 16, 17, 18, 19, 20, 21, 22, 23, 24, 25, 26, 27, 28, 29] rfl rfl rfl (by decide) rfl rfl rfl (fun H locs hP hD hS => ?_)
      refine lv_if_eq (tgt := 77) hx hb dX4_hands_71 (by decide) (fun c_3 => ?_) (fun c_3 => ?_)
      ·
        refine lv_iinc (v := nI (j + 1)) (lv' := [(4, .int (nI (j + 1))), (0, .ref ax), (1, .int i1), (2, .int i2), (3, .int a1)]) hx hb dX4_hands_77 hl (k := 4) rfl (nI_1 j) (by decide) rfl (fun ls hl => ?_)
        refine lv_goto (tgt := 35) hx hb dX4_hands_80 (by decide) ?_
        have eg : g_X4_hands_lp tx sP sF sY sJ i1 i2 (r + 1) j a1 = g_X4_hands_lp tx sP sF sY sJ i1 i2 r (j + 1) a1 := by
          rw [g_X4_hands_lp, if_pos c_2, if_pos c_3]
        rw [eg] at hQ
        exact ih (j + 1) a1 _ _ _ (by omega) hP hD hS (lv_sub hl [1, 2, 3, 4, 0] rfl) hQ
      ·
        refine lv_iinc (v := a1 + 1) (lv' := [(3, .int (a1 + 1)), (0, .ref ax), (1, .int i1), (2, .int i2), (4, .int (nI j))]) hx hb dX4_hands_74 hl (k := 3) rfl rfl (by decide) rfl (fun ls hl => ?_)
        refine lv_iinc (v := nI (j + 1)) (lv' := [(4, .int (nI (j + 1))), (3, .int (a1 + 1)), (0, .ref ax), (1, .int i1), (2, .int i2)]) hx hb dX4_hands_77 hl (k := 4) rfl (nI_1 j) (by decide) rfl (fun ls hl => ?_)
        refine lv_goto (tgt := 35) hx hb dX4_hands_80 (by decide) ?_
        have eg : g_X4_hands_lp tx sP sF sY sJ i1 i2 (r + 1) j a1 = g_X4_hands_lp tx sP sF sY sJ i1 i2 r (j + 1) (a1 + 1) := by
          rw [g_X4_hands_lp, if_pos c_2, if_neg c_3]
        rw [eg] at hQ
        exact ih (j + 1) (a1 + 1) _ _ _ (by omega) hP hD hS (lv_sub hl [2, 3, 4, 1, 0] rfl) hQ
def f_X4_hands (tx : Int32) (sP : Nat → Nat → Int32) (sF : Nat → Nat → Int32) (sY : Nat → Nat → Int32) (sJ : Nat → Int64) (i1 : Int32) (i2 : Int32) : Int32 :=
  if (f_X4_isKind i1) = 0 then -2
  else if (f_X4_isDay i2) = 0 then -2
  else if (f_X3_hasBegun sY sJ) = 0 then -3
  else g_X4_hands_lp tx sP sF sY sJ i1 i2 ((sP 0 0).toNatClampNeg) 0 0
set_option maxHeartbeats 4000000 in
set_option maxRecDepth 100000 in
theorem c_X4_hands (l : Launch) (k : K_X) (ax : Nat) (ap : Nat → Nat) (af : Nat → Nat) (ay : Nat → Nat) (l0 : Nat) (g0 : Nat) (tx : Int32) (sP : Nat → Nat → Int32) (sF : Nat → Nat → Int32) (sY : Nat → Nat → Int32) (sJ : Nat → Int64) (i1 : Int32) (i2 : Int32) (hNs : k_n (sP 0 0) 10) : k_C l yX4_hands wsX4_hands (k_rm 2 43) k [.ref ax, .int i1, .int i2] ((w_X ax (ap 0) (af 0) (g0) (ay 0) tx) ++ (w_P k ap sP) ++ (w_F k af (ap 0) (l0) sF) ++ (w_Y k ay (af 0) sY sJ)) (k_qI k (f_X4_hands tx sP sF sY sJ i1 i2) ((w_X ax (ap 0) (af 0) (g0) (ay 0) tx) ++ (w_P k ap sP) ++ (w_F k af (ap 0) (l0) sF) ++ (w_Y k ay (af 0) sY sJ))) := by
  refine k_mk (cc := cX4_hands) (maxL := 5) (ret := (some .int)) (by decide) rfl (Nat.le_of_ble_eq_true rfl) ?_
  intro p e s m below meth c A ls C0 hP hD hS hl
  obtain ⟨hx, hb, hr, hts, hown, hlocks, hml, hA, hK⟩ := id C0
  have hown : s.vm.findClass RX4 = some m.cls := hown
  have hl : lv_has ls 5 [(0, .ref ax), (1, .int i1), (2, .int i2)] := hl
  refine lv_iload_n hx hb dX4_hands_0 rfl (lv_at hl 1 rfl) ?_
  refine k_Si (wr := (w_X ax (ap 0) (af 0) (g0) (ay 0) tx) ++ (w_P k ap sP) ++ (w_F k af (ap 0) (l0) sF) ++ (w_Y k ay (af 0) sY sJ)) (ws' := (w_X ax (ap 0) (af 0) (g0) (ay 0) tx) ++ (w_P k ap sP) ++ (w_F k af (ap 0) (l0) sF) ++ (w_Y k ay (af 0) sY sJ)) (Rv := (f_X4_isKind i1)) (rest := []) ⟨hx, hb, hml, hown, hts⟩ hK hA hP hD hS (c_X4_isKind l k i1) (va_cwS 1 hts gX4_hands_X4_isKind rfl rfl rfl (by decide +kernel) ⟨Nat.le_of_ble_eq_true rfl, Nat.le_of_ble_eq_true rfl⟩) rfl hl.1 rfl (Nat.le_of_ble_eq_true rfl) dX4_hands_1 (Nat.zero_le _) (Nat.zero_le _) [] [0, 1, 2, 3, 4, 5, 6, 7, 8, 9, 10, 11, 12, 13, 14, 15, 16, 17, 18, 19, 20, 21, 22, 23, 24, 25, 26, 27, 28, 29] [0, 1, 2, 3, 4, 5, 6, 7, 8, 9, 10, 11, 12, 13, 14, 15, 16, 17, 18, 19, 20, 21, 22, 23, 24, 25, 26, 27, 28, 29] rfl rfl rfl (by decide) rfl rfl rfl (fun H locs hP hD hS => ?_)
  refine lv_if_eq (tgt := 14) hx hb dX4_hands_4 (by decide) (fun c_1 => ?_) (fun c_1 => ?_)
  ·
    refine lv_bipush (v := (-2)) hx hb dX4_hands_14 (by decide) ?_
    have ef : f_X4_hands tx sP sF sY sJ i1 i2 = -2 := by
      rw [f_X4_hands, if_pos c_1]
    exact k_reti hx hb hr hK hP hD hS hlocks dX4_hands_16 (by rw [ef])
  ·
    refine lv_iload_n hx hb dX4_hands_7 rfl (lv_at hl 2 rfl) ?_
    refine k_Si (wr := (w_X ax (ap 0) (af 0) (g0) (ay 0) tx) ++ (w_P k ap sP) ++ (w_F k af (ap 0) (l0) sF) ++ (w_Y k ay (af 0) sY sJ)) (ws' := (w_X ax (ap 0) (af 0) (g0) (ay 0) tx) ++ (w_P k ap sP) ++ (w_F k af (ap 0) (l0) sF) ++ (w_Y k ay (af 0) sY sJ)) (Rv := (f_X4_isDay i2)) (rest := []) ⟨hx, hb, hml, hown, hts⟩ hK hA hP hD hS (c_X4_isDay l k i2) (va_cwS 1 hts gX4_hands_X4_isDay rfl rfl rfl (by decide +kernel) ⟨Nat.le_of_ble_eq_true rfl, Nat.le_of_ble_eq_true rfl⟩) rfl hl.1 rfl (Nat.le_of_ble_eq_true rfl) dX4_hands_8 (Nat.zero_le _) (Nat.zero_le _) [] [0, 1, 2, 3, 4, 5, 6, 7, 8, 9, 10, 11, 12, 13, 14, 15, 16, 17, 18, 19, 20, 21, 22, 23, 24, 25, 26, 27, 28, 29] [0, 1, 2, 3, 4, 5, 6, 7, 8, 9, 10, 11, 12, 13, 14, 15, 16, 17, 18, 19, 20, 21, 22, 23, 24, 25, 26, 27, 28, 29] rfl rfl rfl (by decide) rfl rfl rfl (fun H locs hP hD hS => ?_)
    refine lv_if_ne (tgt := 17) hx hb dX4_hands_11 (by decide) (fun c_2 => ?_) (fun c_2 => ?_)
    ·
      refine lv_aload_n hx hb dX4_hands_17 rfl (lv_at hl 0 rfl) ?_
      refine va_get (D := k.1) (ci := 4) (v := .ref (ay 0)) (C := RX4) (T := TX4) (N := 5) hx hb hts in_X4_hands_X4 hown hK hP 0 rfl rfl 3 (by decide) (k_w hts 1 rfl) (fun _ h9 => h9) rfl dX4_hands_18 ?_
      refine k_Vi (wr := (w_X ax (ap 0) (af 0) (g0) (ay 0) tx) ++ (w_P k ap sP) ++ (w_F k af (ap 0) (l0) sF)) (ws' := (w_X ax (ap 0) (af 0) (g0) (ay 0) tx) ++ (w_P k ap sP) ++ (w_F k af (ap 0) (l0) sF) ++ (w_Y k ay (af 0) sY sJ)) (Rv := (f_X3_hasBegun sY sJ)) (rest := []) ⟨hx, hb, hml, hown, hts⟩ hK hA hP hD hS (c_X3_hasBegun l k ay (af 0) sY sJ) (cwV 0 hts gX4_hands_X3_hasBegun rfl rfl rfl (by decide +kernel) ⟨Nat.le_of_ble_eq_true rfl, Nat.le_of_ble_eq_true rfl⟩) (va_recv hK hP (ci := 3) (q0 := 25) rfl rfl) rfl hl.1 rfl (Nat.le_of_ble_eq_true rfl) dX4_hands_21 (Nat.zero_le _) (Nat.zero_le _) [25, 26, 27, 28, 29] [0, 1, 2, 3, 4, 5, 6, 7, 8, 9, 10, 11, 12, 13, 14, 15, 16, 17, 18, 19, 20, 21, 22, 23, 24] [0, 1, 2, 3, 4, 5, 6, 7, 8, 9, 10, 11, 12, 13, 14, 15, 16, 17, 18, 19, 20, 21, 22, 23, 24, 25, 26, 27, 28, 29] rfl rfl rfl (by decide) rfl rfl rfl (fun H locs hP hD hS => ?_)
      refine lv_if_ne (tgt := 30) hx hb dX4_hands_24 (by decide) (fun c_3 => ?_) (fun c_3 => ?_)
      ·
        refine lv_iconst (v := 0) hx hb dX4_hands_30 (by decide) ?_
        refine lv_istore_n (lv' := [(3, .int 0), (0, .ref ax), (1, .int i1), (2, .int i2)]) hx hb dX4_hands_31 rfl hl (by decide) rfl (fun ls hl => ?_)
        refine lv_iconst (v := 0) hx hb dX4_hands_32 (by decide) ?_
        refine lv_istore (lv' := [(4, .int 0), (3, .int 0), (0, .ref ax), (1, .int i1), (2, .int i2)]) hx hb dX4_hands_33 hl (by decide) rfl (fun ls hl => ?_)
        have hl : lv_has ls 5 [(0, .ref ax), (1, .int i1), (2, .int i2), (3, .int 0), (4, .int (nI 0))] := lv_sub hl [2, 3, 4, 1, 0] rfl
        refine lp_X4_hands_lp k ax ap af ay l0 g0 tx sP sF sY sJ i1 i2 C0 (by first | assumption | omega) ((sP 0 0).toNatClampNeg) 0 0 _ _ _ (by omega) hP hD hS hl (fun H locs ls hP hD hS hl => ?_)
        refine lv_iload_n hx hb dX4_hands_83 rfl (lv_at hl 3 rfl) ?_
        have ef : f_X4_hands tx sP sF sY sJ i1 i2 = g_X4_hands_lp tx sP sF sY sJ i1 i2 ((sP 0 0).toNatClampNeg) 0 0 := by
          rw [f_X4_hands, if_neg c_1, if_neg c_2, if_neg c_3]
        exact k_reti hx hb hr hK hP hD hS hlocks dX4_hands_84 (by rw [ef])
      ·
        refine lv_bipush (v := (-3)) hx hb dX4_hands_27 (by decide) ?_
        have ef : f_X4_hands tx sP sF sY sJ i1 i2 = -3 := by
          rw [f_X4_hands, if_neg c_1, if_neg c_2, if_pos c_3]
        exact k_reti hx hb hr hK hP hD hS hlocks dX4_hands_29 (by rw [ef])
    ·
      refine lv_bipush (v := (-2)) hx hb dX4_hands_14 (by decide) ?_
      have ef : f_X4_hands tx sP sF sY sJ i1 i2 = -2 := by
        rw [f_X4_hands, if_neg c_1, if_pos c_2]
      exact k_reti hx hb hr hK hP hD hS hlocks dX4_hands_16 (by rw [ef])
theorem in_X4_total_X4 : ∀ w ∈ wsX40, w ∈ wsX4_total := fun _ h => List.mem_cons_of_mem _ (List.mem_append_left _ (List.mem_append_left _ (List.mem_append_left _ (List.mem_append_right _ h))))
theorem in_X4_total_X2 : ∀ w ∈ wsX20, w ∈ wsX4_total := fun _ h => List.mem_cons_of_mem _ (List.mem_append_left _ (List.mem_append_left _ (List.mem_append_right _ h)))
theorem in_X4_total_X0 : ∀ w ∈ wsX00, w ∈ wsX4_total := fun _ h => List.mem_cons_of_mem _ (List.mem_append_left _ (List.mem_append_right _ h))
theorem in_X4_total_X3 : ∀ w ∈ wsX30, w ∈ wsX4_total := fun _ h => List.mem_cons_of_mem _ (List.mem_append_right _ h)
def f_X4_total (tx : Int32) (sP : Nat → Nat → Int32) (sF : Nat → Nat → Int32) (sY : Nat → Nat → Int32) (sJ : Nat → Int64) (i1 : Int32) : Int32 :=
  if i1 = 0 then sP 0 0
  else if i1 = 1 then sP 0 1
  else if i1 = 2 then f_X0_countBound sP sF
  else if i1 = 3 then sF 0 0
  else if i1 = 4 then sY 0 0
  else if i1 = 5 then f_X0_sumWages sP sF
  else if i1 = 6 then tx
  else -2
set_option maxHeartbeats 4000000 in
set_option maxRecDepth 100000 in
theorem c_X4_total (l : Launch) (k : K_X) (ax : Nat) (ap : Nat → Nat) (af : Nat → Nat) (ay : Nat → Nat) (l0 : Nat) (g0 : Nat) (tx : Int32) (sP : Nat → Nat → Int32) (sF : Nat → Nat → Int32) (sY : Nat → Nat → Int32) (sJ : Nat → Int64) (i1 : Int32) (hNs : k_n (sP 0 0) 10) : k_C l yX4_total wsX4_total (k_rm 2 43) k [.ref ax, .int i1] ((w_X ax (ap 0) (af 0) (g0) (ay 0) tx) ++ (w_P k ap sP) ++ (w_F k af (ap 0) (l0) sF) ++ (w_Y k ay (af 0) sY sJ)) (k_qI k (f_X4_total tx sP sF sY sJ i1) ((w_X ax (ap 0) (af 0) (g0) (ay 0) tx) ++ (w_P k ap sP) ++ (w_F k af (ap 0) (l0) sF) ++ (w_Y k ay (af 0) sY sJ))) := by
  refine k_mk (cc := cX4_total) (maxL := 2) (ret := (some .int)) (by decide) rfl (Nat.le_of_ble_eq_true rfl) ?_
  intro p e s m below meth c A ls C0 hP hD hS hl
  obtain ⟨hx, hb, hr, hts, hown, hlocks, hml, hA, hK⟩ := id C0
  have hown : s.vm.findClass RX4 = some m.cls := hown
  have hl : lv_has ls 2 [(0, .ref ax), (1, .int i1)] := hl
  refine lv_iload_n hx hb dX4_total_0 rfl (lv_at hl 1 rfl) ?_
  by_cases c_1 : i1 = 0
  ·
    refine lv_tableIn (off := 43) (tgt := 44) hx hb dX4_total_1 (by rw [c_1]; decide) (by rw [c_1]; decide) (by rw [c_1]; rfl) (by decide) ?_
    refine lv_aload_n hx hb dX4_total_44 rfl (lv_at hl 0 rfl) ?_
    refine va_get (D := k.1) (ci := 4) (v := .ref (ap 0)) (C := RX4) (T := TX4) (N := 5) hx hb hts in_X4_total_X4 hown hK hP 0 rfl rfl 0 (by decide) (k_w hts 1 rfl) (fun _ h9 => h9) rfl dX4_total_45 ?_
    refine va_get (D := k.1) (ci := 2) (v := .int (sP 0 0)) (C := RX2) (T := TX2) (N := 9) hx hb hts in_X4_total_X2 hown hK hP 1 rfl rfl 0 (by decide) (k_w hts 2 rfl) (fun _ h9 => h9) rfl dX4_total_48 ?_
    have ef : f_X4_total tx sP sF sY sJ i1 = sP 0 0 := by
      rw [f_X4_total, if_pos c_1]
    exact k_reti hx hb hr hK hP hD hS hlocks dX4_total_51 (by rw [ef])
  by_cases c_2 : i1 = 1
  ·
    refine lv_tableIn (off := 51) (tgt := 52) hx hb dX4_total_1 (by rw [c_2]; decide) (by rw [c_2]; decide) (by rw [c_2]; rfl) (by decide) ?_
    refine lv_aload_n hx hb dX4_total_52 rfl (lv_at hl 0 rfl) ?_
    refine va_get (D := k.1) (ci := 4) (v := .ref (ap 0)) (C := RX4) (T := TX4) (N := 5) hx hb hts in_X4_total_X4 hown hK hP 0 rfl rfl 0 (by decide) (k_w hts 1 rfl) (fun _ h9 => h9) rfl dX4_total_53 ?_
    refine va_get (D := k.1) (ci := 2) (v := .int (sP 0 1)) (C := RX2) (T := TX2) (N := 9) hx hb hts in_X4_total_X2 hown hK hP 1 rfl rfl 4 (by decide) (k_w hts 3 rfl) (fun _ h9 => h9) rfl dX4_total_56 ?_
    have ef : f_X4_total tx sP sF sY sJ i1 = sP 0 1 := by
      rw [f_X4_total, if_neg c_1, if_pos c_2]
    exact k_reti hx hb hr hK hP hD hS hlocks dX4_total_59 (by rw [ef])
  by_cases c_3 : i1 = 2
  ·
    refine lv_tableIn (off := 59) (tgt := 60) hx hb dX4_total_1 (by rw [c_3]; decide) (by rw [c_3]; decide) (by rw [c_3]; rfl) (by decide) ?_
    refine lv_aload_n hx hb dX4_total_60 rfl (lv_at hl 0 rfl) ?_
    refine va_get (D := k.1) (ci := 4) (v := .ref (af 0)) (C := RX4) (T := TX4) (N := 5) hx hb hts in_X4_total_X4 hown hK hP 0 rfl rfl 1 (by decide) (k_w hts 4 rfl) (fun _ h9 => h9) rfl dX4_total_61 ?_
    refine k_Vi (wr := (w_X ax (ap 0) (af 0) (g0) (ay 0) tx) ++ (w_Y k ay (af 0) sY sJ)) (ws' := (w_X ax (ap 0) (af 0) (g0) (ay 0) tx) ++ (w_P k ap sP) ++ (w_F k af (ap 0) (l0) sF) ++ (w_Y k ay (af 0) sY sJ)) (Rv := (f_X0_countBound sP sF)) (rest := []) ⟨hx, hb, hml, hown, hts⟩ hK hA hP hD hS (c_X0_countBound l k ap af (l0) sP sF (hNs)) (cwV 0 hts gX4_total_X0_countBound rfl rfl rfl (by decide +kernel) ⟨Nat.le_of_ble_eq_true rfl, Nat.le_of_ble_eq_true rfl⟩) (va_recv hK hP (ci := 0) (q0 := 19) rfl rfl) rfl hl.1 rfl (Nat.le_of_ble_eq_true rfl) dX4_total_64 (Nat.zero_le _) (Nat.zero_le _) [1, 2, 3, 4, 5, 6, 7, 8, 9, 10, 11, 12, 13, 14, 15, 16, 17, 18, 19, 20, 21, 22, 23, 24] [0, 25, 26, 27, 28, 29] [0, 6, 7, 8, 9, 10, 11, 12, 13, 14, 15, 16, 17, 18, 19, 20, 21, 22, 23, 24, 25, 26, 27, 28, 29, 1, 2, 3, 4, 5] rfl rfl rfl (by decide) rfl rfl rfl (fun H locs hP hD hS => ?_)
    have ef : f_X4_total tx sP sF sY sJ i1 = f_X0_countBound sP sF := by
      rw [f_X4_total, if_neg c_1, if_neg c_2, if_pos c_3]
    exact k_reti hx hb hr hK hP hD hS hlocks dX4_total_67 (by rw [ef])
  by_cases c_4 : i1 = 3
  ·
    refine lv_tableIn (off := 67) (tgt := 68) hx hb dX4_total_1 (by rw [c_4]; decide) (by rw [c_4]; decide) (by rw [c_4]; rfl) (by decide) ?_
    refine lv_aload_n hx hb dX4_total_68 rfl (lv_at hl 0 rfl) ?_
    refine va_get (D := k.1) (ci := 4) (v := .ref (af 0)) (C := RX4) (T := TX4) (N := 5) hx hb hts in_X4_total_X4 hown hK hP 0 rfl rfl 1 (by decide) (k_w hts 4 rfl) (fun _ h9 => h9) rfl dX4_total_69 ?_
    refine va_get (D := k.1) (ci := 0) (v := .int (sF 0 0)) (C := RX0) (T := TX0) (N := 8) hx hb hts in_X4_total_X0 hown hK hP 19 rfl rfl 2 (by decide) (k_w hts 5 rfl) (fun _ h9 => h9) rfl dX4_total_72 ?_
    have ef : f_X4_total tx sP sF sY sJ i1 = sF 0 0 := by
      rw [f_X4_total, if_neg c_1, if_neg c_2, if_neg c_3, if_pos c_4]
    exact k_reti hx hb hr hK hP hD hS hlocks dX4_total_75 (by rw [ef])
  by_cases c_5 : i1 = 4
  ·
    refine lv_tableIn (off := 75) (tgt := 76) hx hb dX4_total_1 (by rw [c_5]; decide) (by rw [c_5]; decide) (by rw [c_5]; rfl) (by decide) ?_
    refine lv_aload_n hx hb dX4_total_76 rfl (lv_at hl 0 rfl) ?_
    refine va_get (D := k.1) (ci := 4) (v := .ref (ay 0)) (C := RX4) (T := TX4) (N := 5) hx hb hts in_X4_total_X4 hown hK hP 0 rfl rfl 3 (by decide) (k_w hts 6 rfl) (fun _ h9 => h9) rfl dX4_total_77 ?_
    refine va_get (D := k.1) (ci := 3) (v := .int (sY 0 0)) (C := RX3) (T := TX3) (N := 6) hx hb hts in_X4_total_X3 hown hK hP 25 rfl rfl 1 (by decide) (k_w hts 7 rfl) (fun _ h9 => h9) rfl dX4_total_80 ?_
    have ef : f_X4_total tx sP sF sY sJ i1 = sY 0 0 := by
      rw [f_X4_total, if_neg c_1, if_neg c_2, if_neg c_3, if_neg c_4, if_pos c_5]
    exact k_reti hx hb hr hK hP hD hS hlocks dX4_total_83 (by rw [ef])
  by_cases c_6 : i1 = 5
  ·
    refine lv_tableIn (off := 83) (tgt := 84) hx hb dX4_total_1 (by rw [c_6]; decide) (by rw [c_6]; decide) (by rw [c_6]; rfl) (by decide) ?_
    refine lv_aload_n hx hb dX4_total_84 rfl (lv_at hl 0 rfl) ?_
    refine va_get (D := k.1) (ci := 4) (v := .ref (af 0)) (C := RX4) (T := TX4) (N := 5) hx hb hts in_X4_total_X4 hown hK hP 0 rfl rfl 1 (by decide) (k_w hts 4 rfl) (fun _ h9 => h9) rfl dX4_total_85 ?_
    refine k_Vi (wr := (w_X ax (ap 0) (af 0) (g0) (ay 0) tx) ++ (w_Y k ay (af 0) sY sJ)) (ws' := (w_X ax (ap 0) (af 0) (g0) (ay 0) tx) ++ (w_P k ap sP) ++ (w_F k af (ap 0) (l0) sF) ++ (w_Y k ay (af 0) sY sJ)) (Rv := (f_X0_sumWages sP sF)) (rest := []) ⟨hx, hb, hml, hown, hts⟩ hK hA hP hD hS (c_X0_sumWages l k ap af (l0) sP sF (hNs)) (cwV 0 hts gX4_total_X0_sumWages rfl rfl rfl (by decide +kernel) ⟨Nat.le_of_ble_eq_true rfl, Nat.le_of_ble_eq_true rfl⟩) (va_recv hK hP (ci := 0) (q0 := 19) rfl rfl) rfl hl.1 rfl (Nat.le_of_ble_eq_true rfl) dX4_total_88 (Nat.zero_le _) (Nat.zero_le _) [1, 2, 3, 4, 5, 6, 7, 8, 9, 10, 11, 12, 13, 14, 15, 16, 17, 18, 19, 20, 21, 22, 23, 24] [0, 25, 26, 27, 28, 29] [0, 6, 7, 8, 9, 10, 11, 12, 13, 14, 15, 16, 17, 18, 19, 20, 21, 22, 23, 24, 25, 26, 27, 28, 29, 1, 2, 3, 4, 5] rfl rfl rfl (by decide) rfl rfl rfl (fun H locs hP hD hS => ?_)
    have ef : f_X4_total tx sP sF sY sJ i1 = f_X0_sumWages sP sF := by
      rw [f_X4_total, if_neg c_1, if_neg c_2, if_neg c_3, if_neg c_4, if_neg c_5, if_pos c_6]
    exact k_reti hx hb hr hK hP hD hS hlocks dX4_total_91 (by rw [ef])
  by_cases c_7 : i1 = 6
  ·
    refine lv_tableIn (off := 91) (tgt := 92) hx hb dX4_total_1 (by rw [c_7]; decide) (by rw [c_7]; decide) (by rw [c_7]; rfl) (by decide) ?_
    refine lv_aload_n hx hb dX4_total_92 rfl (lv_at hl 0 rfl) ?_
    refine va_get (D := k.1) (ci := 4) (v := .int tx) (C := RX4) (T := TX4) (N := 5) hx hb hts in_X4_total_X4 hown hK hP 0 rfl rfl 4 (by decide) (k_w hts 8 rfl) (fun _ h9 => h9) rfl dX4_total_93 ?_
    have ef : f_X4_total tx sP sF sY sJ i1 = tx := by
      rw [f_X4_total, if_neg c_1, if_neg c_2, if_neg c_3, if_neg c_4, if_neg c_5, if_neg c_6, if_pos c_7]
    exact k_reti hx hb hr hK hP hD hS hlocks dX4_total_96 (by rw [ef])
  refine lv_tableOut (tgt := 97) hx hb dX4_total_1 (by have q0 := lv_neT c_1 (a := 0) (by decide); have q1 := lv_neT c_2 (a := 1) (by decide); have q2 := lv_neT c_3 (a := 2) (by decide); have q3 := lv_neT c_4 (a := 3) (by decide); have q4 := lv_neT c_5 (a := 4) (by decide); have q5 := lv_neT c_6 (a := 5) (by decide); have q6 := lv_neT c_7 (a := 6) (by decide); omega) (by decide) ?_
  refine lv_bipush (v := (-2)) hx hb dX4_total_97 (by decide) ?_
  have ef : f_X4_total tx sP sF sY sJ i1 = -2 := by
    rw [f_X4_total, if_neg c_1, if_neg c_2, if_neg c_3, if_neg c_4, if_neg c_5, if_neg c_6, if_neg c_7]
  exact k_reti hx hb hr hK hP hD hS hlocks dX4_total_99 (by rw [ef])
