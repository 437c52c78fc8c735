theorem in_X5_servant_X5 : ∀ w ∈ wsX50, w ∈ wsX5_servant := fun _ h => List.mem_cons_of_mem _ (List.mem_append_right _ h)
def f_X5_servant (sM : Nat → Nat → Int32) (i1 : Int32) (i2 : Int32) (i3 : Int32) : Int32 × (Nat → Nat → Int32) :=
  if (f_X5_in i1.toInt64 0 2) = 0 then ((-2), sM)
  else if (f_X5_in i2.toInt64 1 9) = 0 then ((-2), sM)
  else if (f_X5_in i3.toInt64 1 60) = 0 then ((-2), sM)
  else if (sM 0 6) = (-9) then (if (sM 0 1) = 10 then ((-4), sM)
    else ((((sM 0 1) + 1) - 1), k_st (k_st (k_st (k_st sM 1 (upd (sM 1) (sM 0 1).toNatClampNeg i1)) 2 (upd (sM 2) (sM 0 1).toNatClampNeg i2)) 3 (upd (sM 3) (sM 0 1).toNatClampNeg i3)) 0 (k_st ((k_st (k_st (k_st sM 1 (upd (sM 1) (sM 0 1).toNatClampNeg i1)) 2 (upd (sM 2) (sM 0 1).toNatClampNeg i2)) 3 (upd (sM 3) (sM 0 1).toNatClampNeg i3)) 0) 1 ((sM 0 1) + 1))))
  else ((-3), sM)
set_option maxHeartbeats 4000000 in
set_option maxRecDepth 100000 in
theorem c_X5_servant (l : Launch) (k : K_X) (am : Nat → Nat) (sM : Nat → Nat → Int32) (i1 : Int32) (i2 : Int32) (i3 : Int32) (hT : sM 0 0 = 0) (hNs : k_n (sM 0 1) 10) : k_C l yX5_servant wsX5_servant (k_rm 1 25) k [.ref (am 0), .int i1, .int i2, .int i3] (w_M k am sM) (k_qI k ((f_X5_servant sM i1 i2 i3).1) (w_M k am ((f_X5_servant sM i1 i2 i3).2))) := by
  refine k_mk (cc := cX5_servant) (maxL := 4) (ret := (some .int)) (by decide) rfl (Nat.le_of_ble_eq_true rfl) ?_
  intro p e s m below meth c A ls C0 hP hD hS hl
  obtain ⟨hx, hb, hr, hts, hown, hlocks, hml, hA, hK⟩ := id C0
  have hown : s.vm.findClass RX5 = some m.cls := hown
  have hl : lv_has ls 4 [(0, .ref (am 0)), (1, .int i1), (2, .int i2), (3, .int i3)] := hl
  refine lv_aload_n hx hb dX5_servant_0 rfl (lv_at hl 0 rfl) ?_
  refine lv_iconst (v := 0) hx hb dX5_servant_1 (by decide) ?_
  refine va_put (D := k.1) (ci := 5) (v := .int 0) (ty := .int) (C := RX5) (T := TX5) (N := 28) hx hb hts in_X5_servant_X5 tyX5 tyX5_ok nmX5 hown hK hP hD hS 0 rfl rfl 0 (by decide) (k_w hts 1 rfl) (fun _ h9 => h9) rfl (by decide +kernel) rfl rfl (Nat.le_of_ble_eq_true rfl) dX5_servant_2 (fun H locs hP hD hS => ?_)
  have hP := k_cP (w_M_s0 k am sM 0) hP
  have hD := k_cD (w_M_s0 k am sM 0) hD
  rw [k_thr hT] at hP hD
  refine lv_iload_n hx hb dX5_servant_5 rfl (lv_at hl 1 rfl) ?_
  refine lv_i2l (v := i1.toInt64) hx hb dX5_servant_6 rfl ?_
  refine lv_lconst (v := 0) hx hb dX5_servant_7 (by decide) ?_
  refine lv_ldc2 hx hb hown (k_w hts 2 rfl) dX5_servant_8 ?_
  refine k_Si (wr := w_M k am sM) (ws' := w_M k am sM) (Rv := (f_X5_in i1.toInt64 0 2)) (rest := []) ⟨hx, hb, hml, hown, hts⟩ hK hA hP hD hS (c_X5_in l k i1.toInt64 0 2) (va_cwS 3 hts gX5_servant_X5_in rfl rfl rfl (by decide +kernel) ⟨Nat.le_of_ble_eq_true rfl, Nat.le_of_ble_eq_true rfl⟩) rfl hl.1 rfl (Nat.le_of_ble_eq_true rfl) dX5_servant_11 (Nat.zero_le _) (Nat.zero_le _) [] [0, 1, 2, 3, 4, 5, 6, 7, 8, 9, 10, 11, 12, 13, 14, 15, 16, 17, 18, 19, 20, 21] [0, 1, 2, 3, 4, 5, 6, 7, 8, 9, 10, 11, 12, 13, 14, 15, 16, 17, 18, 19, 20, 21] rfl rfl rfl (by decide) rfl rfl rfl (fun H locs hP hD hS => ?_)
  refine lv_if_eq (tgt := 41) hx hb dX5_servant_14 (by decide) (fun c_1 => ?_) (fun c_1 => ?_)
  ·
    refine lv_bipush (v := (-2)) hx hb dX5_servant_41 (by decide) ?_
    have ef : f_X5_servant sM i1 i2 i3 = ((-2), sM) := by
      rw [f_X5_servant, if_pos c_1]
    exact k_reti hx hb hr hK (by rw [ef]; exact hP) (by rw [ef]; exact hD) hS hlocks dX5_servant_43 (by rw [ef])
  ·
    refine lv_iload_n hx hb dX5_servant_17 rfl (lv_at hl 2 rfl) ?_
    refine lv_i2l (v := i2.toInt64) hx hb dX5_servant_18 rfl ?_
    refine lv_lconst (v := 1) hx hb dX5_servant_19 (by decide) ?_
    refine lv_ldc2 hx hb hown (k_w hts 3 rfl) dX5_servant_20 ?_
    refine k_Si (wr := w_M k am sM) (ws' := w_M k am sM) (Rv := (f_X5_in i2.toInt64 1 9)) (rest := []) ⟨hx, hb, hml, hown, hts⟩ hK hA hP hD hS (c_X5_in l k i2.toInt64 1 9) (va_cwS 3 hts gX5_servant_X5_in rfl rfl rfl (by decide +kernel) ⟨Nat.le_of_ble_eq_true rfl, Nat.le_of_ble_eq_true rfl⟩) rfl hl.1 rfl (Nat.le_of_ble_eq_true rfl) dX5_servant_23 (Nat.zero_le _) (Nat.zero_le _) [] [0, 1, 2, 3, 4, 5, 6, 7, 8, 9, 10, 11, 12, 13, 14, 15, 16, 17, 18, 19, 20, 21] [0, 1, 2, 3, 4, 5, 6, 7, 8, 9, 10, 11, 12, 13, 14, 15, 16, 17, 18, 19, 20, 21] rfl rfl rfl (by decide) rfl rfl rfl (fun H locs hP hD hS => ?_)
    refine lv_if_eq (tgt := 41) hx hb dX5_servant_26 (by decide) (fun c_2 => ?_) (fun c_2 => ?_)
    ·
      refine lv_bipush (v := (-2)) hx hb dX5_servant_41 (by decide) ?_
      have ef : f_X5_servant sM i1 i2 i3 = ((-2), sM) := by
        rw [f_X5_servant, if_neg c_1, if_pos c_2]
      exact k_reti hx hb hr hK (by rw [ef]; exact hP) (by rw [ef]; exact hD) hS hlocks dX5_servant_43 (by rw [ef])
    ·
      refine lv_iload_n hx hb dX5_servant_29 rfl (lv_at hl 3 rfl) ?_
      refine lv_i2l (v := i3.toInt64) hx hb dX5_servant_30 rfl ?_
      refine lv_lconst (v := 1) hx hb dX5_servant_31 (by decide) ?_
      refine lv_ldc2 hx hb hown (k_w hts 4 rfl) dX5_servant_32 ?_
      refine k_Si (wr := w_M k am sM) (ws' := w_M k am sM) (Rv := (f_X5_in i3.toInt64 1 60)) (rest := []) ⟨hx, hb, hml, hown, hts⟩ hK hA hP hD hS (c_X5_in l k i3.toInt64 1 60) (va_cwS 3 hts gX5_servant_X5_in rfl rfl rfl (by decide +kernel) ⟨Nat.le_of_ble_eq_true rfl, Nat.le_of_ble_eq_true rfl⟩) rfl hl.1 rfl (Nat.le_of_ble_eq_true rfl) dX5_servant_35 (Nat.zero_le _) (Nat.zero_le _) [] [0, 1, 2, 3, 4, 5, 6, 7, 8, 9, 10, 11, 12, 13, 14, 15, 16, 17, 18, 19, 20, 21] [0, 1, 2, 3, 4, 5, 6, 7, 8, 9, 10, 11, 12, 13, 14, 15, 16, 17, 18, 19, 20, 21] rfl rfl rfl (by decide) rfl rfl rfl (fun H locs hP hD hS => ?_)
      refine lv_if_ne (tgt := 44) hx hb dX5_servant_38 (by decide) (fun c_3 => ?_) (fun c_3 => ?_)
      ·
        refine lv_aload_n hx hb dX5_servant_44 rfl (lv_at hl 0 rfl) ?_
        refine va_get (D := k.1) (ci := 5) (v := .int (sM 0 6)) (C := RX5) (T := TX5) (N := 28) hx hb hts in_X5_servant_X5 hown hK hP 0 rfl rfl 19 (by decide) (k_w hts 5 rfl) (fun _ h9 => h9) rfl dX5_servant_45 ?_
        refine lv_bipush (v := (-9)) hx hb dX5_servant_48 (by decide) ?_
        refine lv_icmp_eq (tgt := 56) hx hb dX5_servant_50 (by decide) (fun c_4 => ?_) (fun c_4 => ?_)
        ·
          refine lv_aload_n hx hb dX5_servant_56 rfl (lv_at hl 0 rfl) ?_
          refine va_get (D := k.1) (ci := 5) (v := .int (sM 0 1)) (C := RX5) (T := TX5) (N := 28) hx hb hts in_X5_servant_X5 hown hK hP 0 rfl rfl 1 (by decide) (k_w hts 6 rfl) (fun _ h9 => h9) rfl dX5_servant_57 ?_
          refine lv_bipush (v := 10) hx hb dX5_servant_60 (by decide) ?_
          refine lv_icmp_ne (tgt := 68) hx hb dX5_servant_62 (by decide) (fun c_5 => ?_) (fun c_5 => ?_)
          ·
            refine lv_aload_n hx hb dX5_servant_68 rfl (lv_at hl 0 rfl) ?_
            refine va_get (D := k.1) (ci := 5) (v := .ref (am 1)) (C := RX5) (T := TX5) (N := 28) hx hb hts in_X5_servant_X5 hown hK hP 0 rfl rfl 2 (by decide) (k_w hts 7 rfl) (fun _ h9 => h9) rfl dX5_servant_69 ?_
            refine lv_aload_n hx hb dX5_servant_72 rfl (lv_at hl 0 rfl) ?_
            refine va_get (D := k.1) (ci := 5) (v := .int (sM 0 1)) (C := RX5) (T := TX5) (N := 28) hx hb hts in_X5_servant_X5 hown hK hP 0 rfl rfl 1 (by decide) (k_w hts 6 rfl) (fun _ h9 => h9) rfl dX5_servant_73 ?_
            refine lv_iload_n hx hb dX5_servant_76 rfl (lv_at hl 1 rfl) ?_
            refine va_iast (f := sM 1) hx hb hK hP hD hS 1 0 rfl rfl (k_ne10 hNs (by assumption)) dX5_servant_77 (fun H locs hP hD hS => ?_)
            have hP := k_cP (w_M_1 k am sM (upd (sM 1) (sM 0 1).toNatClampNeg i1)) hP
            have hD := k_cD (w_M_1 k am sM (upd (sM 1) (sM 0 1).toNatClampNeg i1)) hD
            refine lv_aload_n hx hb dX5_servant_78 rfl (lv_at hl 0 rfl) ?_
            refine va_get (D := k.1) (ci := 5) (v := .ref (am 2)) (C := RX5) (T := TX5) (N := 28) hx hb hts in_X5_servant_X5 hown hK hP 0 rfl rfl 3 (by decide) (k_w hts 8 rfl) (fun _ h9 => h9) rfl dX5_servant_79 ?_
            refine lv_aload_n hx hb dX5_servant_82 rfl (lv_at hl 0 rfl) ?_
            refine va_get (D := k.1) (ci := 5) (v := .int (sM 0 1)) (C := RX5) (T := TX5) (N := 28) hx hb hts in_X5_servant_X5 hown hK hP 0 rfl rfl 1 (by decide) (k_w hts 6 rfl) (fun _ h9 => h9) rfl dX5_servant_83 ?_
            refine lv_iload_n hx hb dX5_servant_86 rfl (lv_at hl 2 rfl) ?_
            refine va_iast (f := sM 2) hx hb hK hP hD hS 2 0 rfl rfl (k_ne10 hNs (by assumption)) dX5_servant_87 (fun H locs hP hD hS => ?_)
            have hP := k_cP (w_M_2 k am (k_st sM 1 (upd (sM 1) (sM 0 1).toNatClampNeg i1)) (upd (sM 2) (sM 0 1).toNatClampNeg i2)) hP
            have hD := k_cD (w_M_2 k am (k_st sM 1 (upd (sM 1) (sM 0 1).toNatClampNeg i1)) (upd (sM 2) (sM 0 1).toNatClampNeg i2)) hD
            refine lv_aload_n hx hb dX5_servant_88 rfl (lv_at hl 0 rfl) ?_
            refine va_get (D := k.1) (ci := 5) (v := .ref (am 3)) (C := RX5) (T := TX5) (N := 28) hx hb hts in_X5_servant_X5 hown hK hP 0 rfl rfl 4 (by decide) (k_w hts 9 rfl) (fun _ h9 => h9) rfl dX5_servant_89 ?_
            refine lv_aload_n hx hb dX5_servant_92 rfl (lv_at hl 0 rfl) ?_
            refine va_get (D := k.1) (ci := 5) (v := .int (sM 0 1)) (C := RX5) (T := TX5) (N := 28) hx hb hts in_X5_servant_X5 hown hK hP 0 rfl rfl 1 (by decide) (k_w hts 6 rfl) (fun _ h9 => h9) rfl dX5_servant_93 ?_
            refine lv_iload_n hx hb dX5_servant_96 rfl (lv_at hl 3 rfl) ?_
            refine va_iast (f := sM 3) hx hb hK hP hD hS 3 0 rfl rfl (k_ne10 hNs (by assumption)) dX5_servant_97 (fun H locs hP hD hS => ?_)
            have hP := k_cP (w_M_3 k am (k_st (k_st sM 1 (upd (sM 1) (sM 0 1).toNatClampNeg i1)) 2 (upd (sM 2) (sM 0 1).toNatClampNeg i2)) (upd (sM 3) (sM 0 1).toNatClampNeg i3)) hP
            have hD := k_cD (w_M_3 k am (k_st (k_st sM 1 (upd (sM 1) (sM 0 1).toNatClampNeg i1)) 2 (upd (sM 2) (sM 0 1).toNatClampNeg i2)) (upd (sM 3) (sM 0 1).toNatClampNeg i3)) hD
            refine lv_aload_n hx hb dX5_servant_98 rfl (lv_at hl 0 rfl) ?_
            refine lv_dup hx hb dX5_servant_99 rfl ?_
            refine va_get (D := k.1) (ci := 5) (v := .int (sM 0 1)) (C := RX5) (T := TX5) (N := 28) hx hb hts in_X5_servant_X5 hown hK hP 0 rfl rfl 1 (by decide) (k_w hts 6 rfl) (fun _ h9 => h9) rfl dX5_servant_100 ?_
            refine lv_iconst (v := 1) hx hb dX5_servant_103 (by decide) ?_
            refine lv_iadd hx hb dX5_servant_104 ?_
            refine va_put (D := k.1) (ci := 5) (v := .int ((sM 0 1) + 1)) (ty := .int) (C := RX5) (T := TX5) (N := 28) hx hb hts in_X5_servant_X5 tyX5 tyX5_ok nmX5 hown hK hP hD hS 0 rfl rfl 1 (by decide) (k_w hts 6 rfl) (fun _ h9 => h9) rfl (by decide +kernel) rfl rfl (Nat.le_of_ble_eq_true rfl) dX5_servant_105 (fun H locs hP hD hS => ?_)
            have hP := k_cP (w_M_s1 k am (k_st (k_st (k_st sM 1 (upd (sM 1) (sM 0 1).toNatClampNeg i1)) 2 (upd (sM 2) (sM 0 1).toNatClampNeg i2)) 3 (upd (sM 3) (sM 0 1).toNatClampNeg i3)) ((sM 0 1) + 1)) hP
            have hD := k_cD (w_M_s1 k am (k_st (k_st (k_st sM 1 (upd (sM 1) (sM 0 1).toNatClampNeg i1)) 2 (upd (sM 2) (sM 0 1).toNatClampNeg i2)) 3 (upd (sM 3) (sM 0 1).toNatClampNeg i3)) ((sM 0 1) + 1)) hD
            refine lv_aload_n hx hb dX5_servant_108 rfl (lv_at hl 0 rfl) ?_
            refine va_get (D := k.1) (ci := 5) (v := .int ((sM 0 1) + 1)) (C := RX5) (T := TX5) (N := 28) hx hb hts in_X5_servant_X5 hown hK hP 0 rfl rfl 1 (by decide) (k_w hts 6 rfl) (fun _ h9 => h9) rfl dX5_servant_109 ?_
            refine lv_iconst (v := 1) hx hb dX5_servant_112 (by decide) ?_
            refine lv_isub hx hb dX5_servant_113 ?_
            have ef : f_X5_servant sM i1 i2 i3 = ((((sM 0 1) + 1) - 1), k_st (k_st (k_st (k_st sM 1 (upd (sM 1) (sM 0 1).toNatClampNeg i1)) 2 (upd (sM 2) (sM 0 1).toNatClampNeg i2)) 3 (upd (sM 3) (sM 0 1).toNatClampNeg i3)) 0 (k_st ((k_st (k_st (k_st sM 1 (upd (sM 1) (sM 0 1).toNatClampNeg i1)) 2 (upd (sM 2) (sM 0 1).toNatClampNeg i2)) 3 (upd (sM 3) (sM 0 1).toNatClampNeg i3)) 0) 1 ((sM 0 1) + 1))) := by
              rw [f_X5_servant, if_neg c_1, if_neg c_2, if_neg c_3, if_pos c_4, if_neg c_5]
            exact k_reti hx hb hr hK (by rw [ef]; exact hP) (by rw [ef]; exact hD) hS hlocks dX5_servant_114 (by rw [ef])
          ·
            refine lv_bipush (v := (-4)) hx hb dX5_servant_65 (by decide) ?_
            have ef : f_X5_servant sM i1 i2 i3 = ((-4), sM) := by
              rw [f_X5_servant, if_neg c_1, if_neg c_2, if_neg c_3, if_pos c_4, if_pos c_5]
            exact k_reti hx hb hr hK (by rw [ef]; exact hP) (by rw [ef]; exact hD) hS hlocks dX5_servant_67 (by rw [ef])
        ·
          refine lv_bipush (v := (-3)) hx hb dX5_servant_53 (by decide) ?_
          have ef : f_X5_servant sM i1 i2 i3 = ((-3), sM) := by
            rw [f_X5_servant, if_neg c_1, if_neg c_2, if_neg c_3, if_neg c_4]
          exact k_reti hx hb hr hK (by rw [ef]; exact hP) (by rw [ef]; exact hD) hS hlocks dX5_servant_55 (by rw [ef])
      ·
        refine lv_bipush (v := (-2)) hx hb dX5_servant_41 (by decide) ?_
        have ef : f_X5_servant sM i1 i2 i3 = ((-2), sM) := by
          rw [f_X5_servant, if_neg c_1, if_neg c_2, if_pos c_3]
        exact k_reti hx hb hr hK (by rw [ef]; exact hP) (by rw [ef]; exact hD) hS hlocks dX5_servant_43 (by rw [ef])
theorem in_X5_master_X5 : ∀ w ∈ wsX50, w ∈ wsX5_master := fun _ h => List.mem_cons_of_mem _ (List.mem_append_right _ h)
def f_X5_master (sM : Nat → Nat → Int32) (i1 : Int32) (i2 : Int32) : Int32 × (Nat → Nat → Int32) :=
  if (f_X5_in i1.toInt64 0 2) = 0 then ((-2), sM)
  else if (f_X5_in i2.toInt64 1 90) = 0 then ((-2), sM)
  else if (sM 0 6) = (-9) then (if (sM 0 2) = 10 then ((-4), sM)
    else ((((sM 0 2) + 1) - 1), k_st (k_st (k_st sM 4 (upd (sM 4) (sM 0 2).toNatClampNeg i1)) 5 (upd (sM 5) (sM 0 2).toNatClampNeg i2)) 0 (k_st ((k_st (k_st sM 4 (upd (sM 4) (sM 0 2).toNatClampNeg i1)) 5 (upd (sM 5) (sM 0 2).toNatClampNeg i2)) 0) 2 ((sM 0 2) + 1))))
  else ((-3), sM)
set_option maxHeartbeats 4000000 in
set_option maxRecDepth 100000 in
theorem c_X5_master (l : Launch) (k : K_X) (am : Nat → Nat) (sM : Nat → Nat → Int32) (i1 : Int32) (i2 : Int32) (hT : sM 0 0 = 0) (hNm : k_n (sM 0 2) 10) : k_C l yX5_master wsX5_master (k_rm 1 25) k [.ref (am 0), .int i1, .int i2] (w_M k am sM) (k_qI k ((f_X5_master sM i1 i2).1) (w_M k am ((f_X5_master sM i1 i2).2))) := by
  refine k_mk (cc := cX5_master) (maxL := 3) (ret := (some .int)) (by decide) rfl (Nat.le_of_ble_eq_true rfl) ?_
  intro p e s m below meth c A ls C0 hP hD hS hl
  obtain ⟨hx, hb, hr, hts, hown, hlocks, hml, hA, hK⟩ := id C0
  have hown : s.vm.findClass RX5 = some m.cls := hown
  have hl : lv_has ls 3 [(0, .ref (am 0)), (1, .int i1), (2, .int i2)] := hl
  refine lv_aload_n hx hb dX5_master_0 rfl (lv_at hl 0 rfl) ?_
  refine lv_iconst (v := 0) hx hb dX5_master_1 (by decide) ?_
  refine va_put (D := k.1) (ci := 5) (v := .int 0) (ty := .int) (C := RX5) (T := TX5) (N := 28) hx hb hts in_X5_master_X5 tyX5 tyX5_ok nmX5 hown hK hP hD hS 0 rfl rfl 0 (by decide) (k_w hts 1 rfl) (fun _ h9 => h9) rfl (by decide +kernel) rfl rfl (Nat.le_of_ble_eq_true rfl) dX5_master_2 (fun H locs hP hD hS => ?_)
  have hP := k_cP (w_M_s0 k am sM 0) hP
  have hD := k_cD (w_M_s0 k am sM 0) hD
  rw [k_thr hT] at hP hD
  refine lv_iload_n hx hb dX5_master_5 rfl (lv_at hl 1 rfl) ?_
  refine lv_i2l (v := i1.toInt64) hx hb dX5_master_6 rfl ?_
  refine lv_lconst (v := 0) hx hb dX5_master_7 (by decide) ?_
  refine lv_ldc2 hx hb hown (k_w hts 2 rfl) dX5_master_8 ?_
  refine k_Si (wr := w_M k am sM) (ws' := w_M k am sM) (Rv := (f_X5_in i1.toInt64 0 2)) (rest := []) ⟨hx, hb, hml, hown, hts⟩ hK hA hP hD hS (c_X5_in l k i1.toInt64 0 2) (va_cwS 3 hts gX5_master_X5_in rfl rfl rfl (by decide +kernel) ⟨Nat.le_of_ble_eq_true rfl, Nat.le_of_ble_eq_true rfl⟩) rfl hl.1 rfl (Nat.le_of_ble_eq_true rfl) dX5_master_11 (Nat.zero_le _) (Nat.zero_le _) [] [0, 1, 2, 3, 4, 5, 6, 7, 8, 9, 10, 11, 12, 13, 14, 15, 16, 17, 18, 19, 20, 21] [0, 1, 2, 3, 4, 5, 6, 7, 8, 9, 10, 11, 12, 13, 14, 15, 16, 17, 18, 19, 20, 21] rfl rfl rfl (by decide) rfl rfl rfl (fun H locs hP hD hS => ?_)
  refine lv_if_eq (tgt := 29) hx hb dX5_master_14 (by decide) (fun c_1 => ?_) (fun c_1 => ?_)
  ·
    refine lv_bipush (v := (-2)) hx hb dX5_master_29 (by decide) ?_
    have ef : f_X5_master sM i1 i2 = ((-2), sM) := by
      rw [f_X5_master, if_pos c_1]
    exact k_reti hx hb hr hK (by rw [ef]; exact hP) (by rw [ef]; exact hD) hS hlocks dX5_master_31 (by rw [ef])
  ·
    refine lv_iload_n hx hb dX5_master_17 rfl (lv_at hl 2 rfl) ?_
    refine lv_i2l (v := i2.toInt64) hx hb dX5_master_18 rfl ?_
    refine lv_lconst (v := 1) hx hb dX5_master_19 (by decide) ?_
    refine lv_ldc2 hx hb hown (k_w hts 3 rfl) dX5_master_20 ?_
    refine k_Si (wr := w_M k am sM) (ws' := w_M k am sM) (Rv := (f_X5_in i2.toInt64 1 90)) (rest := []) ⟨hx, hb, hml, hown, hts⟩ hK hA hP hD hS (c_X5_in l k i2.toInt64 1 90) (va_cwS 3 hts gX5_master_X5_in rfl rfl rfl (by decide +kernel) ⟨Nat.le_of_ble_eq_true rfl, Nat.le_of_ble_eq_true rfl⟩) rfl hl.1 rfl (Nat.le_of_ble_eq_true rfl) dX5_master_23 (Nat.zero_le _) (Nat.zero_le _) [] [0, 1, 2, 3, 4, 5, 6, 7, 8, 9, 10, 11, 12, 13, 14, 15, 16, 17, 18, 19, 20, 21] [0, 1, 2, 3, 4, 5, 6, 7, 8, 9, 10, 11, 12, 13, 14, 15, 16, 17, 18, 19, 20, 21] rfl rfl rfl (by decide) rfl rfl rfl (fun H locs hP hD hS => ?_)
    refine lv_if_ne (tgt := 32) hx hb dX5_master_26 (by decide) (fun c_2 => ?_) (fun c_2 => ?_)
    ·
      refine lv_aload_n hx hb dX5_master_32 rfl (lv_at hl 0 rfl) ?_
      refine va_get (D := k.1) (ci := 5) (v := .int (sM 0 6)) (C := RX5) (T := TX5) (N := 28) hx hb hts in_X5_master_X5 hown hK hP 0 rfl rfl 19 (by decide) (k_w hts 4 rfl) (fun _ h9 => h9) rfl dX5_master_33 ?_
      refine lv_bipush (v := (-9)) hx hb dX5_master_36 (by decide) ?_
      refine lv_icmp_eq (tgt := 44) hx hb dX5_master_38 (by decide) (fun c_3 => ?_) (fun c_3 => ?_)
      ·
        refine lv_aload_n hx hb dX5_master_44 rfl (lv_at hl 0 rfl) ?_
        refine va_get (D := k.1) (ci := 5) (v := .int (sM 0 2)) (C := RX5) (T := TX5) (N := 28) hx hb hts in_X5_master_X5 hown hK hP 0 rfl rfl 5 (by decide) (k_w hts 5 rfl) (fun _ h9 => h9) rfl dX5_master_45 ?_
        refine lv_bipush (v := 10) hx hb dX5_master_48 (by decide) ?_
        refine lv_icmp_ne (tgt := 56) hx hb dX5_master_50 (by decide) (fun c_4 => ?_) (fun c_4 => ?_)
        ·
          refine lv_aload_n hx hb dX5_master_56 rfl (lv_at hl 0 rfl) ?_
          refine va_get (D := k.1) (ci := 5) (v := .ref (am 4)) (C := RX5) (T := TX5) (N := 28) hx hb hts in_X5_master_X5 hown hK hP 0 rfl rfl 6 (by decide) (k_w hts 6 rfl) (fun _ h9 => h9) rfl dX5_master_57 ?_
          refine lv_aload_n hx hb dX5_master_60 rfl (lv_at hl 0 rfl) ?_
          refine va_get (D := k.1) (ci := 5) (v := .int (sM 0 2)) (C := RX5) (T := TX5) (N := 28) hx hb hts in_X5_master_X5 hown hK hP 0 rfl rfl 5 (by decide) (k_w hts 5 rfl) (fun _ h9 => h9) rfl dX5_master_61 ?_
          refine lv_iload_n hx hb dX5_master_64 rfl (lv_at hl 1 rfl) ?_
          refine va_iast (f := sM 4) hx hb hK hP hD hS 4 0 rfl rfl (k_ne10 hNm (by assumption)) dX5_master_65 (fun H locs hP hD hS => ?_)
          have hP := k_cP (w_M_4 k am sM (upd (sM 4) (sM 0 2).toNatClampNeg i1)) hP
          have hD := k_cD (w_M_4 k am sM (upd (sM 4) (sM 0 2).toNatClampNeg i1)) hD
          refine lv_aload_n hx hb dX5_master_66 rfl (lv_at hl 0 rfl) ?_
          refine va_get (D := k.1) (ci := 5) (v := .ref (am 5)) (C := RX5) (T := TX5) (N := 28) hx hb hts in_X5_master_X5 hown hK hP 0 rfl rfl 7 (by decide) (k_w hts 7 rfl) (fun _ h9 => h9) rfl dX5_master_67 ?_
          refine lv_aload_n hx hb dX5_master_70 rfl (lv_at hl 0 rfl) ?_
          refine va_get (D := k.1) (ci := 5) (v := .int (sM 0 2)) (C := RX5) (T := TX5) (N := 28) hx hb hts in_X5_master_X5 hown hK hP 0 rfl rfl 5 (by decide) (k_w hts 5 rfl) (fun _ h9 => h9) rfl dX5_master_71 ?_
          refine lv_iload_n hx hb dX5_master_74 rfl (lv_at hl 2 rfl) ?_
          refine va_iast (f := sM 5) hx hb hK hP hD hS 5 0 rfl rfl (k_ne10 hNm (by assumption)) dX5_master_75 (fun H locs hP hD hS => ?_)
          have hP := k_cP (w_M_5 k am (k_st sM 4 (upd (sM 4) (sM 0 2).toNatClampNeg i1)) (upd (sM 5) (sM 0 2).toNatClampNeg i2)) hP
          have hD := k_cD (w_M_5 k am (k_st sM 4 (upd (sM 4) (sM 0 2).toNatClampNeg i1)) (upd (sM 5) (sM 0 2).toNatClampNeg i2)) hD
          refine lv_aload_n hx hb dX5_master_76 rfl (lv_at hl 0 rfl) ?_
          refine lv_dup hx hb dX5_master_77 rfl ?_
          refine va_get (D := k.1) (ci := 5) (v := .int (sM 0 2)) (C := RX5) (T := TX5) (N := 28) hx hb hts in_X5_master_X5 hown hK hP 0 rfl rfl 5 (by decide) (k_w hts 5 rfl) (fun _ h9 => h9) rfl dX5_master_78 ?_
          refine lv_iconst (v := 1) hx hb dX5_master_81 (by decide) ?_
          refine lv_iadd hx hb dX5_master_82 ?_
          refine va_put (D := k.1) (ci := 5) (v := .int ((sM 0 2) + 1)) (ty := .int) (C := RX5) (T := TX5) (N := 28) hx hb hts in_X5_master_X5 tyX5 tyX5_ok nmX5 hown hK hP hD hS 0 rfl rfl 5 (by decide) (k_w hts 5 rfl) (fun _ h9 => h9) rfl (by decide +kernel) rfl rfl (Nat.le_of_ble_eq_true rfl) dX5_master_83 (fun H locs hP hD hS => ?_)
          have hP := k_cP (w_M_s2 k am (k_st (k_st sM 4 (upd (sM 4) (sM 0 2).toNatClampNeg i1)) 5 (upd (sM 5) (sM 0 2).toNatClampNeg i2)) ((sM 0 2) + 1)) hP
          have hD := k_cD (w_M_s2 k am (k_st (k_st sM 4 (upd (sM 4) (sM 0 2).toNatClampNeg i1)) 5 (upd (sM 5) (sM 0 2).toNatClampNeg i2)) ((sM 0 2) + 1)) hD
          refine lv_aload_n hx hb dX5_master_86 rfl (lv_at hl 0 rfl) ?_
          refine va_get (D := k.1) (ci := 5) (v := .int ((sM 0 2) + 1)) (C := RX5) (T := TX5) (N := 28) hx hb hts in_X5_master_X5 hown hK hP 0 rfl rfl 5 (by decide) (k_w hts 5 rfl) (fun _ h9 => h9) rfl dX5_master_87 ?_
          refine lv_iconst (v := 1) hx hb dX5_master_90 (by decide) ?_
          refine lv_isub hx hb dX5_master_91 ?_
          have ef : f_X5_master sM i1 i2 = ((((sM 0 2) + 1) - 1), k_st (k_st (k_st sM 4 (upd (sM 4) (sM 0 2).toNatClampNeg i1)) 5 (upd (sM 5) (sM 0 2).toNatClampNeg i2)) 0 (k_st ((k_st (k_st sM 4 (upd (sM 4) (sM 0 2).toNatClampNeg i1)) 5 (upd (sM 5) (sM 0 2).toNatClampNeg i2)) 0) 2 ((sM 0 2) + 1))) := by
            rw [f_X5_master, if_neg c_1, if_neg c_2, if_pos c_3, if_neg c_4]
          exact k_reti hx hb hr hK (by rw [ef]; exact hP) (by rw [ef]; exact hD) hS hlocks dX5_master_92 (by rw [ef])
        ·
          refine lv_bipush (v := (-4)) hx hb dX5_master_53 (by decide) ?_
          have ef : f_X5_master sM i1 i2 = ((-4), sM) := by
            rw [f_X5_master, if_neg c_1, if_neg c_2, if_pos c_3, if_pos c_4]
          exact k_reti hx hb hr hK (by rw [ef]; exact hP) (by rw [ef]; exact hD) hS hlocks dX5_master_55 (by rw [ef])
      ·
        refine lv_bipush (v := (-3)) hx hb dX5_master_41 (by decide) ?_
        have ef : f_X5_master sM i1 i2 = ((-3), sM) := by
          rw [f_X5_master, if_neg c_1, if_neg c_2, if_neg c_3]
        exact k_reti hx hb hr hK (by rw [ef]; exact hP) (by rw [ef]; exact hD) hS hlocks dX5_master_43 (by rw [ef])
    ·
      refine lv_bipush (v := (-2)) hx hb dX5_master_29 (by decide) ?_
      have ef : f_X5_master sM i1 i2 = ((-2), sM) := by
        rw [f_X5_master, if_neg c_1, if_pos c_2]
      exact k_reti hx hb hr hK (by rw [ef]; exact hP) (by rw [ef]; exact hD) hS hlocks dX5_master_31 (by rw [ef])
theorem in_X5_bar_X5 : ∀ w ∈ wsX50, w ∈ wsX5_bar := fun _ h => List.mem_cons_of_mem _ (List.mem_append_right _ h)
def f_X5_bar (sM : Nat → Nat → Int32) (i1 : Int32) (i2 : Int32) (i3 : Int32) : Int32 × (Nat → Nat → Int32) :=
  if (f_X5_noServant sM i1) = 0 then (if (f_X5_noMaster sM i2) = 0 then (if ((sM 7) ((10 * i2) + i1).toNatClampNeg) = 0 then (0, k_st sM 7 (upd (sM 7) ((10 * i2) + i1).toNatClampNeg (vp_nar .boolean i3)))
      else (1, k_st sM 7 (upd (sM 7) ((10 * i2) + i1).toNatClampNeg (vp_nar .boolean i3))))
    else ((-1), sM))
  else ((-1), sM)
set_option maxHeartbeats 4000000 in
set_option maxRecDepth 100000 in
theorem c_X5_bar (l : Launch) (k : K_X) (am : Nat → Nat) (sM : Nat → Nat → Int32) (i1 : Int32) (i2 : Int32) (i3 : Int32) (hT : sM 0 0 = 0) (hNs : k_n (sM 0 1) 10) (hNm : k_n (sM 0 2) 10) : k_C l yX5_bar wsX5_bar (k_rm 2 46) k [.ref (am 0), .int i1, .int i2, .int i3] (w_M k am sM) (k_qI k ((f_X5_bar sM i1 i2 i3).1) (w_M k am ((f_X5_bar sM i1 i2 i3).2))) := by
  refine k_mk (cc := cX5_bar) (maxL := 5) (ret := (some .int)) (by decide) rfl (Nat.le_of_ble_eq_true rfl) ?_
  intro p e s m below meth c A ls C0 hP hD hS hl
  obtain ⟨hx, hb, hr, hts, hown, hlocks, hml, hA, hK⟩ := id C0
  have hown : s.vm.findClass RX5 = some m.cls := hown
  have hl : lv_has ls 5 [(0, .ref (am 0)), (1, .int i1), (2, .int i2), (3, .int i3)] := hl
  refine lv_aload_n hx hb dX5_bar_0 rfl (lv_at hl 0 rfl) ?_
  refine lv_iconst (v := 0) hx hb dX5_bar_1 (by decide) ?_
  refine va_put (D := k.1) (ci := 5) (v := .int 0) (ty := .int) (C := RX5) (T := TX5) (N := 28) hx hb hts in_X5_bar_X5 tyX5 tyX5_ok nmX5 hown hK hP hD hS 0 rfl rfl 0 (by decide) (k_w hts 1 rfl) (fun _ h9 => h9) rfl (by decide +kernel) rfl rfl (Nat.le_of_ble_eq_true rfl) dX5_bar_2 (fun H locs hP hD hS => ?_)
  have hP := k_cP (w_M_s0 k am sM 0) hP
  have hD := k_cD (w_M_s0 k am sM 0) hD
  rw [k_thr hT] at hP hD
  refine lv_aload_n hx hb dX5_bar_5 rfl (lv_at hl 0 rfl) ?_
  refine lv_iload_n hx hb dX5_bar_6 rfl (lv_at hl 1 rfl) ?_
  refine k_Vi (wr := ([] : va_W)) (ws' := w_M k am sM) (Rv := (f_X5_noServant sM i1)) (rest := []) ⟨hx, hb, hml, hown, hts⟩ hK hA hP hD hS (c_X5_noServant l k am sM i1) (cwV 1 hts gX5_bar_X5_noServant rfl rfl rfl (by decide +kernel) ⟨Nat.le_of_ble_eq_true rfl, Nat.le_of_ble_eq_true rfl⟩) (va_recv hK hP (ci := 5) (q0 := 0) rfl rfl) rfl hl.1 rfl (Nat.le_of_ble_eq_true rfl) dX5_bar_7 (Nat.zero_le _) (Nat.zero_le _) [0, 1, 2, 3, 4, 5, 6, 7, 8, 9, 10, 11, 12, 13, 14, 15, 16, 17, 18, 19, 20, 21] [] [0, 1, 2, 3, 4, 5, 6, 7, 8, 9, 10, 11, 12, 13, 14, 15, 16, 17, 18, 19, 20, 21] rfl rfl rfl (by decide) rfl rfl rfl (fun H locs hP hD hS => ?_)
  refine lv_if_ne (tgt := 21) hx hb dX5_bar_10 (by decide) (fun c_1 => ?_) (fun c_1 => ?_)
  ·
    refine lv_iconst (v := (-1)) hx hb dX5_bar_21 (by decide) ?_
    have ef : f_X5_bar sM i1 i2 i3 = ((-1), sM) := by
      rw [f_X5_bar, if_neg c_1]
    exact k_reti hx hb hr hK (by rw [ef]; exact hP) (by rw [ef]; exact hD) hS hlocks dX5_bar_22 (by rw [ef])
  ·
    refine lv_aload_n hx hb dX5_bar_13 rfl (lv_at hl 0 rfl) ?_
    refine lv_iload_n hx hb dX5_bar_14 rfl (lv_at hl 2 rfl) ?_
    refine k_Vi (wr := ([] : va_W)) (ws' := w_M k am sM) (Rv := (f_X5_noMaster sM i2)) (rest := []) ⟨hx, hb, hml, hown, hts⟩ hK hA hP hD hS (c_X5_noMaster l k am sM i2) (cwV 1 hts gX5_bar_X5_noMaster rfl rfl rfl (by decide +kernel) ⟨Nat.le_of_ble_eq_true rfl, Nat.le_of_ble_eq_true rfl⟩) (va_recv hK hP (ci := 5) (q0 := 0) rfl rfl) rfl hl.1 rfl (Nat.le_of_ble_eq_true rfl) dX5_bar_15 (Nat.zero_le _) (Nat.zero_le _) [0, 1, 2, 3, 4, 5, 6, 7, 8, 9, 10, 11, 12, 13, 14, 15, 16, 17, 18, 19, 20, 21] [] [0, 1, 2, 3, 4, 5, 6, 7, 8, 9, 10, 11, 12, 13, 14, 15, 16, 17, 18, 19, 20, 21] rfl rfl rfl (by decide) rfl rfl rfl (fun H locs hP hD hS => ?_)
    refine lv_if_eq (tgt := 23) hx hb dX5_bar_18 (by decide) (fun c_2 => ?_) (fun c_2 => ?_)
    ·
      refine lv_aload_n hx hb dX5_bar_23 rfl (lv_at hl 0 rfl) ?_
      refine va_get (D := k.1) (ci := 5) (v := .ref (am 7)) (C := RX5) (T := TX5) (N := 28) hx hb hts in_X5_bar_X5 hown hK hP 0 rfl rfl 9 (by decide) (k_w hts 2 rfl) (fun _ h9 => h9) rfl dX5_bar_24 ?_
      refine lv_bipush (v := 10) hx hb dX5_bar_27 (by decide) ?_
      refine lv_iload_n hx hb dX5_bar_29 rfl (lv_at hl 2 rfl) ?_
      refine lv_imul hx hb dX5_bar_30 ?_
      refine lv_iload_n hx hb dX5_bar_31 rfl (lv_at hl 1 rfl) ?_
      refine lv_iadd hx hb dX5_bar_32 ?_
      refine va_zald (f := sM 7) hx hb hK hP 7 1 rfl rfl (k_in10 (by first | assumption | exact k_ns hNs (by assumption) | exact k_nm hNm (by assumption)) (by first | assumption | exact k_ns hNs (by assumption) | exact k_nm hNm (by assumption))) dX5_bar_33 ?_
      refine lv_if_eq (tgt := 41) hx hb dX5_bar_34 (by decide) (fun c_3 => ?_) (fun c_3 => ?_)
      ·
        refine lv_iconst (v := 0) hx hb dX5_bar_41 (by decide) ?_
        refine lv_istore (lv' := [(4, .int 0), (0, .ref (am 0)), (1, .int i1), (2, .int i2), (3, .int i3)]) hx hb dX5_bar_42 hl (by decide) rfl (fun ls hl => ?_)
        refine lv_aload_n hx hb dX5_bar_44 rfl (lv_at hl 1 rfl) ?_
        refine va_get (D := k.1) (ci := 5) (v := .ref (am 7)) (C := RX5) (T := TX5) (N := 28) hx hb hts in_X5_bar_X5 hown hK hP 0 rfl rfl 9 (by decide) (k_w hts 2 rfl) (fun _ h9 => h9) rfl dX5_bar_45 ?_
        refine lv_bipush (v := 10) hx hb dX5_bar_48 (by decide) ?_
        refine lv_iload_n hx hb dX5_bar_50 rfl (lv_at hl 3 rfl) ?_
        refine lv_imul hx hb dX5_bar_51 ?_
        refine lv_iload_n hx hb dX5_bar_52 rfl (lv_at hl 2 rfl) ?_
        refine lv_iadd hx hb dX5_bar_53 ?_
        refine lv_iload_n hx hb dX5_bar_54 rfl (lv_at hl 4 rfl) ?_
        refine va_zast (f := sM 7) hx hb hK hP hD hS 7 1 rfl rfl (k_in10 (by first | assumption | exact k_ns hNs (by assumption) | exact k_nm hNm (by assumption)) (by first | assumption | exact k_ns hNs (by assumption) | exact k_nm hNm (by assumption))) dX5_bar_55 (fun H locs hP hD hS => ?_)
        have hP := k_cP (w_M_7 k am sM (upd (sM 7) ((10 * i2) + i1).toNatClampNeg (vp_nar .boolean i3))) hP
        have hD := k_cD (w_M_7 k am sM (upd (sM 7) ((10 * i2) + i1).toNatClampNeg (vp_nar .boolean i3))) hD
        refine lv_iload hx hb dX5_bar_56 (lv_at hl 0 rfl) ?_
        have ef : f_X5_bar sM i1 i2 i3 = (0, k_st sM 7 (upd (sM 7) ((10 * i2) + i1).toNatClampNeg (vp_nar .boolean i3))) := by
          rw [f_X5_bar, if_pos c_1, if_pos c_2, if_pos c_3]
        exact k_reti hx hb hr hK (by rw [ef]; exact hP) (by rw [ef]; exact hD) hS hlocks dX5_bar_58 (by rw [ef])
      ·
        refine lv_iconst (v := 1) hx hb dX5_bar_37 (by decide) ?_
        refine lv_goto (tgt := 42) hx hb dX5_bar_38 (by decide) ?_
        refine lv_istore (lv' := [(4, .int 1), (0, .ref (am 0)), (1, .int i1), (2, .int i2), (3, .int i3)]) hx hb dX5_bar_42 hl (by decide) rfl (fun ls hl => ?_)
        refine lv_aload_n hx hb dX5_bar_44 rfl (lv_at hl 1 rfl) ?_
        refine va_get (D := k.1) (ci := 5) (v := .ref (am 7)) (C := RX5) (T := TX5) (N := 28) hx hb hts in_X5_bar_X5 hown hK hP 0 rfl rfl 9 (by decide) (k_w hts 2 rfl) (fun _ h9 => h9) rfl dX5_bar_45 ?_
        refine lv_bipush (v := 10) hx hb dX5_bar_48 (by decide) ?_
        refine lv_iload_n hx hb dX5_bar_50 rfl (lv_at hl 3 rfl) ?_
        refine lv_imul hx hb dX5_bar_51 ?_
        refine lv_iload_n hx hb dX5_bar_52 rfl (lv_at hl 2 rfl) ?_
        refine lv_iadd hx hb dX5_bar_53 ?_
        refine lv_iload_n hx hb dX5_bar_54 rfl (lv_at hl 4 rfl) ?_
        refine va_zast (f := sM 7) hx hb hK hP hD hS 7 1 rfl rfl (k_in10 (by first | assumption | exact k_ns hNs (by assumption) | exact k_nm hNm (by assumption)) (by first | assumption | exact k_ns hNs (by assumption) | exact k_nm hNm (by assumption))) dX5_bar_55 (fun H locs hP hD hS => ?_)
        have hP := k_cP (w_M_7 k am sM (upd (sM 7) ((10 * i2) + i1).toNatClampNeg (vp_nar .boolean i3))) hP
        have hD := k_cD (w_M_7 k am sM (upd (sM 7) ((10 * i2) + i1).toNatClampNeg (vp_nar .boolean i3))) hD
        refine lv_iload hx hb dX5_bar_56 (lv_at hl 0 rfl) ?_
        have ef : f_X5_bar sM i1 i2 i3 = (1, k_st sM 7 (upd (sM 7) ((10 * i2) + i1).toNatClampNeg (vp_nar .boolean i3))) := by
          rw [f_X5_bar, if_pos c_1, if_pos c_2, if_neg c_3]
        exact k_reti hx hb hr hK (by rw [ef]; exact hP) (by rw [ef]; exact hD) hS hlocks dX5_bar_58 (by rw [ef])
    ·
      refine lv_iconst (v := (-1)) hx hb dX5_bar_21 (by decide) ?_
      have ef : f_X5_bar sM i1 i2 i3 = ((-1), sM) := by
        rw [f_X5_bar, if_pos c_1, if_neg c_2]
      exact k_reti hx hb hr hK (by rw [ef]; exact hP) (by rw [ef]; exact hD) hS hlocks dX5_bar_22 (by rw [ef])
theorem in_X5_hear_X5 : ∀ w ∈ wsX50, w ∈ wsX5_hear := fun _ h => List.mem_cons_of_mem _ (List.mem_append_right _ h)
def f_X5_hear (sM : Nat → Nat → Int32) (i1 : Int32) (i2 : Int32) (i3 : Int32) : Int32 × (Nat → Nat → Int32) :=
  if (f_X5_noMaster sM i1) = 0 then (if (f_X5_noServant sM i2) = 0 then (if (f_X5_in i3.toInt64 1 9) = 0 then ((-2), sM)
      else ((f_X5_held sM i1 i2), k_st sM 6 (upd (sM 6) ((10 * i1) + i2).toNatClampNeg i3)))
    else ((-1), sM))
  else ((-1), sM)
set_option maxHeartbeats 4000000 in
set_option maxRecDepth 100000 in
theorem c_X5_hear (l : Launch) (k : K_X) (am : Nat → Nat) (sM : Nat → Nat → Int32) (i1 : Int32) (i2 : Int32) (i3 : Int32) (hT : sM 0 0 = 0) (hNs : k_n (sM 0 1) 10) (hNm : k_n (sM 0 2) 10) : k_C l yX5_hear wsX5_hear (k_rm 2 46) k [.ref (am 0), .int i1, .int i2, .int i3] (w_M k am sM) (k_qI k ((f_X5_hear sM i1 i2 i3).1) (w_M k am ((f_X5_hear sM i1 i2 i3).2))) := by
  refine k_mk (cc := cX5_hear) (maxL := 5) (ret := (some .int)) (by decide) rfl (Nat.le_of_ble_eq_true rfl) ?_
  intro p e s m below meth c A ls C0 hP hD hS hl
  obtain ⟨hx, hb, hr, hts, hown, hlocks, hml, hA, hK⟩ := id C0
  have hown : s.vm.findClass RX5 = some m.cls := hown
  have hl : lv_has ls 5 [(0, .ref (am 0)), (1, .int i1), (2, .int i2), (3, .int i3)] := hl
  refine lv_aload_n hx hb dX5_hear_0 rfl (lv_at hl 0 rfl) ?_
  refine lv_iconst (v := 0) hx hb dX5_hear_1 (by decide) ?_
  refine va_put (D := k.1) (ci := 5) (v := .int 0) (ty := .int) (C := RX5) (T := TX5) (N := 28) hx hb hts in_X5_hear_X5 tyX5 tyX5_ok nmX5 hown hK hP hD hS 0 rfl rfl 0 (by decide) (k_w hts 1 rfl) (fun _ h9 => h9) rfl (by decide +kernel) rfl rfl (Nat.le_of_ble_eq_true rfl) dX5_hear_2 (fun H locs hP hD hS => ?_)
  have hP := k_cP (w_M_s0 k am sM 0) hP
  have hD := k_cD (w_M_s0 k am sM 0) hD
  rw [k_thr hT] at hP hD
  refine lv_aload_n hx hb dX5_hear_5 rfl (lv_at hl 0 rfl) ?_
  refine lv_iload_n hx hb dX5_hear_6 rfl (lv_at hl 1 rfl) ?_
  refine k_Vi (wr := ([] : va_W)) (ws' := w_M k am sM) (Rv := (f_X5_noMaster sM i1)) (rest := []) ⟨hx, hb, hml, hown, hts⟩ hK hA hP hD hS (c_X5_noMaster l k am sM i1) (cwV 1 hts gX5_hear_X5_noMaster rfl rfl rfl (by decide +kernel) ⟨Nat.le_of_ble_eq_true rfl, Nat.le_of_ble_eq_true rfl⟩) (va_recv hK hP (ci := 5) (q0 := 0) rfl rfl) rfl hl.1 rfl (Nat.le_of_ble_eq_true rfl) dX5_hear_7 (Nat.zero_le _) (Nat.zero_le _) [0, 1, 2, 3, 4, 5, 6, 7, 8, 9, 10, 11, 12, 13, 14, 15, 16, 17, 18, 19, 20, 21] [] [0, 1, 2, 3, 4, 5, 6, 7, 8, 9, 10, 11, 12, 13, 14, 15, 16, 17, 18, 19, 20, 21] rfl rfl rfl (by decide) rfl rfl rfl (fun H locs hP hD hS => ?_)
  refine lv_if_ne (tgt := 21) hx hb dX5_hear_10 (by decide) (fun c_1 => ?_) (fun c_1 => ?_)
  ·
    refine lv_iconst (v := (-1)) hx hb dX5_hear_21 (by decide) ?_
    have ef : f_X5_hear sM i1 i2 i3 = ((-1), sM) := by
      rw [f_X5_hear, if_neg c_1]
    exact k_reti hx hb hr hK (by rw [ef]; exact hP) (by rw [ef]; exact hD) hS hlocks dX5_hear_22 (by rw [ef])
  ·
    refine lv_aload_n hx hb dX5_hear_13 rfl (lv_at hl 0 rfl) ?_
    refine lv_iload_n hx hb dX5_hear_14 rfl (lv_at hl 2 rfl) ?_
    refine k_Vi (wr := ([] : va_W)) (ws' := w_M k am sM) (Rv := (f_X5_noServant sM i2)) (rest := []) ⟨hx, hb, hml, hown, hts⟩ hK hA hP hD hS (c_X5_noServant l k am sM i2) (cwV 1 hts gX5_hear_X5_noServant rfl rfl rfl (by decide +kernel) ⟨Nat.le_of_ble_eq_true rfl, Nat.le_of_ble_eq_true rfl⟩) (va_recv hK hP (ci := 5) (q0 := 0) rfl rfl) rfl hl.1 rfl (Nat.le_of_ble_eq_true rfl) dX5_hear_15 (Nat.zero_le _) (Nat.zero_le _) [0, 1, 2, 3, 4, 5, 6, 7, 8, 9, 10, 11, 12, 13, 14, 15, 16, 17, 18, 19, 20, 21] [] [0, 1, 2, 3, 4, 5, 6, 7, 8, 9, 10, 11, 12, 13, 14, 15, 16, 17, 18, 19, 20, 21] rfl rfl rfl (by decide) rfl rfl rfl (fun H locs hP hD hS => ?_)
    refine lv_if_eq (tgt := 23) hx hb dX5_hear_18 (by decide) (fun c_2 => ?_) (fun c_2 => ?_)
    ·
      refine lv_iload_n hx hb dX5_hear_23 rfl (lv_at hl 3 rfl) ?_
      refine lv_i2l (v := i3.toInt64) hx hb dX5_hear_24 rfl ?_
      refine lv_lconst (v := 1) hx hb dX5_hear_25 (by decide) ?_
      refine lv_ldc2 hx hb hown (k_w hts 2 rfl) dX5_hear_26 ?_
      refine k_Si (wr := w_M k am sM) (ws' := w_M k am sM) (Rv := (f_X5_in i3.toInt64 1 9)) (rest := []) ⟨hx, hb, hml, hown, hts⟩ hK hA hP hD hS (c_X5_in l k i3.toInt64 1 9) (va_cwS 3 hts gX5_hear_X5_in rfl rfl rfl (by decide +kernel) ⟨Nat.le_of_ble_eq_true rfl, Nat.le_of_ble_eq_true rfl⟩) rfl hl.1 rfl (Nat.le_of_ble_eq_true rfl) dX5_hear_29 (Nat.zero_le _) (Nat.zero_le _) [] [0, 1, 2, 3, 4, 5, 6, 7, 8, 9, 10, 11, 12, 13, 14, 15, 16, 17, 18, 19, 20, 21] [0, 1, 2, 3, 4, 5, 6, 7, 8, 9, 10, 11, 12, 13, 14, 15, 16, 17, 18, 19, 20, 21] rfl rfl rfl (by decide) rfl rfl rfl (fun H locs hP hD hS => ?_)
      refine lv_if_ne (tgt := 38) hx hb dX5_hear_32 (by decide) (fun c_3 => ?_) (fun c_3 => ?_)
      ·
        refine lv_aload_n hx hb dX5_hear_38 rfl (lv_at hl 0 rfl) ?_
        refine lv_iload_n hx hb dX5_hear_39 rfl (lv_at hl 1 rfl) ?_
        refine lv_iload_n hx hb dX5_hear_40 rfl (lv_at hl 2 rfl) ?_
        refine k_Vi (wr := ([] : va_W)) (ws' := w_M k am sM) (Rv := (f_X5_held sM i1 i2)) (rest := []) ⟨hx, hb, hml, hown, hts⟩ hK hA hP hD hS (c_X5_held l k am sM i1 i2 (by first | assumption | exact k_ns hNs (by assumption) | exact k_nm hNm (by assumption)) (by first | assumption | exact k_ns hNs (by assumption) | exact k_nm hNm (by assumption))) (cwV 2 hts gX5_hear_X5_held rfl rfl rfl (by decide +kernel) ⟨Nat.le_of_ble_eq_true rfl, Nat.le_of_ble_eq_true rfl⟩) (va_recv hK hP (ci := 5) (q0 := 0) rfl rfl) rfl hl.1 rfl (Nat.le_of_ble_eq_true rfl) dX5_hear_41 (Nat.zero_le _) (Nat.zero_le _) [0, 1, 2, 3, 4, 5, 6, 7, 8, 9, 10, 11, 12, 13, 14, 15, 16, 17, 18, 19, 20, 21] [] [0, 1, 2, 3, 4, 5, 6, 7, 8, 9, 10, 11, 12, 13, 14, 15, 16, 17, 18, 19, 20, 21] rfl rfl rfl (by decide) rfl rfl rfl (fun H locs hP hD hS => ?_)
        refine lv_istore (lv' := [(4, .int (f_X5_held sM i1 i2)), (0, .ref (am 0)), (1, .int i1), (2, .int i2), (3, .int i3)]) hx hb dX5_hear_44 hl (by decide) rfl (fun ls hl => ?_)
        refine lv_aload_n hx hb dX5_hear_46 rfl (lv_at hl 1 rfl) ?_
        refine va_get (D := k.1) (ci := 5) (v := .ref (am 6)) (C := RX5) (T := TX5) (N := 28) hx hb hts in_X5_hear_X5 hown hK hP 0 rfl rfl 8 (by decide) (k_w hts 3 rfl) (fun _ h9 => h9) rfl dX5_hear_47 ?_
        refine lv_bipush (v := 10) hx hb dX5_hear_50 (by decide) ?_
        refine lv_iload_n hx hb dX5_hear_52 rfl (lv_at hl 2 rfl) ?_
        refine lv_imul hx hb dX5_hear_53 ?_
        refine lv_iload_n hx hb dX5_hear_54 rfl (lv_at hl 3 rfl) ?_
        refine lv_iadd hx hb dX5_hear_55 ?_
        refine lv_iload_n hx hb dX5_hear_56 rfl (lv_at hl 4 rfl) ?_
        refine va_iast (f := sM 6) hx hb hK hP hD hS 6 0 rfl rfl (k_in10 (by first | assumption | exact k_ns hNs (by assumption) | exact k_nm hNm (by assumption)) (by first | assumption | exact k_ns hNs (by assumption) | exact k_nm hNm (by assumption))) dX5_hear_57 (fun H locs hP hD hS => ?_)
        have hP := k_cP (w_M_6 k am sM (upd (sM 6) ((10 * i1) + i2).toNatClampNeg i3)) hP
        have hD := k_cD (w_M_6 k am sM (upd (sM 6) ((10 * i1) + i2).toNatClampNeg i3)) hD
        refine lv_iload hx hb dX5_hear_58 (lv_at hl 0 rfl) ?_
        have ef : f_X5_hear sM i1 i2 i3 = ((f_X5_held sM i1 i2), k_st sM 6 (upd (sM 6) ((10 * i1) + i2).toNatClampNeg i3)) := by
          rw [f_X5_hear, if_pos c_1, if_pos c_2, if_neg c_3]
        exact k_reti hx hb hr hK (by rw [ef]; exact hP) (by rw [ef]; exact hD) hS hlocks dX5_hear_60 (by rw [ef])
      ·
        refine lv_bipush (v := (-2)) hx hb dX5_hear_35 (by decide) ?_
        have ef : f_X5_hear sM i1 i2 i3 = ((-2), sM) := by
          rw [f_X5_hear, if_pos c_1, if_pos c_2, if_pos c_3]
        exact k_reti hx hb hr hK (by rw [ef]; exact hP) (by rw [ef]; exact hD) hS hlocks dX5_hear_37 (by rw [ef])
    ·
      refine lv_iconst (v := (-1)) hx hb dX5_hear_21 (by decide) ?_
      have ef : f_X5_hear sM i1 i2 i3 = ((-1), sM) := by
        rw [f_X5_hear, if_pos c_1, if_neg c_2]
      exact k_reti hx hb hr hK (by rw [ef]; exact hP) (by rw [ef]; exact hD) hS hlocks dX5_hear_22 (by rw [ef])
theorem in_X5_pass_X5 : ∀ w ∈ wsX50, w ∈ wsX5_pass := fun _ h => List.mem_cons_of_mem _ (List.mem_append_right _ h)
def f_X5_pass (sM : Nat → Nat → Int32) (i1 : Int32) (i2 : Int32) (i3 : Int32) : Int32 × (Nat → Nat → Int32) :=
  if (f_X5_noMaster sM i1) = 0 then (if (f_X5_noMaster sM i2) = 0 then (if (f_X5_noServant sM i3) = 0 then (if i1 = i2 then ((-3), sM)
        else if ((sM 6) ((10 * i1) + i3).toNatClampNeg) = 0 then ((-3), sM)
        else (((upd (sM 6) ((10 * i2) + i3).toNatClampNeg ((sM 6) ((10 * i1) + i3).toNatClampNeg)) ((10 * i2) + i3).toNatClampNeg), k_st sM 6 (upd (sM 6) ((10 * i2) + i3).toNatClampNeg ((sM 6) ((10 * i1) + i3).toNatClampNeg))))
      else ((-1), sM))
    else ((-1), sM))
  else ((-1), sM)
set_option maxHeartbeats 4000000 in
set_option maxRecDepth 100000 in
theorem c_X5_pass (l : Launch) (k : K_X) (am : Nat → Nat) (sM : Nat → Nat → Int32) (i1 : Int32) (i2 : Int32) (i3 : Int32) (hT : sM 0 0 = 0) (hNs : k_n (sM 0 1) 10) (hNm : k_n (sM 0 2) 10) : k_C l yX5_pass wsX5_pass (k_rm 2 46) k [.ref (am 0), .int i1, .int i2, .int i3] (w_M k am sM) (k_qI k ((f_X5_pass sM i1 i2 i3).1) (w_M k am ((f_X5_pass sM i1 i2 i3).2))) := by
  refine k_mk (cc := cX5_pass) (maxL := 4) (ret := (some .int)) (by decide) rfl (Nat.le_of_ble_eq_true rfl) ?_
  intro p e s m below meth c A ls C0 hP hD hS hl
  obtain ⟨hx, hb, hr, hts, hown, hlocks, hml, hA, hK⟩ := id C0
  have hown : s.vm.findClass RX5 = some m.cls := hown
  have hl : lv_has ls 4 [(0, .ref (am 0)), (1, .int i1), (2, .int i2), (3, .int i3)] := hl
  refine lv_aload_n hx hb dX5_pass_0 rfl (lv_at hl 0 rfl) ?_
  refine lv_iconst (v := 0) hx hb dX5_pass_1 (by decide) ?_
  refine va_put (D := k.1) (ci := 5) (v := .int 0) (ty := .int) (C := RX5) (T := TX5) (N := 28) hx hb hts in_X5_pass_X5 tyX5 tyX5_ok nmX5 hown hK hP hD hS 0 rfl rfl 0 (by decide) (k_w hts 1 rfl) (fun _ h9 => h9) rfl (by decide +kernel) rfl rfl (Nat.le_of_ble_eq_true rfl) dX5_pass_2 (fun H locs hP hD hS => ?_)
  have hP := k_cP (w_M_s0 k am sM 0) hP
  have hD := k_cD (w_M_s0 k am sM 0) hD
  rw [k_thr hT] at hP hD
  refine lv_aload_n hx hb dX5_pass_5 rfl (lv_at hl 0 rfl) ?_
  refine lv_iload_n hx hb dX5_pass_6 rfl (lv_at hl 1 rfl) ?_
  refine k_Vi (wr := ([] : va_W)) (ws' := w_M k am sM) (Rv := (f_X5_noMaster sM i1)) (rest := []) ⟨hx, hb, hml, hown, hts⟩ hK hA hP hD hS (c_X5_noMaster l k am sM i1) (cwV 1 hts gX5_pass_X5_noMaster rfl rfl rfl (by decide +kernel) ⟨Nat.le_of_ble_eq_true rfl, Nat.le_of_ble_eq_true rfl⟩) (va_recv hK hP (ci := 5) (q0 := 0) rfl rfl) rfl hl.1 rfl (Nat.le_of_ble_eq_true rfl) dX5_pass_7 (Nat.zero_le _) (Nat.zero_le _) [0, 1, 2, 3, 4, 5, 6, 7, 8, 9, 10, 11, 12, 13, 14, 15, 16, 17, 18, 19, 20, 21] [] [0, 1, 2, 3, 4, 5, 6, 7, 8, 9, 10, 11, 12, 13, 14, 15, 16, 17, 18, 19, 20, 21] rfl rfl rfl (by decide) rfl rfl rfl (fun H locs hP hD hS => ?_)
  refine lv_if_ne (tgt := 29) hx hb dX5_pass_10 (by decide) (fun c_1 => ?_) (fun c_1 => ?_)
  ·
    refine lv_iconst (v := (-1)) hx hb dX5_pass_29 (by decide) ?_
    have ef : f_X5_pass sM i1 i2 i3 = ((-1), sM) := by
      rw [f_X5_pass, if_neg c_1]
    exact k_reti hx hb hr hK (by rw [ef]; exact hP) (by rw [ef]; exact hD) hS hlocks dX5_pass_30 (by rw [ef])
  ·
    refine lv_aload_n hx hb dX5_pass_13 rfl (lv_at hl 0 rfl) ?_
    refine lv_iload_n hx hb dX5_pass_14 rfl (lv_at hl 2 rfl) ?_
    refine k_Vi (wr := ([] : va_W)) (ws' := w_M k am sM) (Rv := (f_X5_noMaster sM i2)) (rest := []) ⟨hx, hb, hml, hown, hts⟩ hK hA hP hD hS (c_X5_noMaster l k am sM i2) (cwV 1 hts gX5_pass_X5_noMaster rfl rfl rfl (by decide +kernel) ⟨Nat.le_of_ble_eq_true rfl, Nat.le_of_ble_eq_true rfl⟩) (va_recv hK hP (ci := 5) (q0 := 0) rfl rfl) rfl hl.1 rfl (Nat.le_of_ble_eq_true rfl) dX5_pass_15 (Nat.zero_le _) (Nat.zero_le _) [0, 1, 2, 3, 4, 5, 6, 7, 8, 9, 10, 11, 12, 13, 14, 15, 16, 17, 18, 19, 20, 21] [] [0, 1, 2, 3, 4, 5, 6, 7, 8, 9, 10, 11, 12, 13, 14, 15, 16, 17, 18, 19, 20, 21] rfl rfl rfl (by decide) rfl rfl rfl (fun H locs hP hD hS => ?_)
    refine lv_if_ne (tgt := 29) hx hb dX5_pass_18 (by decide) (fun c_2 => ?_) (fun c_2 => ?_)
    ·
      refine lv_iconst (v := (-1)) hx hb dX5_pass_29 (by decide) ?_
      have ef : f_X5_pass sM i1 i2 i3 = ((-1), sM) := by
        rw [f_X5_pass, if_pos c_1, if_neg c_2]
      exact k_reti hx hb hr hK (by rw [ef]; exact hP) (by rw [ef]; exact hD) hS hlocks dX5_pass_30 (by rw [ef])
    ·
      refine lv_aload_n hx hb dX5_pass_21 rfl (lv_at hl 0 rfl) ?_
      refine lv_iload_n hx hb dX5_pass_22 rfl (lv_at hl 3 rfl) ?_
      refine k_Vi (wr := ([] : va_W)) (ws' := w_M k am sM) (Rv := (f_X5_noServant sM i3)) (rest := []) ⟨hx, hb, hml, hown, hts⟩ hK hA hP hD hS (c_X5_noServant l k am sM i3) (cwV 1 hts gX5_pass_X5_noServant rfl rfl rfl (by decide +kernel) ⟨Nat.le_of_ble_eq_true rfl, Nat.le_of_ble_eq_true rfl⟩) (va_recv hK hP (ci := 5) (q0 := 0) rfl rfl) rfl hl.1 rfl (Nat.le_of_ble_eq_true rfl) dX5_pass_23 (Nat.zero_le _) (Nat.zero_le _) [0, 1, 2, 3, 4, 5, 6, 7, 8, 9, 10, 11, 12, 13, 14, 15, 16, 17, 18, 19, 20, 21] [] [0, 1, 2, 3, 4, 5, 6, 7, 8, 9, 10, 11, 12, 13, 14, 15, 16, 17, 18, 19, 20, 21] rfl rfl rfl (by decide) rfl rfl rfl (fun H locs hP hD hS => ?_)
      refine lv_if_eq (tgt := 31) hx hb dX5_pass_26 (by decide) (fun c_3 => ?_) (fun c_3 => ?_)
      ·
        refine lv_iload_n hx hb dX5_pass_31 rfl (lv_at hl 1 rfl) ?_
        refine lv_iload_n hx hb dX5_pass_32 rfl (lv_at hl 2 rfl) ?_
        refine lv_icmp_eq (tgt := 50) hx hb dX5_pass_33 (by decide) (fun c_4 => ?_) (fun c_4 => ?_)
        ·
          refine lv_bipush (v := (-3)) hx hb dX5_pass_50 (by decide) ?_
          have ef : f_X5_pass sM i1 i2 i3 = ((-3), sM) := by
            rw [f_X5_pass, if_pos c_1, if_pos c_2, if_pos c_3, if_pos c_4]
          exact k_reti hx hb hr hK (by rw [ef]; exact hP) (by rw [ef]; exact hD) hS hlocks dX5_pass_52 (by rw [ef])
        ·
          refine lv_aload_n hx hb dX5_pass_36 rfl (lv_at hl 0 rfl) ?_
          refine va_get (D := k.1) (ci := 5) (v := .ref (am 6)) (C := RX5) (T := TX5) (N := 28) hx hb hts in_X5_pass_X5 hown hK hP 0 rfl rfl 8 (by decide) (k_w hts 2 rfl) (fun _ h9 => h9) rfl dX5_pass_37 ?_
          refine lv_bipush (v := 10) hx hb dX5_pass_40 (by decide) ?_
          refine lv_iload_n hx hb dX5_pass_42 rfl (lv_at hl 1 rfl) ?_
          refine lv_imul hx hb dX5_pass_43 ?_
          refine lv_iload_n hx hb dX5_pass_44 rfl (lv_at hl 3 rfl) ?_
          refine lv_iadd hx hb dX5_pass_45 ?_
          refine va_iald (f := sM 6) hx hb hK hP 6 0 rfl rfl (k_in10 (by first | assumption | exact k_ns hNs (by assumption) | exact k_nm hNm (by assumption)) (by first | assumption | exact k_ns hNs (by assumption) | exact k_nm hNm (by assumption))) dX5_pass_46 ?_
          refine lv_if_ne (tgt := 53) hx hb dX5_pass_47 (by decide) (fun c_5 => ?_) (fun c_5 => ?_)
          ·
            refine lv_aload_n hx hb dX5_pass_53 rfl (lv_at hl 0 rfl) ?_
            refine va_get (D := k.1) (ci := 5) (v := .ref (am 6)) (C := RX5) (T := TX5) (N := 28) hx hb hts in_X5_pass_X5 hown hK hP 0 rfl rfl 8 (by decide) (k_w hts 2 rfl) (fun _ h9 => h9) rfl dX5_pass_54 ?_
            refine lv_bipush (v := 10) hx hb dX5_pass_57 (by decide) ?_
            refine lv_iload_n hx hb dX5_pass_59 rfl (lv_at hl 2 rfl) ?_
            refine lv_imul hx hb dX5_pass_60 ?_
            refine lv_iload_n hx hb dX5_pass_61 rfl (lv_at hl 3 rfl) ?_
            refine lv_iadd hx hb dX5_pass_62 ?_
            refine lv_aload_n hx hb dX5_pass_63 rfl (lv_at hl 0 rfl) ?_
            refine va_get (D := k.1) (ci := 5) (v := .ref (am 6)) (C := RX5) (T := TX5) (N := 28) hx hb hts in_X5_pass_X5 hown hK hP 0 rfl rfl 8 (by decide) (k_w hts 2 rfl) (fun _ h9 => h9) rfl dX5_pass_64 ?_
            refine lv_bipush (v := 10) hx hb dX5_pass_67 (by decide) ?_
            refine lv_iload_n hx hb dX5_pass_69 rfl (lv_at hl 1 rfl) ?_
            refine lv_imul hx hb dX5_pass_70 ?_
            refine lv_iload_n hx hb dX5_pass_71 rfl (lv_at hl 3 rfl) ?_
            refine lv_iadd hx hb dX5_pass_72 ?_
            refine va_iald (f := sM 6) hx hb hK hP 6 0 rfl rfl (k_in10 (by first | assumption | exact k_ns hNs (by assumption) | exact k_nm hNm (by assumption)) (by first | assumption | exact k_ns hNs (by assumption) | exact k_nm hNm (by assumption))) dX5_pass_73 ?_
            refine va_iast (f := sM 6) hx hb hK hP hD hS 6 0 rfl rfl (k_in10 (by first | assumption | exact k_ns hNs (by assumption) | exact k_nm hNm (by assumption)) (by first | assumption | exact k_ns hNs (by assumption) | exact k_nm hNm (by assumption))) dX5_pass_74 (fun H locs hP hD hS => ?_)
            have hP := k_cP (w_M_6 k am sM (upd (sM 6) ((10 * i2) + i3).toNatClampNeg ((sM 6) ((10 * i1) + i3).toNatClampNeg))) hP
            have hD := k_cD (w_M_6 k am sM (upd (sM 6) ((10 * i2) + i3).toNatClampNeg ((sM 6) ((10 * i1) + i3).toNatClampNeg))) hD
            refine lv_aload_n hx hb dX5_pass_75 rfl (lv_at hl 0 rfl) ?_
            refine va_get (D := k.1) (ci := 5) (v := .ref (am 6)) (C := RX5) (T := TX5) (N := 28) hx hb hts in_X5_pass_X5 hown hK hP 0 rfl rfl 8 (by decide) (k_w hts 2 rfl) (fun _ h9 => h9) rfl dX5_pass_76 ?_
            refine lv_bipush (v := 10) hx hb dX5_pass_79 (by decide) ?_
            refine lv_iload_n hx hb dX5_pass_81 rfl (lv_at hl 2 rfl) ?_
            refine lv_imul hx hb dX5_pass_82 ?_
            refine lv_iload_n hx hb dX5_pass_83 rfl (lv_at hl 3 rfl) ?_
            refine lv_iadd hx hb dX5_pass_84 ?_
            refine va_iald (f := upd (sM 6) ((10 * i2) + i3).toNatClampNeg ((sM 6) ((10 * i1) + i3).toNatClampNeg)) hx hb hK hP 6 0 rfl rfl (k_in10 (by first | assumption | exact k_ns hNs (by assumption) | exact k_nm hNm (by assumption)) (by first | assumption | exact k_ns hNs (by assumption) | exact k_nm hNm (by assumption))) dX5_pass_85 ?_
            have ef : f_X5_pass sM i1 i2 i3 = (((upd (sM 6) ((10 * i2) + i3).toNatClampNeg ((sM 6) ((10 * i1) + i3).toNatClampNeg)) ((10 * i2) + i3).toNatClampNeg), k_st sM 6 (upd (sM 6) ((10 * i2) + i3).toNatClampNeg ((sM 6) ((10 * i1) + i3).toNatClampNeg))) := by
              rw [f_X5_pass, if_pos c_1, if_pos c_2, if_pos c_3, if_neg c_4, if_neg c_5]
            exact k_reti hx hb hr hK (by rw [ef]; exact hP) (by rw [ef]; exact hD) hS hlocks dX5_pass_86 (by rw [ef])
          ·
            refine lv_bipush (v := (-3)) hx hb dX5_pass_50 (by decide) ?_
            have ef : f_X5_pass sM i1 i2 i3 = ((-3), sM) := by
              rw [f_X5_pass, if_pos c_1, if_pos c_2, if_pos c_3, if_neg c_4, if_pos c_5]
            exact k_reti hx hb hr hK (by rw [ef]; exact hP) (by rw [ef]; exact hD) hS hlocks dX5_pass_52 (by rw [ef])
      ·
        refine lv_iconst (v := (-1)) hx hb dX5_pass_29 (by decide) ?_
        have ef : f_X5_pass sM i1 i2 i3 = ((-1), sM) := by
          rw [f_X5_pass, if_pos c_1, if_pos c_2, if_neg c_3]
        exact k_reti hx hb hr hK (by rw [ef]; exact hP) (by rw [ef]; exact hD) hS hlocks dX5_pass_30 (by rw [ef])
theorem in_X5_about_X5 : ∀ w ∈ wsX50, w ∈ wsX5_about := fun _ h => List.mem_cons_of_mem _ (List.mem_append_right _ h)
def f_X5_about (sM : Nat → Nat → Int32) (i1 : Int32) (i2 : Int32) : Int32 :=
  if (f_X5_noServant sM i1) = 0 then (if ((sM 9) i1.toNatClampNeg) = (-9) then (if i2 = 0 then (sM 1) i1.toNatClampNeg
      else if i2 = 1 then (sM 2) i1.toNatClampNeg
      else if i2 = 2 then (sM 3) i1.toNatClampNeg
      else if i2 = 3 then (sM 9) i1.toNatClampNeg
      else if i2 = 4 then -9
      else if i2 = 5 then -9
      else if i2 = 6 then -9
      else -2)
    else if i2 = 0 then (sM 1) i1.toNatClampNeg
    else if i2 = 1 then (sM 2) i1.toNatClampNeg
    else if i2 = 2 then (sM 3) i1.toNatClampNeg
    else if i2 = 3 then (sM 9) i1.toNatClampNeg
    else if i2 = 4 then (sM 10) i1.toNatClampNeg
    else if i2 = 5 then (sM 11) i1.toNatClampNeg
    else if i2 = 6 then (if (sM 0 6) = (-9) then -9
      else (sM 14) i1.toNatClampNeg)
    else -2)
  else -1
set_option maxHeartbeats 4000000 in
set_option maxRecDepth 100000 in
theorem c_X5_about (l : Launch) (k : K_X) (am : Nat → Nat) (sM : Nat → Nat → Int32) (i1 : Int32) (i2 : Int32) (hT : sM 0 0 = 0) (hNs : k_n (sM 0 1) 10) : k_C l yX5_about wsX5_about (k_rm 2 46) k [.ref (am 0), .int i1, .int i2] (w_M k am sM) (k_qI k (f_X5_about sM i1 i2) (w_M k am sM)) := by
  refine k_mk (cc := cX5_about) (maxL := 4) (ret := (some .int)) (by decide) rfl (Nat.le_of_ble_eq_true rfl) ?_
  intro p e s m below meth c A ls C0 hP hD hS hl
  obtain ⟨hx, hb, hr, hts, hown, hlocks, hml, hA, hK⟩ := id C0
  have hown : s.vm.findClass RX5 = some m.cls := hown
  have hl : lv_has ls 4 [(0, .ref (am 0)), (1, .int i1), (2, .int i2)] := hl
  refine lv_aload_n hx hb dX5_about_0 rfl (lv_at hl 0 rfl) ?_
  refine lv_iconst (v := 0) hx hb dX5_about_1 (by decide) ?_
  refine va_put (D := k.1) (ci := 5) (v := .int 0) (ty := .int) (C := RX5) (T := TX5) (N := 28) hx hb hts in_X5_about_X5 tyX5 tyX5_ok nmX5 hown hK hP hD hS 0 rfl rfl 0 (by decide) (k_w hts 1 rfl) (fun _ h9 => h9) rfl (by decide +kernel) rfl rfl (Nat.le_of_ble_eq_true rfl) dX5_about_2 (fun H locs hP hD hS => ?_)
  have hP := k_cP (w_M_s0 k am sM 0) hP
  have hD := k_cD (w_M_s0 k am sM 0) hD
  rw [k_thr hT] at hP hD
  refine lv_aload_n hx hb dX5_about_5 rfl (lv_at hl 0 rfl) ?_
  refine lv_iload_n hx hb dX5_about_6 rfl (lv_at hl 1 rfl) ?_
  refine k_Vi (wr := ([] : va_W)) (ws' := w_M k am sM) (Rv := (f_X5_noServant sM i1)) (rest := []) ⟨hx, hb, hml, hown, hts⟩ hK hA hP hD hS (c_X5_noServant l k am sM i1) (cwV 1 hts gX5_about_X5_noServant rfl rfl rfl (by decide +kernel) ⟨Nat.le_of_ble_eq_true rfl, Nat.le_of_ble_eq_true rfl⟩) (va_recv hK hP (ci := 5) (q0 := 0) rfl rfl) rfl hl.1 rfl (Nat.le_of_ble_eq_true rfl) dX5_about_7 (Nat.zero_le _) (Nat.zero_le _) [0, 1, 2, 3, 4, 5, 6, 7, 8, 9, 10, 11, 12, 13, 14, 15, 16, 17, 18, 19, 20, 21] [] [0, 1, 2, 3, 4, 5, 6, 7, 8, 9, 10, 11, 12, 13, 14, 15, 16, 17, 18, 19, 20, 21] rfl rfl rfl (by decide) rfl rfl rfl (fun H locs hP hD hS => ?_)
  refine lv_if_eq (tgt := 15) hx hb dX5_about_10 (by decide) (fun c_1 => ?_) (fun c_1 => ?_)
  ·
    refine lv_aload_n hx hb dX5_about_15 rfl (lv_at hl 0 rfl) ?_
    refine va_get (D := k.1) (ci := 5) (v := .ref (am 9)) (C := RX5) (T := TX5) (N := 28) hx hb hts in_X5_about_X5 hown hK hP 0 rfl rfl 11 (by decide) (k_w hts 2 rfl) (fun _ h9 => h9) rfl dX5_about_16 ?_
    refine lv_iload_n hx hb dX5_about_19 rfl (lv_at hl 1 rfl) ?_
    refine va_iald (f := sM 9) hx hb hK hP 9 0 rfl rfl (by first | assumption | exact k_ns hNs (by assumption) | exact k_nm hNm (by assumption)) dX5_about_20 ?_
    refine lv_bipush (v := (-9)) hx hb dX5_about_21 (by decide) ?_
    refine lv_icmp_eq (tgt := 30) hx hb dX5_about_23 (by decide) (fun c_2 => ?_) (fun c_2 => ?_)
    ·
      refine lv_iconst (v := 0) hx hb dX5_about_30 (by decide) ?_
      refine lv_istore_n (lv' := [(3, .int 0), (0, .ref (am 0)), (1, .int i1), (2, .int i2)]) hx hb dX5_about_31 rfl hl (by decide) rfl (fun ls hl => ?_)
      refine lv_iload_n hx hb dX5_about_32 rfl (lv_at hl 3 rfl) ?_
      by_cases c_3 : i2 = 0
      ·
        refine lv_tableIn (off := 43) (tgt := 76) hx hb dX5_about_33 (by rw [c_3]; decide) (by rw [c_3]; decide) (by rw [c_3]; rfl) (by decide) ?_
        refine lv_aload_n hx hb dX5_about_76 rfl (lv_at hl 1 rfl) ?_
        refine va_get (D := k.1) (ci := 5) (v := .ref (am 1)) (C := RX5) (T := TX5) (N := 28) hx hb hts in_X5_about_X5 hown hK hP 0 rfl rfl 2 (by decide) (k_w hts 3 rfl) (fun _ h9 => h9) rfl dX5_about_77 ?_
        refine lv_iload_n hx hb dX5_about_80 rfl (lv_at hl 2 rfl) ?_
        refine va_iald (f := sM 1) hx hb hK hP 1 0 rfl rfl (by first | assumption | exact k_ns hNs (by assumption) | exact k_nm hNm (by assumption)) dX5_about_81 ?_
        have ef : f_X5_about sM i1 i2 = (sM 1) i1.toNatClampNeg := by
          rw [f_X5_about, if_pos c_1, if_pos c_2, if_pos c_3]
        exact k_reti hx hb hr hK hP hD hS hlocks dX5_about_82 (by rw [ef])
      by_cases c_4 : i2 = 1
      ·
        refine lv_tableIn (off := 50) (tgt := 83) hx hb dX5_about_33 (by rw [c_4]; decide) (by rw [c_4]; decide) (by rw [c_4]; rfl) (by decide) ?_
        refine lv_aload_n hx hb dX5_about_83 rfl (lv_at hl 1 rfl) ?_
        refine va_get (D := k.1) (ci := 5) (v := .ref (am 2)) (C := RX5) (T := TX5) (N := 28) hx hb hts in_X5_about_X5 hown hK hP 0 rfl rfl 3 (by decide) (k_w hts 4 rfl) (fun _ h9 => h9) rfl dX5_about_84 ?_
        refine lv_iload_n hx hb dX5_about_87 rfl (lv_at hl 2 rfl) ?_
        refine va_iald (f := sM 2) hx hb hK hP 2 0 rfl rfl (by first | assumption | exact k_ns hNs (by assumption) | exact k_nm hNm (by assumption)) dX5_about_88 ?_
        have ef : f_X5_about sM i1 i2 = (sM 2) i1.toNatClampNeg := by
          rw [f_X5_about, if_pos c_1, if_pos c_2, if_neg c_3, if_pos c_4]
        exact k_reti hx hb hr hK hP hD hS hlocks dX5_about_89 (by rw [ef])
      by_cases c_5 : i2 = 2
      ·
        refine lv_tableIn (off := 57) (tgt := 90) hx hb dX5_about_33 (by rw [c_5]; decide) (by rw [c_5]; decide) (by rw [c_5]; rfl) (by decide) ?_
        refine lv_aload_n hx hb dX5_about_90 rfl (lv_at hl 1 rfl) ?_
        refine va_get (D := k.1) (ci := 5) (v := .ref (am 3)) (C := RX5) (T := TX5) (N := 28) hx hb hts in_X5_about_X5 hown hK hP 0 rfl rfl 4 (by decide) (k_w hts 5 rfl) (fun _ h9 => h9) rfl dX5_about_91 ?_
        refine lv_iload_n hx hb dX5_about_94 rfl (lv_at hl 2 rfl) ?_
        refine va_iald (f := sM 3) hx hb hK hP 3 0 rfl rfl (by first | assumption | exact k_ns hNs (by assumption) | exact k_nm hNm (by assumption)) dX5_about_95 ?_
        have ef : f_X5_about sM i1 i2 = (sM 3) i1.toNatClampNeg := by
          rw [f_X5_about, if_pos c_1, if_pos c_2, if_neg c_3, if_neg c_4, if_pos c_5]
        exact k_reti hx hb hr hK hP hD hS hlocks dX5_about_96 (by rw [ef])
      by_cases c_6 : i2 = 3
      ·
        refine lv_tableIn (off := 64) (tgt := 97) hx hb dX5_about_33 (by rw [c_6]; decide) (by rw [c_6]; decide) (by rw [c_6]; rfl) (by decide) ?_
        refine lv_aload_n hx hb dX5_about_97 rfl (lv_at hl 1 rfl) ?_
        refine va_get (D := k.1) (ci := 5) (v := .ref (am 9)) (C := RX5) (T := TX5) (N := 28) hx hb hts in_X5_about_X5 hown hK hP 0 rfl rfl 11 (by decide) (k_w hts 2 rfl) (fun _ h9 => h9) rfl dX5_about_98 ?_
        refine lv_iload_n hx hb dX5_about_101 rfl (lv_at hl 2 rfl) ?_
        refine va_iald (f := sM 9) hx hb hK hP 9 0 rfl rfl (by first | assumption | exact k_ns hNs (by assumption) | exact k_nm hNm (by assumption)) dX5_about_102 ?_
        have ef : f_X5_about sM i1 i2 = (sM 9) i1.toNatClampNeg := by
          rw [f_X5_about, if_pos c_1, if_pos c_2, if_neg c_3, if_neg c_4, if_neg c_5, if_pos c_6]
        exact k_reti hx hb hr hK hP hD hS hlocks dX5_about_103 (by rw [ef])
      by_cases c_7 : i2 = 4
      ·
        refine lv_tableIn (off := 71) (tgt := 104) hx hb dX5_about_33 (by rw [c_7]; decide) (by rw [c_7]; decide) (by rw [c_7]; rfl) (by decide) ?_
        refine lv_iload_n hx hb dX5_about_104 rfl (lv_at hl 0 rfl) ?_
        refine lv_if_eq (tgt := 117) hx hb dX5_about_105 (by decide) (fun c_8 => ?_) (fun c_8 => ?_)
        rotate_left
        · exact absurd (by decide) c_8
        refine lv_bipush (v := (-9)) hx hb dX5_about_117 (by decide) ?_
        have ef : f_X5_about sM i1 i2 = -9 := by
          rw [f_X5_about, if_pos c_1, if_pos c_2, if_neg c_3, if_neg c_4, if_neg c_5, if_neg c_6, if_pos c_7]
        exact k_reti hx hb hr hK hP hD hS hlocks dX5_about_119 (by rw [ef])
      by_cases c_9 : i2 = 5
      ·
        refine lv_tableIn (off := 87) (tgt := 120) hx hb dX5_about_33 (by rw [c_9]; decide) (by rw [c_9]; decide) (by rw [c_9]; rfl) (by decide) ?_
        refine lv_iload_n hx hb dX5_about_120 rfl (lv_at hl 0 rfl) ?_
        refine lv_if_eq (tgt := 133) hx hb dX5_about_121 (by decide) (fun c_10 => ?_) (fun c_10 => ?_)
        rotate_left
        · exact absurd (by decide) c_10
        refine lv_bipush (v := (-9)) hx hb dX5_about_133 (by decide) ?_
        have ef : f_X5_about sM i1 i2 = -9 := by
          rw [f_X5_about, if_pos c_1, if_pos c_2, if_neg c_3, if_neg c_4, if_neg c_5, if_neg c_6, if_neg c_7, if_pos c_9]
        exact k_reti hx hb hr hK hP hD hS hlocks dX5_about_135 (by rw [ef])
      by_cases c_11 : i2 = 6
      ·
        refine lv_tableIn (off := 103) (tgt := 136) hx hb dX5_about_33 (by rw [c_11]; decide) (by rw [c_11]; decide) (by rw [c_11]; rfl) (by decide) ?_
        refine lv_iload_n hx hb dX5_about_136 rfl (lv_at hl 0 rfl) ?_
        refine lv_if_eq (tgt := 158) hx hb dX5_about_137 (by decide) (fun c_12 => ?_) (fun c_12 => ?_)
        rotate_left
        · exact absurd (by decide) c_12
        refine lv_bipush (v := (-9)) hx hb dX5_about_158 (by decide) ?_
        have ef : f_X5_about sM i1 i2 = -9 := by
          rw [f_X5_about, if_pos c_1, if_pos c_2, if_neg c_3, if_neg c_4, if_neg c_5, if_neg c_6, if_neg c_7, if_neg c_9, if_pos c_11]
        exact k_reti hx hb hr hK hP hD hS hlocks dX5_about_160 (by rw [ef])
      refine lv_tableOut (tgt := 161) hx hb dX5_about_33 (by have q0 := lv_neT c_3 (a := 0) (by decide); have q1 := lv_neT c_4 (a := 1) (by decide); have q2 := lv_neT c_5 (a := 2) (by decide); have q3 := lv_neT c_6 (a := 3) (by decide); have q4 := lv_neT c_7 (a := 4) (by decide); have q5 := lv_neT c_9 (a := 5) (by decide); have q6 := lv_neT c_11 (a := 6) (by decide); omega) (by decide) ?_
      refine lv_bipush (v := (-2)) hx hb dX5_about_161 (by decide) ?_
      have ef : f_X5_about sM i1 i2 = -2 := by
        rw [f_X5_about, if_pos c_1, if_pos c_2, if_neg c_3, if_neg c_4, if_neg c_5, if_neg c_6, if_neg c_7, if_neg c_9, if_neg c_11]
      exact k_reti hx hb hr hK hP hD hS hlocks dX5_about_163 (by rw [ef])
    ·
      refine lv_iconst (v := 1) hx hb dX5_about_26 (by decide) ?_
      refine lv_goto (tgt := 31) hx hb dX5_about_27 (by decide) ?_
      refine lv_istore_n (lv' := [(3, .int 1), (0, .ref (am 0)), (1, .int i1), (2, .int i2)]) hx hb dX5_about_31 rfl hl (by decide) rfl (fun ls hl => ?_)
      refine lv_iload_n hx hb dX5_about_32 rfl (lv_at hl 3 rfl) ?_
      by_cases c_13 : i2 = 0
      ·
        refine lv_tableIn (off := 43) (tgt := 76) hx hb dX5_about_33 (by rw [c_13]; decide) (by rw [c_13]; decide) (by rw [c_13]; rfl) (by decide) ?_
        refine lv_aload_n hx hb dX5_about_76 rfl (lv_at hl 1 rfl) ?_
        refine va_get (D := k.1) (ci := 5) (v := .ref (am 1)) (C := RX5) (T := TX5) (N := 28) hx hb hts in_X5_about_X5 hown hK hP 0 rfl rfl 2 (by decide) (k_w hts 3 rfl) (fun _ h9 => h9) rfl dX5_about_77 ?_
        refine lv_iload_n hx hb dX5_about_80 rfl (lv_at hl 2 rfl) ?_
        refine va_iald (f := sM 1) hx hb hK hP 1 0 rfl rfl (by first | assumption | exact k_ns hNs (by assumption) | exact k_nm hNm (by assumption)) dX5_about_81 ?_
        have ef : f_X5_about sM i1 i2 = (sM 1) i1.toNatClampNeg := by
          rw [f_X5_about, if_pos c_1, if_neg c_2, if_pos c_13]
        exact k_reti hx hb hr hK hP hD hS hlocks dX5_about_82 (by rw [ef])
      by_cases c_14 : i2 = 1
      ·
        refine lv_tableIn (off := 50) (tgt := 83) hx hb dX5_about_33 (by rw [c_14]; decide) (by rw [c_14]; decide) (by rw [c_14]; rfl) (by decide) ?_
        refine lv_aload_n hx hb dX5_about_83 rfl (lv_at hl 1 rfl) ?_
        refine va_get (D := k.1) (ci := 5) (v := .ref (am 2)) (C := RX5) (T := TX5) (N := 28) hx hb hts in_X5_about_X5 hown hK hP 0 rfl rfl 3 (by decide) (k_w hts 4 rfl) (fun _ h9 => h9) rfl dX5_about_84 ?_
        refine lv_iload_n hx hb dX5_about_87 rfl (lv_at hl 2 rfl) ?_
        refine va_iald (f := sM 2) hx hb hK hP 2 0 rfl rfl (by first | assumption | exact k_ns hNs (by assumption) | exact k_nm hNm (by assumption)) dX5_about_88 ?_
        have ef : f_X5_about sM i1 i2 = (sM 2) i1.toNatClampNeg := by
          rw [f_X5_about, if_pos c_1, if_neg c_2, if_neg c_13, if_pos c_14]
        exact k_reti hx hb hr hK hP hD hS hlocks dX5_about_89 (by rw [ef])
      by_cases c_15 : i2 = 2
      ·
        refine lv_tableIn (off := 57) (tgt := 90) hx hb dX5_about_33 (by rw [c_15]; decide) (by rw [c_15]; decide) (by rw [c_15]; rfl) (by decide) ?_
        refine lv_aload_n hx hb dX5_about_90 rfl (lv_at hl 1 rfl) ?_
        refine va_get (D := k.1) (ci := 5) (v := .ref (am 3)) (C := RX5) (T := TX5) (N := 28) hx hb hts in_X5_about_X5 hown hK hP 0 rfl rfl 4 (by decide) (k_w hts 5 rfl) (fun _ h9 => h9) rfl dX5_about_91 ?_
        refine lv_iload_n hx hb dX5_about_94 rfl (lv_at hl 2 rfl) ?_
        refine va_iald (f := sM 3) hx hb hK hP 3 0 rfl rfl (by first | assumption | exact k_ns hNs (by assumption) | exact k_nm hNm (by assumption)) dX5_about_95 ?_
        have ef : f_X5_about sM i1 i2 = (sM 3) i1.toNatClampNeg := by
          rw [f_X5_about, if_pos c_1, if_neg c_2, if_neg c_13, if_neg c_14, if_pos c_15]
        exact k_reti hx hb hr hK hP hD hS hlocks dX5_about_96 (by rw [ef])
      by_cases c_16 : i2 = 3
      ·
        refine lv_tableIn (off := 64) (tgt := 97) hx hb dX5_about_33 (by rw [c_16]; decide) (by rw [c_16]; decide) (by rw [c_16]; rfl) (by decide) ?_
        refine lv_aload_n hx hb dX5_about_97 rfl (lv_at hl 1 rfl) ?_
        refine va_get (D := k.1) (ci := 5) (v := .ref (am 9)) (C := RX5) (T := TX5) (N := 28) hx hb hts in_X5_about_X5 hown hK hP 0 rfl rfl 11 (by decide) (k_w hts 2 rfl) (fun _ h9 => h9) rfl dX5_about_98 ?_
        refine lv_iload_n hx hb dX5_about_101 rfl (lv_at hl 2 rfl) ?_
        refine va_iald (f := sM 9) hx hb hK hP 9 0 rfl rfl (by first | assumption | exact k_ns hNs (by assumption) | exact k_nm hNm (by assumption)) dX5_about_102 ?_
        have ef : f_X5_about sM i1 i2 = (sM 9) i1.toNatClampNeg := by
          rw [f_X5_about, if_pos c_1, if_neg c_2, if_neg c_13, if_neg c_14, if_neg c_15, if_pos c_16]
        exact k_reti hx hb hr hK hP hD hS hlocks dX5_about_103 (by rw [ef])
      by_cases c_17 : i2 = 4
      ·
        refine lv_tableIn (off := 71) (tgt := 104) hx hb dX5_about_33 (by rw [c_17]; decide) (by rw [c_17]; decide) (by rw [c_17]; rfl) (by decide) ?_
        refine lv_iload_n hx hb dX5_about_104 rfl (lv_at hl 0 rfl) ?_
        refine lv_if_eq (tgt := 117) hx hb dX5_about_105 (by decide) (fun c_18 => ?_) (fun c_18 => ?_)
        · exact absurd c_18 (by decide)
        refine lv_aload_n hx hb dX5_about_108 rfl (lv_at hl 1 rfl) ?_
        refine va_get (D := k.1) (ci := 5) (v := .ref (am 10)) (C := RX5) (T := TX5) (N := 28) hx hb hts in_X5_about_X5 hown hK hP 0 rfl rfl 12 (by decide) (k_w hts 6 rfl) (fun _ h9 => h9) rfl dX5_about_109 ?_
        refine lv_iload_n hx hb dX5_about_112 rfl (lv_at hl 2 rfl) ?_
        refine va_iald (f := sM 10) hx hb hK hP 10 0 rfl rfl (by first | assumption | exact k_ns hNs (by assumption) | exact k_nm hNm (by assumption)) dX5_about_113 ?_
        refine lv_goto (tgt := 119) hx hb dX5_about_114 (by decide) ?_
        have ef : f_X5_about sM i1 i2 = (sM 10) i1.toNatClampNeg := by
          rw [f_X5_about, if_pos c_1, if_neg c_2, if_neg c_13, if_neg c_14, if_neg c_15, if_neg c_16, if_pos c_17]
        exact k_reti hx hb hr hK hP hD hS hlocks dX5_about_119 (by rw [ef])
      by_cases c_19 : i2 = 5
      ·
        refine lv_tableIn (off := 87) (tgt := 120) hx hb dX5_about_33 (by rw [c_19]; decide) (by rw [c_19]; decide) (by rw [c_19]; rfl) (by decide) ?_
        refine lv_iload_n hx hb dX5_about_120 rfl (lv_at hl 0 rfl) ?_
        refine lv_if_eq (tgt := 133) hx hb dX5_about_121 (by decide) (fun c_20 => ?_) (fun c_20 => ?_)
        · exact absurd c_20 (by decide)
        refine lv_aload_n hx hb dX5_about_124 rfl (lv_at hl 1 rfl) ?_
        refine va_get (D := k.1) (ci := 5) (v := .ref (am 11)) (C := RX5) (T := TX5) (N := 28) hx hb hts in_X5_about_X5 hown hK hP 0 rfl rfl 13 (by decide) (k_w hts 7 rfl) (fun _ h9 => h9) rfl dX5_about_125 ?_
        refine lv_iload_n hx hb dX5_about_128 rfl (lv_at hl 2 rfl) ?_
        refine va_iald (f := sM 11) hx hb hK hP 11 0 rfl rfl (by first | assumption | exact k_ns hNs (by assumption) | exact k_nm hNm (by assumption)) dX5_about_129 ?_
        refine lv_goto (tgt := 135) hx hb dX5_about_130 (by decide) ?_
        have ef : f_X5_about sM i1 i2 = (sM 11) i1.toNatClampNeg := by
          rw [f_X5_about, if_pos c_1, if_neg c_2, if_neg c_13, if_neg c_14, if_neg c_15, if_neg c_16, if_neg c_17, if_pos c_19]
        exact k_reti hx hb hr hK hP hD hS hlocks dX5_about_135 (by rw [ef])
      by_cases c_21 : i2 = 6
      ·
        refine lv_tableIn (off := 103) (tgt := 136) hx hb dX5_about_33 (by rw [c_21]; decide) (by rw [c_21]; decide) (by rw [c_21]; rfl) (by decide) ?_
        refine lv_iload_n hx hb dX5_about_136 rfl (lv_at hl 0 rfl) ?_
        refine lv_if_eq (tgt := 158) hx hb dX5_about_137 (by decide) (fun c_22 => ?_) (fun c_22 => ?_)
        · exact absurd c_22 (by decide)
        refine lv_aload_n hx hb dX5_about_140 rfl (lv_at hl 1 rfl) ?_
        refine va_get (D := k.1) (ci := 5) (v := .int (sM 0 6)) (C := RX5) (T := TX5) (N := 28) hx hb hts in_X5_about_X5 hown hK hP 0 rfl rfl 19 (by decide) (k_w hts 8 rfl) (fun _ h9 => h9) rfl dX5_about_141 ?_
        refine lv_bipush (v := (-9)) hx hb dX5_about_144 (by decide) ?_
        refine lv_icmp_eq (tgt := 158) hx hb dX5_about_146 (by decide) (fun c_23 => ?_) (fun c_23 => ?_)
        ·
          refine lv_bipush (v := (-9)) hx hb dX5_about_158 (by decide) ?_
          have ef : f_X5_about sM i1 i2 = -9 := by
            rw [f_X5_about, if_pos c_1, if_neg c_2, if_neg c_13, if_neg c_14, if_neg c_15, if_neg c_16, if_neg c_17, if_neg c_19, if_pos c_21, if_pos c_23]
          exact k_reti hx hb hr hK hP hD hS hlocks dX5_about_160 (by rw [ef])
        ·
          refine lv_aload_n hx hb dX5_about_149 rfl (lv_at hl 1 rfl) ?_
          refine va_get (D := k.1) (ci := 5) (v := .ref (am 14)) (C := RX5) (T := TX5) (N := 28) hx hb hts in_X5_about_X5 hown hK hP 0 rfl rfl 20 (by decide) (k_w hts 9 rfl) (fun _ h9 => h9) rfl dX5_about_150 ?_
          refine lv_iload_n hx hb dX5_about_153 rfl (lv_at hl 2 rfl) ?_
          refine va_iald (f := sM 14) hx hb hK hP 14 0 rfl rfl (by first | assumption | exact k_ns hNs (by assumption) | exact k_nm hNm (by assumption)) dX5_about_154 ?_
          refine lv_goto (tgt := 160) hx hb dX5_about_155 (by decide) ?_
          have ef : f_X5_about sM i1 i2 = (sM 14) i1.toNatClampNeg := by
            rw [f_X5_about, if_pos c_1, if_neg c_2, if_neg c_13, if_neg c_14, if_neg c_15, if_neg c_16, if_neg c_17, if_neg c_19, if_pos c_21, if_neg c_23]
          exact k_reti hx hb hr hK hP hD hS hlocks dX5_about_160 (by rw [ef])
      refine lv_tableOut (tgt := 161) hx hb dX5_about_33 (by have q0 := lv_neT c_13 (a := 0) (by decide); have q1 := lv_neT c_14 (a := 1) (by decide); have q2 := lv_neT c_15 (a := 2) (by decide); have q3 := lv_neT c_16 (a := 3) (by decide); have q4 := lv_neT c_17 (a := 4) (by decide); have q5 := lv_neT c_19 (a := 5) (by decide); have q6 := lv_neT c_21 (a := 6) (by decide); omega) (by decide) ?_
      refine lv_bipush (v := (-2)) hx hb dX5_about_161 (by decide) ?_
      have ef : f_X5_about sM i1 i2 = -2 := by
        rw [f_X5_about, if_pos c_1, if_neg c_2, if_neg c_13, if_neg c_14, if_neg c_15, if_neg c_16, if_neg c_17, if_neg c_19, if_neg c_21]
      exact k_reti hx hb hr hK hP hD hS hlocks dX5_about_163 (by rw [ef])
  ·
    refine lv_iconst (v := (-1)) hx hb dX5_about_13 (by decide) ?_
    have ef : f_X5_about sM i1 i2 = -1 := by
      rw [f_X5_about, if_neg c_1]
    exact k_reti hx hb hr hK hP hD hS hlocks dX5_about_14 (by rw [ef])
theorem in_X5_house_X5 : ∀ w ∈ wsX50, w ∈ wsX5_house := fun _ h => List.mem_cons_of_mem _ (List.mem_append_right _ h)
def g_X5_house_lp (sM : Nat → Nat → Int32) (i1 : Int32) (i2 : Int32) : Nat → Nat → Int32 → Int32
  | 0, j, a1 => a1
  | r + 1, j, a1 => if ((sM 8) ((10 * i1) + (nI j)).toNatClampNeg) = 0 then g_X5_house_lp sM i1 i2 r (j + 1) (a1 + 0)
    else g_X5_house_lp sM i1 i2 r (j + 1) (a1 + 1)
set_option maxHeartbeats 4000000 in
set_option maxRecDepth 100000 in
theorem lp_X5_house_lp {p : Program} {l : Launch} {e : Env} {s : State} {m : MethodId} {below : List Frame} {meth : Method} {c : Code} {A : Nat → Prop} {Q : State → Prop} {av : Array Value} (k : K_X) (am : Nat → Nat) (sM : Nat → Nat → Int32) (i1 : Int32) (i2 : Int32) (C0 : k_Cx p s m meth c k cX5_house (some .int) wsX5_house RX5 5 av A) (h1 : vp_in i1 10) : ∀ (r j : Nat) (a1 : Int32) (H : Heap) (locs : List Loc) (ls : Array Slot), j + r = 10 → va_P k.1 vwCl (w_M k am sM) H → va_D A (w_M k am sM) → va_S A s.heap H locs → lv_has ls 5 [(0, .ref (am 0)), (1, .int i1), (2, .int i2), (3, .int a1), (4, .int (nI j))] → (∀ (H : Heap) (locs : List Loc) (ls : Array Slot), va_P k.1 vwCl (w_M k am sM) H → va_D A (w_M k am sM) → va_S A s.heap H locs → lv_has ls 5 [(0, .ref (am 0)), (1, .int i1), (2, .int i2), (3, .int (g_X5_house_lp sM i1 i2 r j a1))] → W p l e (k_rm 2 46) s m av below meth c H locs 0 0 Q (F0 m 56 ls [])) → W p l e (k_rm 2 46) s m av below meth c H locs 0 0 Q (F0 m 20 ls []) := by
  obtain ⟨hx, hb, hr, hts, hown, hlocks, hml, hA, hK⟩ := id C0
  intro r
  induction r with
  | zero =>
    intro j a1 H locs ls hj hP hD hS hl hQ
    refine lv_iload hx hb dX5_house_20 (lv_at hl 4 rfl) ?_
    refine lv_bipush (v := 10) hx hb dX5_house_22 (by decide) ?_
    refine lv_icmp_ge (tgt := 56) hx hb dX5_house_24 (by decide) (fun c_1 => ?_) (fun c_1 => ?_)
    rotate_left
    · exact absurd (k_gec (c := 10) (by decide) (by omega) (by omega)) c_1
    have eg : g_X5_house_lp sM i1 i2 0 j a1 = a1 := by
      rw [g_X5_house_lp]
    rw [eg] at hQ
    exact hQ _ _ _ hP hD hS (lv_sub hl [0, 1, 2, 3] rfl)
  | succ r ih =>
    intro j a1 H locs ls hj hP hD hS hl hQ
    refine lv_iload hx hb dX5_house_20 (lv_at hl 4 rfl) ?_
    refine lv_bipush (v := 10) hx hb dX5_house_22 (by decide) ?_
    refine lv_icmp_ge (tgt := 56) hx hb dX5_house_24 (by decide) (fun c_1 => ?_) (fun c_1 => ?_)
    · exact absurd c_1 (k_ngec (c := 10) (by decide) (by omega) (by omega))
    refine lv_iload_n hx hb dX5_house_27 rfl (lv_at hl 3 rfl) ?_
    refine lv_aload_n hx hb dX5_house_28 rfl (lv_at hl 0 rfl) ?_
    refine va_get (D := k.1) (ci := 5) (v := .ref (am 8)) (C := RX5) (T := TX5) (N := 28) hx hb hts in_X5_house_X5 hown hK hP 0 rfl rfl 10 (by decide) (k_w hts 2 rfl) (fun _ h9 => h9) rfl dX5_house_29 ?_
    refine lv_bipush (v := 10) hx hb dX5_house_32 (by decide) ?_
    refine lv_iload_n hx hb dX5_house_34 rfl (lv_at hl 1 rfl) ?_
    refine lv_imul hx hb dX5_house_35 ?_
    refine lv_iload hx hb dX5_house_36 (lv_at hl 4 rfl) ?_
    refine lv_iadd hx hb dX5_house_38 ?_
    refine va_zald (f := sM 8) hx hb hK hP 8 1 rfl rfl (k_in10 h1 (vp_in_nI (by omega) (by omega))) dX5_house_39 ?_
    refine lv_if_eq (tgt := 47) hx hb dX5_house_40 (by decide) (fun c_2 => ?_) (fun c_2 => ?_)
    ·
      refine lv_iconst (v := 0) hx hb dX5_house_47 (by decide) ?_
      refine lv_iadd hx hb dX5_house_48 ?_
      refine lv_istore_n (lv' := [(3, .int (a1 + 0)), (0, .ref (am 0)), (1, .int i1), (2, .int i2), (4, .int (nI j))]) hx hb dX5_house_49 rfl hl (by decide) rfl (fun ls hl => ?_)
      refine lv_iinc (v := nI (j + 1)) (lv' := [(4, .int (nI (j + 1))), (3, .int (a1 + 0)), (0, .ref (am 0)), (1, .int i1), (2, .int i2)]) hx hb dX5_house_50 hl (k := 4) rfl (nI_1 j) (by decide) rfl (fun ls hl => ?_)
      refine lv_goto (tgt := 20) hx hb dX5_house_53 (by decide) ?_
      have eg : g_X5_house_lp sM i1 i2 (r + 1) j a1 = g_X5_house_lp sM i1 i2 r (j + 1) (a1 + 0) := by
        rw [g_X5_house_lp, if_pos c_2]
      rw [eg] at hQ
      exact ih (j + 1) (a1 + 0) _ _ _ (by omega) hP hD hS (lv_sub hl [2, 3, 4, 1, 0] rfl) hQ
    ·
      refine lv_iconst (v := 1) hx hb dX5_house_43 (by decide) ?_
      refine lv_goto (tgt := 48) hx hb dX5_house_44 (by decide) ?_
      refine lv_iadd hx hb dX5_house_48 ?_
      refine lv_istore_n (lv' := [(3, .int (a1 + 1)), (0, .ref (am 0)), (1, .int i1), (2, .int i2), (4, .int (nI j))]) hx hb dX5_house_49 rfl hl (by decide) rfl (fun ls hl => ?_)
      refine lv_iinc (v := nI (j + 1)) (lv' := [(4, .int (nI (j + 1))), (3, .int (a1 + 1)), (0, .ref (am 0)), (1, .int i1), (2, .int i2)]) hx hb dX5_house_50 hl (k := 4) rfl (nI_1 j) (by decide) rfl (fun ls hl => ?_)
      refine lv_goto (tgt := 20) hx hb dX5_house_53 (by decide) ?_
      have eg : g_X5_house_lp sM i1 i2 (r + 1) j a1 = g_X5_house_lp sM i1 i2 r (j + 1) (a1 + 1) := by
        rw [g_X5_house_lp, if_neg c_2]
      rw [eg] at hQ
      exact ih (j + 1) (a1 + 1) _ _ _ (by omega) hP hD hS (lv_sub hl [2, 3, 4, 1, 0] rfl) hQ
def f_X5_house (sM : Nat → Nat → Int32) (i1 : Int32) (i2 : Int32) : Int32 :=
  if (f_X5_noMaster sM i1) = 0 then (if i2 = 0 then (sM 4) i1.toNatClampNeg
    else if i2 = 1 then (sM 5) i1.toNatClampNeg
    else if i2 = 2 then (sM 12) i1.toNatClampNeg
    else if i2 = 3 then g_X5_house_lp sM i1 i2 10 0 0
    else -2)
  else -1
set_option maxHeartbeats 4000000 in
set_option maxRecDepth 100000 in
theorem c_X5_house (l : Launch) (k : K_X) (am : Nat → Nat) (sM : Nat → Nat → Int32) (i1 : Int32) (i2 : Int32) (hT : sM 0 0 = 0) (hNm : k_n (sM 0 2) 10) : k_C l yX5_house wsX5_house (k_rm 2 46) k [.ref (am 0), .int i1, .int i2] (w_M k am sM) (k_qI k (f_X5_house sM i1 i2) (w_M k am sM)) := by
  refine k_mk (cc := cX5_house) (maxL := 5) (ret := (some .int)) (by decide) rfl (Nat.le_of_ble_eq_true rfl) ?_
  intro p e s m below meth c A ls C0 hP hD hS hl
  obtain ⟨hx, hb, hr, hts, hown, hlocks, hml, hA, hK⟩ := id C0
  have hown : s.vm.findClass RX5 = some m.cls := hown
  have hl : lv_has ls 5 [(0, .ref (am 0)), (1, .int i1), (2, .int i2)] := hl
  refine lv_aload_n hx hb dX5_house_0 rfl (lv_at hl 0 rfl) ?_
  refine lv_iconst (v := 0) hx hb dX5_house_1 (by decide) ?_
  refine va_put (D := k.1) (ci := 5) (v := .int 0) (ty := .int) (C := RX5) (T := TX5) (N := 28) hx hb hts in_X5_house_X5 tyX5 tyX5_ok nmX5 hown hK hP hD hS 0 rfl rfl 0 (by decide) (k_w hts 1 rfl) (fun _ h9 => h9) rfl (by decide +kernel) rfl rfl (Nat.le_of_ble_eq_true rfl) dX5_house_2 (fun H locs hP hD hS => ?_)
  have hP := k_cP (w_M_s0 k am sM 0) hP
  have hD := k_cD (w_M_s0 k am sM 0) hD
  rw [k_thr hT] at hP hD
  refine lv_aload_n hx hb dX5_house_5 rfl (lv_at hl 0 rfl) ?_
  refine lv_iload_n hx hb dX5_house_6 rfl (lv_at hl 1 rfl) ?_
  refine k_Vi (wr := ([] : va_W)) (ws' := w_M k am sM) (Rv := (f_X5_noMaster sM i1)) (rest := []) ⟨hx, hb, hml, hown, hts⟩ hK hA hP hD hS (c_X5_noMaster l k am sM i1) (cwV 1 hts gX5_house_X5_noMaster rfl rfl rfl (by decide +kernel) ⟨Nat.le_of_ble_eq_true rfl, Nat.le_of_ble_eq_true rfl⟩) (va_recv hK hP (ci := 5) (q0 := 0) rfl rfl) rfl hl.1 rfl (Nat.le_of_ble_eq_true rfl) dX5_house_7 (Nat.zero_le _) (Nat.zero_le _) [0, 1, 2, 3, 4, 5, 6, 7, 8, 9, 10, 11, 12, 13, 14, 15, 16, 17, 18, 19, 20, 21] [] [0, 1, 2, 3, 4, 5, 6, 7, 8, 9, 10, 11, 12, 13, 14, 15, 16, 17, 18, 19, 20, 21] rfl rfl rfl (by decide) rfl rfl rfl (fun H locs hP hD hS => ?_)
  refine lv_if_eq (tgt := 15) hx hb dX5_house_10 (by decide) (fun c_1 => ?_) (fun c_1 => ?_)
  ·
    refine lv_iconst (v := 0) hx hb dX5_house_15 (by decide) ?_
    refine lv_istore_n (lv' := [(3, .int 0), (0, .ref (am 0)), (1, .int i1), (2, .int i2)]) hx hb dX5_house_16 rfl hl (by decide) rfl (fun ls hl => ?_)
    refine lv_iconst (v := 0) hx hb dX5_house_17 (by decide) ?_
    refine lv_istore (lv' := [(4, .int 0), (3, .int 0), (0, .ref (am 0)), (1, .int i1), (2, .int i2)]) hx hb dX5_house_18 hl (by decide) rfl (fun ls hl => ?_)
    have hl : lv_has ls 5 [(0, .ref (am 0)), (1, .int i1), (2, .int i2), (3, .int 0), (4, .int (nI 0))] := lv_sub hl [2, 3, 4, 1, 0] rfl
    refine lp_X5_house_lp k am sM i1 i2 C0 (by first | assumption | exact k_ns hNs (by assumption) | exact k_nm hNm (by assumption)) 10 0 0 _ _ _ (by omega) hP hD hS hl (fun H locs ls hP hD hS hl => ?_)
    refine lv_iload_n hx hb dX5_house_56 rfl (lv_at hl 2 rfl) ?_
    refine lv_if_ne (tgt := 69) hx hb dX5_house_57 (by decide) (fun c_2 => ?_) (fun c_2 => ?_)
    ·
      refine lv_iload_n hx hb dX5_house_69 rfl (lv_at hl 2 rfl) ?_
      refine lv_iconst (v := 1) hx hb dX5_house_70 (by decide) ?_
      refine lv_icmp_ne (tgt := 83) hx hb dX5_house_71 (by decide) (fun c_3 => ?_) (fun c_3 => ?_)
      ·
        refine lv_iload_n hx hb dX5_house_83 rfl (lv_at hl 2 rfl) ?_
        refine lv_iconst (v := 2) hx hb dX5_house_84 (by decide) ?_
        refine lv_icmp_ne (tgt := 97) hx hb dX5_house_85 (by decide) (fun c_4 => ?_) (fun c_4 => ?_)
        ·
          refine lv_iload_n hx hb dX5_house_97 rfl (lv_at hl 2 rfl) ?_
          refine lv_iconst (v := 3) hx hb dX5_house_98 (by decide) ?_
          refine lv_icmp_ne (tgt := 106) hx hb dX5_house_99 (by decide) (fun c_5 => ?_) (fun c_5 => ?_)
          ·
            refine lv_bipush (v := (-2)) hx hb dX5_house_106 (by decide) ?_
            have ef : f_X5_house sM i1 i2 = -2 := by
              rw [f_X5_house, if_pos c_1, if_neg c_2, if_neg c_3, if_neg c_4, if_neg c_5]
            exact k_reti hx hb hr hK hP hD hS hlocks dX5_house_108 (by rw [ef])
          ·
            refine lv_iload_n hx hb dX5_house_102 rfl (lv_at hl 3 rfl) ?_
            refine lv_goto (tgt := 108) hx hb dX5_house_103 (by decide) ?_
            have ef : f_X5_house sM i1 i2 = g_X5_house_lp sM i1 i2 10 0 0 := by
              rw [f_X5_house, if_pos c_1, if_neg c_2, if_neg c_3, if_neg c_4, if_pos c_5]
            exact k_reti hx hb hr hK hP hD hS hlocks dX5_house_108 (by rw [ef])
        ·
          refine lv_aload_n hx hb dX5_house_88 rfl (lv_at hl 0 rfl) ?_
          refine va_get (D := k.1) (ci := 5) (v := .ref (am 12)) (C := RX5) (T := TX5) (N := 28) hx hb hts in_X5_house_X5 hown hK hP 0 rfl rfl 14 (by decide) (k_w hts 5 rfl) (fun _ h9 => h9) rfl dX5_house_89 ?_
          refine lv_iload_n hx hb dX5_house_92 rfl (lv_at hl 1 rfl) ?_
          refine va_iald (f := sM 12) hx hb hK hP 12 0 rfl rfl (by first | assumption | exact k_ns hNs (by assumption) | exact k_nm hNm (by assumption)) dX5_house_93 ?_
          refine lv_goto (tgt := 108) hx hb dX5_house_94 (by decide) ?_
          have ef : f_X5_house sM i1 i2 = (sM 12) i1.toNatClampNeg := by
            rw [f_X5_house, if_pos c_1, if_neg c_2, if_neg c_3, if_pos c_4]
          exact k_reti hx hb hr hK hP hD hS hlocks dX5_house_108 (by rw [ef])
      ·
        refine lv_aload_n hx hb dX5_house_74 rfl (lv_at hl 0 rfl) ?_
        refine va_get (D := k.1) (ci := 5) (v := .ref (am 5)) (C := RX5) (T := TX5) (N := 28) hx hb hts in_X5_house_X5 hown hK hP 0 rfl rfl 7 (by decide) (k_w hts 4 rfl) (fun _ h9 => h9) rfl dX5_house_75 ?_
        refine lv_iload_n hx hb dX5_house_78 rfl (lv_at hl 1 rfl) ?_
        refine va_iald (f := sM 5) hx hb hK hP 5 0 rfl rfl (by first | assumption | exact k_ns hNs (by assumption) | exact k_nm hNm (by assumption)) dX5_house_79 ?_
        refine lv_goto (tgt := 108) hx hb dX5_house_80 (by decide) ?_
        have ef : f_X5_house sM i1 i2 = (sM 5) i1.toNatClampNeg := by
          rw [f_X5_house, if_pos c_1, if_neg c_2, if_pos c_3]
        exact k_reti hx hb hr hK hP hD hS hlocks dX5_house_108 (by rw [ef])
    ·
      refine lv_aload_n hx hb dX5_house_60 rfl (lv_at hl 0 rfl) ?_
      refine va_get (D := k.1) (ci := 5) (v := .ref (am 4)) (C := RX5) (T := TX5) (N := 28) hx hb hts in_X5_house_X5 hown hK hP 0 rfl rfl 6 (by decide) (k_w hts 3 rfl) (fun _ h9 => h9) rfl dX5_house_61 ?_
      refine lv_iload_n hx hb dX5_house_64 rfl (lv_at hl 1 rfl) ?_
      refine va_iald (f := sM 4) hx hb hK hP 4 0 rfl rfl (by first | assumption | exact k_ns hNs (by assumption) | exact k_nm hNm (by assumption)) dX5_house_65 ?_
      refine lv_goto (tgt := 108) hx hb dX5_house_66 (by decide) ?_
      have ef : f_X5_house sM i1 i2 = (sM 4) i1.toNatClampNeg := by
        rw [f_X5_house, if_pos c_1, if_pos c_2]
      exact k_reti hx hb hr hK hP hD hS hlocks dX5_house_108 (by rw [ef])
  ·
    refine lv_iconst (v := (-1)) hx hb dX5_house_13 (by decide) ?_
    have ef : f_X5_house sM i1 i2 = -1 := by
      rw [f_X5_house, if_neg c_1]
    exact k_reti hx hb hr hK hP hD hS hlocks dX5_house_14 (by rw [ef])
theorem in_X5_holds_X5 : ∀ w ∈ wsX50, w ∈ wsX5_holds := fun _ h => List.mem_cons_of_mem _ (List.mem_append_right _ h)
def f_X5_holds (sM : Nat → Nat → Int32) (i1 : Int32) (i2 : Int32) : Int32 :=
  if (f_X5_noMaster sM i1) = 0 then (if (f_X5_noServant sM i2) = 0 then f_X5_held sM i1 i2
    else -1)
  else -1
set_option maxHeartbeats 4000000 in
set_option maxRecDepth 100000 in
theorem c_X5_holds (l : Launch) (k : K_X) (am : Nat → Nat) (sM : Nat → Nat → Int32) (i1 : Int32) (i2 : Int32) (hT : sM 0 0 = 0) (hNs : k_n (sM 0 1) 10) (hNm : k_n (sM 0 2) 10) : k_C l yX5_holds wsX5_holds (k_rm 2 46) k [.ref (am 0), .int i1, .int i2] (w_M k am sM) (k_qI k (f_X5_holds sM i1 i2) (w_M k am sM)) := by
  refine k_mk (cc := cX5_holds) (maxL := 3) (ret := (some .int)) (by decide) rfl (Nat.le_of_ble_eq_true rfl) ?_
  intro p e s m below meth c A ls C0 hP hD hS hl
  obtain ⟨hx, hb, hr, hts, hown, hlocks, hml, hA, hK⟩ := id C0
  have hown : s.vm.findClass RX5 = some m.cls := hown
  have hl : lv_has ls 3 [(0, .ref (am 0)), (1, .int i1), (2, .int i2)] := hl
  refine lv_aload_n hx hb dX5_holds_0 rfl (lv_at hl 0 rfl) ?_
  refine lv_iconst (v := 0) hx hb dX5_holds_1 (by decide) ?_
  refine va_put (D := k.1) (ci := 5) (v := .int 0) (ty := .int) (C := RX5) (T := TX5) (N := 28) hx hb hts in_X5_holds_X5 tyX5 tyX5_ok nmX5 hown hK hP hD hS 0 rfl rfl 0 (by decide) (k_w hts 1 rfl) (fun _ h9 => h9) rfl (by decide +kernel) rfl rfl (Nat.le_of_ble_eq_true rfl) dX5_holds_2 (fun H locs hP hD hS => ?_)
  have hP := k_cP (w_M_s0 k am sM 0) hP
  have hD := k_cD (w_M_s0 k am sM 0) hD
  rw [k_thr hT] at hP hD
  refine lv_aload_n hx hb dX5_holds_5 rfl (lv_at hl 0 rfl) ?_
  refine lv_iload_n hx hb dX5_holds_6 rfl (lv_at hl 1 rfl) ?_
  refine k_Vi (wr := ([] : va_W)) (ws' := w_M k am sM) (Rv := (f_X5_noMaster sM i1)) (rest := []) ⟨hx, hb, hml, hown, hts⟩ hK hA hP hD hS (c_X5_noMaster l k am sM i1) (cwV 1 hts gX5_holds_X5_noMaster rfl rfl rfl (by decide +kernel) ⟨Nat.le_of_ble_eq_true rfl, Nat.le_of_ble_eq_true rfl⟩) (va_recv hK hP (ci := 5) (q0 := 0) rfl rfl) rfl hl.1 rfl (Nat.le_of_ble_eq_true rfl) dX5_holds_7 (Nat.zero_le _) (Nat.zero_le _) [0, 1, 2, 3, 4, 5, 6, 7, 8, 9, 10, 11, 12, 13, 14, 15, 16, 17, 18, 19, 20, 21] [] [0, 1, 2, 3, 4, 5, 6, 7, 8, 9, 10, 11, 12, 13, 14, 15, 16, 17, 18, 19, 20, 21] rfl rfl rfl (by decide) rfl rfl rfl (fun H locs hP hD hS => ?_)
  refine lv_if_ne (tgt := 21) hx hb dX5_holds_10 (by decide) (fun c_1 => ?_) (fun c_1 => ?_)
  ·
    refine lv_iconst (v := (-1)) hx hb dX5_holds_21 (by decide) ?_
    refine lv_goto (tgt := 31) hx hb dX5_holds_22 (by decide) ?_
    have ef : f_X5_holds sM i1 i2 = -1 := by
      rw [f_X5_holds, if_neg c_1]
    exact k_reti hx hb hr hK hP hD hS hlocks dX5_holds_31 (by rw [ef])
  ·
    refine lv_aload_n hx hb dX5_holds_13 rfl (lv_at hl 0 rfl) ?_
    refine lv_iload_n hx hb dX5_holds_14 rfl (lv_at hl 2 rfl) ?_
    refine k_Vi (wr := ([] : va_W)) (ws' := w_M k am sM) (Rv := (f_X5_noServant sM i2)) (rest := []) ⟨hx, hb, hml, hown, hts⟩ hK hA hP hD hS (c_X5_noServant l k am sM i2) (cwV 1 hts gX5_holds_X5_noServant rfl rfl rfl (by decide +kernel) ⟨Nat.le_of_ble_eq_true rfl, Nat.le_of_ble_eq_true rfl⟩) (va_recv hK hP (ci := 5) (q0 := 0) rfl rfl) rfl hl.1 rfl (Nat.le_of_ble_eq_true rfl) dX5_holds_15 (Nat.zero_le _) (Nat.zero_le _) [0, 1, 2, 3, 4, 5, 6, 7, 8, 9, 10, 11, 12, 13, 14, 15, 16, 17, 18, 19, 20, 21] [] [0, 1, 2, 3, 4, 5, 6, 7, 8, 9, 10, 11, 12, 13, 14, 15, 16, 17, 18, 19, 20, 21] rfl rfl rfl (by decide) rfl rfl rfl (fun H locs hP hD hS => ?_)
    refine lv_if_eq (tgt := 25) hx hb dX5_holds_18 (by decide) (fun c_2 => ?_) (fun c_2 => ?_)
    ·
      refine lv_aload_n hx hb dX5_holds_25 rfl (lv_at hl 0 rfl) ?_
      refine lv_iload_n hx hb dX5_holds_26 rfl (lv_at hl 1 rfl) ?_
      refine lv_iload_n hx hb dX5_holds_27 rfl (lv_at hl 2 rfl) ?_
      refine k_Vi (wr := ([] : va_W)) (ws' := w_M k am sM) (Rv := (f_X5_held sM i1 i2)) (rest := []) ⟨hx, hb, hml, hown, hts⟩ hK hA hP hD hS (c_X5_held l k am sM i1 i2 (by first | assumption | exact k_ns hNs (by assumption) | exact k_nm hNm (by assumption)) (by first | assumption | exact k_ns hNs (by assumption) | exact k_nm hNm (by assumption))) (cwV 2 hts gX5_holds_X5_held rfl rfl rfl (by decide +kernel) ⟨Nat.le_of_ble_eq_true rfl, Nat.le_of_ble_eq_true rfl⟩) (va_recv hK hP (ci := 5) (q0 := 0) rfl rfl) rfl hl.1 rfl (Nat.le_of_ble_eq_true rfl) dX5_holds_28 (Nat.zero_le _) (Nat.zero_le _) [0, 1, 2, 3, 4, 5, 6, 7, 8, 9, 10, 11, 12, 13, 14, 15, 16, 17, 18, 19, 20, 21] [] [0, 1, 2, 3, 4, 5, 6, 7, 8, 9, 10, 11, 12, 13, 14, 15, 16, 17, 18, 19, 20, 21] rfl rfl rfl (by decide) rfl rfl rfl (fun H locs hP hD hS => ?_)
      have ef : f_X5_holds sM i1 i2 = f_X5_held sM i1 i2 := by
        rw [f_X5_holds, if_pos c_1, if_pos c_2]
      exact k_reti hx hb hr hK hP hD hS hlocks dX5_holds_31 (by rw [ef])
    ·
      refine lv_iconst (v := (-1)) hx hb dX5_holds_21 (by decide) ?_
      refine lv_goto (tgt := 31) hx hb dX5_holds_22 (by decide) ?_
      have ef : f_X5_holds sM i1 i2 = -1 := by
        rw [f_X5_holds, if_pos c_1, if_neg c_2]
      exact k_reti hx hb hr hK hP hD hS hlocks dX5_holds_31 (by rw [ef])
theorem in_X5_offer_X5 : ∀ w ∈ wsX50, w ∈ wsX5_offer := fun _ h => List.mem_cons_of_mem _ (List.mem_append_right _ h)
def f_X5_offer (sM : Nat → Nat → Int32) (i1 : Int32) (i2 : Int32) : Int32 :=
  if (f_X5_noMaster sM i1) = 0 then (if (f_X5_noServant sM i2) = 0 then f_X5_offerOf sM i1 i2
    else -1)
  else -1
set_option maxHeartbeats 4000000 in
set_option maxRecDepth 100000 in
theorem c_X5_offer (l : Launch) (k : K_X) (am : Nat → Nat) (sM : Nat → Nat → Int32) (i1 : Int32) (i2 : Int32) (hT : sM 0 0 = 0) (hNs : k_n (sM 0 1) 10) (hNm : k_n (sM 0 2) 10) : k_C l yX5_offer wsX5_offer (k_rm 2 46) k [.ref (am 0), .int i1, .int i2] (w_M k am sM) (k_qI k (f_X5_offer sM i1 i2) (w_M k am sM)) := by
  refine k_mk (cc := cX5_offer) (maxL := 3) (ret := (some .int)) (by decide) rfl (Nat.le_of_ble_eq_true rfl) ?_
  intro p e s m below meth c A ls C0 hP hD hS hl
  obtain ⟨hx, hb, hr, hts, hown, hlocks, hml, hA, hK⟩ := id C0
  have hown : s.vm.findClass RX5 = some m.cls := hown
  have hl : lv_has ls 3 [(0, .ref (am 0)), (1, .int i1), (2, .int i2)] := hl
  refine lv_aload_n hx hb dX5_offer_0 rfl (lv_at hl 0 rfl) ?_
  refine lv_iconst (v := 0) hx hb dX5_offer_1 (by decide) ?_
  refine va_put (D := k.1) (ci := 5) (v := .int 0) (ty := .int) (C := RX5) (T := TX5) (N := 28) hx hb hts in_X5_offer_X5 tyX5 tyX5_ok nmX5 hown hK hP hD hS 0 rfl rfl 0 (by decide) (k_w hts 1 rfl) (fun _ h9 => h9) rfl (by decide +kernel) rfl rfl (Nat.le_of_ble_eq_true rfl) dX5_offer_2 (fun H locs hP hD hS => ?_)
  have hP := k_cP (w_M_s0 k am sM 0) hP
  have hD := k_cD (w_M_s0 k am sM 0) hD
  rw [k_thr hT] at hP hD
  refine lv_aload_n hx hb dX5_offer_5 rfl (lv_at hl 0 rfl) ?_
  refine lv_iload_n hx hb dX5_offer_6 rfl (lv_at hl 1 rfl) ?_
  refine k_Vi (wr := ([] : va_W)) (ws' := w_M k am sM) (Rv := (f_X5_noMaster sM i1)) (rest := []) ⟨hx, hb, hml, hown, hts⟩ hK hA hP hD hS (c_X5_noMaster l k am sM i1) (cwV 1 hts gX5_offer_X5_noMaster rfl rfl rfl (by decide +kernel) ⟨Nat.le_of_ble_eq_true rfl, Nat.le_of_ble_eq_true rfl⟩) (va_recv hK hP (ci := 5) (q0 := 0) rfl rfl) rfl hl.1 rfl (Nat.le_of_ble_eq_true rfl) dX5_offer_7 (Nat.zero_le _) (Nat.zero_le _) [0, 1, 2, 3, 4, 5, 6, 7, 8, 9, 10, 11, 12, 13, 14, 15, 16, 17, 18, 19, 20, 21] [] [0, 1, 2, 3, 4, 5, 6, 7, 8, 9, 10, 11, 12, 13, 14, 15, 16, 17, 18, 19, 20, 21] rfl rfl rfl (by decide) rfl rfl rfl (fun H locs hP hD hS => ?_)
  refine lv_if_ne (tgt := 21) hx hb dX5_offer_10 (by decide) (fun c_1 => ?_) (fun c_1 => ?_)
  ·
    refine lv_iconst (v := (-1)) hx hb dX5_offer_21 (by decide) ?_
    refine lv_goto (tgt := 31) hx hb dX5_offer_22 (by decide) ?_
    have ef : f_X5_offer sM i1 i2 = -1 := by
      rw [f_X5_offer, if_neg c_1]
    exact k_reti hx hb hr hK hP hD hS hlocks dX5_offer_31 (by rw [ef])
  ·
    refine lv_aload_n hx hb dX5_offer_13 rfl (lv_at hl 0 rfl) ?_
    refine lv_iload_n hx hb dX5_offer_14 rfl (lv_at hl 2 rfl) ?_
    refine k_Vi (wr := ([] : va_W)) (ws' := w_M k am sM) (Rv := (f_X5_noServant sM i2)) (rest := []) ⟨hx, hb, hml, hown, hts⟩ hK hA hP hD hS (c_X5_noServant l k am sM i2) (cwV 1 hts gX5_offer_X5_noServant rfl rfl rfl (by decide +kernel) ⟨Nat.le_of_ble_eq_true rfl, Nat.le_of_ble_eq_true rfl⟩) (va_recv hK hP (ci := 5) (q0 := 0) rfl rfl) rfl hl.1 rfl (Nat.le_of_ble_eq_true rfl) dX5_offer_15 (Nat.zero_le _) (Nat.zero_le _) [0, 1, 2, 3, 4, 5, 6, 7, 8, 9, 10, 11, 12, 13, 14, 15, 16, 17, 18, 19, 20, 21] [] [0, 1, 2, 3, 4, 5, 6, 7, 8, 9, 10, 11, 12, 13, 14, 15, 16, 17, 18, 19, 20, 21] rfl rfl rfl (by decide) rfl rfl rfl (fun H locs hP hD hS => ?_)
    refine lv_if_eq (tgt := 25) hx hb dX5_offer_18 (by decide) (fun c_2 => ?_) (fun c_2 => ?_)
    ·
      refine lv_aload_n hx hb dX5_offer_25 rfl (lv_at hl 0 rfl) ?_
      refine lv_iload_n hx hb dX5_offer_26 rfl (lv_at hl 1 rfl) ?_
      refine lv_iload_n hx hb dX5_offer_27 rfl (lv_at hl 2 rfl) ?_
      refine k_Vi (wr := ([] : va_W)) (ws' := w_M k am sM) (Rv := (f_X5_offerOf sM i1 i2)) (rest := []) ⟨hx, hb, hml, hown, hts⟩ hK hA hP hD hS (c_X5_offerOf l k am sM i1 i2 (by first | assumption | exact k_ns hNs (by assumption) | exact k_nm hNm (by assumption)) (by first | assumption | exact k_ns hNs (by assumption) | exact k_nm hNm (by assumption))) (cwV 2 hts gX5_offer_X5_offerOf rfl rfl rfl (by decide +kernel) ⟨Nat.le_of_ble_eq_true rfl, Nat.le_of_ble_eq_true rfl⟩) (va_recv hK hP (ci := 5) (q0 := 0) rfl rfl) rfl hl.1 rfl (Nat.le_of_ble_eq_true rfl) dX5_offer_28 (Nat.zero_le _) (Nat.zero_le _) [0, 1, 2, 3, 4, 5, 6, 7, 8, 9, 10, 11, 12, 13, 14, 15, 16, 17, 18, 19, 20, 21] [] [0, 1, 2, 3, 4, 5, 6, 7, 8, 9, 10, 11, 12, 13, 14, 15, 16, 17, 18, 19, 20, 21] rfl rfl rfl (by decide) rfl rfl rfl (fun H locs hP hD hS => ?_)
      have ef : f_X5_offer sM i1 i2 = f_X5_offerOf sM i1 i2 := by
        rw [f_X5_offer, if_pos c_1, if_pos c_2]
      exact k_reti hx hb hr hK hP hD hS hlocks dX5_offer_31 (by rw [ef])
    ·
      refine lv_iconst (v := (-1)) hx hb dX5_offer_21 (by decide) ?_
      refine lv_goto (tgt := 31) hx hb dX5_offer_22 (by decide) ?_
      have ef : f_X5_offer sM i1 i2 = -1 := by
        rw [f_X5_offer, if_pos c_1, if_neg c_2]
      exact k_reti hx hb hr hK hP hD hS hlocks dX5_offer_31 (by rw [ef])
theorem in_X5_next_X5 : ∀ w ∈ wsX50, w ∈ wsX5_next := fun _ h => List.mem_cons_of_mem _ (List.mem_append_right _ h)
def f_X5_next (sM : Nat → Nat → Int32) (i1 : Int32) : Int32 :=
  if (f_X5_noMaster sM i1) = 0 then f_X5_nextOf sM i1
  else -1
set_option maxHeartbeats 4000000 in
set_option maxRecDepth 100000 in
theorem c_X5_next (l : Launch) (k : K_X) (am : Nat → Nat) (sM : Nat → Nat → Int32) (i1 : Int32) (hT : sM 0 0 = 0) (hNs : k_n (sM 0 1) 10) (hNm : k_n (sM 0 2) 10) : k_C l yX5_next wsX5_next (k_rm 3 72) k [.ref (am 0), .int i1] (w_M k am sM) (k_qI k (f_X5_next sM i1) (w_M k am sM)) := by
  refine k_mk (cc := cX5_next) (maxL := 2) (ret := (some .int)) (by decide) rfl (Nat.le_of_ble_eq_true rfl) ?_
  intro p e s m below meth c A ls C0 hP hD hS hl
  obtain ⟨hx, hb, hr, hts, hown, hlocks, hml, hA, hK⟩ := id C0
  have hown : s.vm.findClass RX5 = some m.cls := hown
  have hl : lv_has ls 2 [(0, .ref (am 0)), (1, .int i1)] := hl
  refine lv_aload_n hx hb dX5_next_0 rfl (lv_at hl 0 rfl) ?_
  refine lv_iconst (v := 0) hx hb dX5_next_1 (by decide) ?_
  refine va_put (D := k.1) (ci := 5) (v := .int 0) (ty := .int) (C := RX5) (T := TX5) (N := 28) hx hb hts in_X5_next_X5 tyX5 tyX5_ok nmX5 hown hK hP hD hS 0 rfl rfl 0 (by decide) (k_w hts 1 rfl) (fun _ h9 => h9) rfl (by decide +kernel) rfl rfl (Nat.le_of_ble_eq_true rfl) dX5_next_2 (fun H locs hP hD hS => ?_)
  have hP := k_cP (w_M_s0 k am sM 0) hP
  have hD := k_cD (w_M_s0 k am sM 0) hD
  rw [k_thr hT] at hP hD
  refine lv_aload_n hx hb dX5_next_5 rfl (lv_at hl 0 rfl) ?_
  refine lv_iload_n hx hb dX5_next_6 rfl (lv_at hl 1 rfl) ?_
  refine k_Vi (wr := ([] : va_W)) (ws' := w_M k am sM) (Rv := (f_X5_noMaster sM i1)) (rest := []) ⟨hx, hb, hml, hown, hts⟩ hK hA hP hD hS (c_X5_noMaster l k am sM i1) (cwV 1 hts gX5_next_X5_noMaster rfl rfl rfl (by decide +kernel) ⟨Nat.le_of_ble_eq_true rfl, Nat.le_of_ble_eq_true rfl⟩) (va_recv hK hP (ci := 5) (q0 := 0) rfl rfl) rfl hl.1 rfl (Nat.le_of_ble_eq_true rfl) dX5_next_7 (Nat.zero_le _) (Nat.zero_le _) [0, 1, 2, 3, 4, 5, 6, 7, 8, 9, 10, 11, 12, 13, 14, 15, 16, 17, 18, 19, 20, 21] [] [0, 1, 2, 3, 4, 5, 6, 7, 8, 9, 10, 11, 12, 13, 14, 15, 16, 17, 18, 19, 20, 21] rfl rfl rfl (by decide) rfl rfl rfl (fun H locs hP hD hS => ?_)
  refine lv_if_eq (tgt := 17) hx hb dX5_next_10 (by decide) (fun c_1 => ?_) (fun c_1 => ?_)
  ·
    refine lv_aload_n hx hb dX5_next_17 rfl (lv_at hl 0 rfl) ?_
    refine lv_iload_n hx hb dX5_next_18 rfl (lv_at hl 1 rfl) ?_
    refine lv_aload_n hx hb dX5_next_19 rfl (lv_at hl 0 rfl) ?_
    refine va_get (D := k.1) (ci := 5) (v := .ref (am 8)) (C := RX5) (T := TX5) (N := 28) hx hb hts in_X5_next_X5 hown hK hP 0 rfl rfl 10 (by decide) (k_w hts 2 rfl) (fun _ h9 => h9) rfl dX5_next_20 ?_
    refine k_Vi (wr := ([] : va_W)) (ws' := w_M k am sM) (Rv := (f_X5_nextOf sM i1)) (rest := []) ⟨hx, hb, hml, hown, hts⟩ hK hA hP hD hS (c_X5_nextOf l k am sM i1 (by first | assumption | exact k_ns hNs (by assumption) | exact k_nm hNm (by assumption)) (hNs)) (cwV 2 hts gX5_next_X5_nextOf rfl rfl rfl (by decide +kernel) ⟨Nat.le_of_ble_eq_true rfl, Nat.le_of_ble_eq_true rfl⟩) (va_recv hK hP (ci := 5) (q0 := 0) rfl rfl) rfl hl.1 rfl (Nat.le_of_ble_eq_true rfl) dX5_next_23 (Nat.zero_le _) (Nat.zero_le _) [0, 1, 2, 3, 4, 5, 6, 7, 8, 9, 10, 11, 12, 13, 14, 15, 16, 17, 18, 19, 20, 21] [] [0, 1, 2, 3, 4, 5, 6, 7, 8, 9, 10, 11, 12, 13, 14, 15, 16, 17, 18, 19, 20, 21] rfl rfl rfl (by decide) rfl rfl rfl (fun H locs hP hD hS => ?_)
    have ef : f_X5_next sM i1 = f_X5_nextOf sM i1 := by
      rw [f_X5_next, if_pos c_1]
    exact k_reti hx hb hr hK hP hD hS hlocks dX5_next_26 (by rw [ef])
  ·
    refine lv_iconst (v := (-1)) hx hb dX5_next_13 (by decide) ?_
    refine lv_goto (tgt := 26) hx hb dX5_next_14 (by decide) ?_
    have ef : f_X5_next sM i1 = -1 := by
      rw [f_X5_next, if_neg c_1]
    exact k_reti hx hb hr hK hP hD hS hlocks dX5_next_26 (by rw [ef])
theorem in_X5_bargains_X5 : ∀ w ∈ wsX50, w ∈ wsX5_bargains := fun _ h => List.mem_cons_of_mem _ (List.mem_append_right _ h)
def f_X5_bargains (sM : Nat → Nat → Int32) : Int32 :=
  sM 0 4
set_option maxHeartbeats 4000000 in
set_option maxRecDepth 100000 in
theorem c_X5_bargains (l : Launch) (k : K_X) (am : Nat → Nat) (sM : Nat → Nat → Int32) (hT : sM 0 0 = 0) : k_C l yX5_bargains wsX5_bargains (k_rm 0 0) k [.ref (am 0)] (w_M k am sM) (k_qI k (f_X5_bargains sM) (w_M k am sM)) := by
  refine k_mk (cc := cX5_bargains) (maxL := 1) (ret := (some .int)) (by decide) rfl (Nat.le_of_ble_eq_true rfl) ?_
  intro p e s m below meth c A ls C0 hP hD hS hl
  obtain ⟨hx, hb, hr, hts, hown, hlocks, hml, hA, hK⟩ := id C0
  have hown : s.vm.findClass RX5 = some m.cls := hown
  have hl : lv_has ls 1 [(0, .ref (am 0))] := hl
  refine lv_aload_n hx hb dX5_bargains_0 rfl (lv_at hl 0 rfl) ?_
  refine lv_iconst (v := 0) hx hb dX5_bargains_1 (by decide) ?_
  refine va_put (D := k.1) (ci := 5) (v := .int 0) (ty := .int) (C := RX5) (T := TX5) (N := 28) hx hb hts in_X5_bargains_X5 tyX5 tyX5_ok nmX5 hown hK hP hD hS 0 rfl rfl 0 (by decide) (k_w hts 1 rfl) (fun _ h9 => h9) rfl (by decide +kernel) rfl rfl (Nat.le_of_ble_eq_true rfl) dX5_bargains_2 (fun H locs hP hD hS => ?_)
  have hP := k_cP (w_M_s0 k am sM 0) hP
  have hD := k_cD (w_M_s0 k am sM 0) hD
  rw [k_thr hT] at hP hD
  refine lv_aload_n hx hb dX5_bargains_5 rfl (lv_at hl 0 rfl) ?_
  refine va_get (D := k.1) (ci := 5) (v := .int (sM 0 4)) (C := RX5) (T := TX5) (N := 28) hx hb hts in_X5_bargains_X5 hown hK hP 0 rfl rfl 16 (by decide) (k_w hts 2 rfl) (fun _ h9 => h9) rfl dX5_bargains_6 ?_
  have ef : f_X5_bargains sM = sM 0 4 := by
    rw [f_X5_bargains]
  exact k_reti hx hb hr hK hP hD hS hlocks dX5_bargains_9 (by rw [ef])
theorem k_mrd {M : Nat → Nat → Int32} {i c : Int32} (hc : k_n (M 0 4) 100) (h : ¬ (f_X5_in i.toInt64 0 (M 0 4 - 1).toInt64) = 0) (h2 : ¬ (f_X5_in c.toInt64 0 5) = 0) : vp_in (6 * i + c) 600 := by
  have hi := k_min10 hc (by omega) h
  obtain ⟨h3, -⟩ := k_mn (a := 0) (b := 5) rfl rfl (by decide) h2
  obtain ⟨j, hj, rfl⟩ := vp_in_of hi (by omega)
  obtain ⟨d, hd, rfl⟩ := h3.get
  rw [show (6 : Int32) = nI 6 from rfl, pk_mul, nI_add]
  exact vp_in_nI (by omega) (by omega)
theorem in_X5_bargain_X5 : ∀ w ∈ wsX50, w ∈ wsX5_bargain := fun _ h => List.mem_cons_of_mem _ (List.mem_append_right _ h)
def f_X5_bargain (sM : Nat → Nat → Int32) (i1 : Int32) (i2 : Int32) : Int32 :=
  if (f_X5_in i1.toInt64 0 (((sM 0 4) - 1).toInt64)) = 0 then -1
  else if (f_X5_in i2.toInt64 0 5) = 0 then -2
  else (sM 13) ((6 * i1) + i2).toNatClampNeg
set_option maxHeartbeats 4000000 in
set_option maxRecDepth 100000 in
theorem c_X5_bargain (l : Launch) (k : K_X) (am : Nat → Nat) (sM : Nat → Nat → Int32) (i1 : Int32) (i2 : Int32) (hT : sM 0 0 = 0) (hc : k_n (sM 0 4) 100) : k_C l yX5_bargain wsX5_bargain (k_rm 1 25) k [.ref (am 0), .int i1, .int i2] (w_M k am sM) (k_qI k (f_X5_bargain sM i1 i2) (w_M k am sM)) := by
  refine k_mk (cc := cX5_bargain) (maxL := 3) (ret := (some .int)) (by decide) rfl (Nat.le_of_ble_eq_true rfl) ?_
  intro p e s m below meth c A ls C0 hP hD hS hl
  obtain ⟨hx, hb, hr, hts, hown, hlocks, hml, hA, hK⟩ := id C0
  have hown : s.vm.findClass RX5 = some m.cls := hown
  have hl : lv_has ls 3 [(0, .ref (am 0)), (1, .int i1), (2, .int i2)] := hl
  refine lv_aload_n hx hb dX5_bargain_0 rfl (lv_at hl 0 rfl) ?_
  refine lv_iconst (v := 0) hx hb dX5_bargain_1 (by decide) ?_
  refine va_put (D := k.1) (ci := 5) (v := .int 0) (ty := .int) (C := RX5) (T := TX5) (N := 28) hx hb hts in_X5_bargain_X5 tyX5 tyX5_ok nmX5 hown hK hP hD hS 0 rfl rfl 0 (by decide) (k_w hts 1 rfl) (fun _ h9 => h9) rfl (by decide +kernel) rfl rfl (Nat.le_of_ble_eq_true rfl) dX5_bargain_2 (fun H locs hP hD hS => ?_)
  have hP := k_cP (w_M_s0 k am sM 0) hP
  have hD := k_cD (w_M_s0 k am sM 0) hD
  rw [k_thr hT] at hP hD
  refine lv_iload_n hx hb dX5_bargain_5 rfl (lv_at hl 1 rfl) ?_
  refine lv_i2l (v := i1.toInt64) hx hb dX5_bargain_6 rfl ?_
  refine lv_lconst (v := 0) hx hb dX5_bargain_7 (by decide) ?_
  refine lv_aload_n hx hb dX5_bargain_8 rfl (lv_at hl 0 rfl) ?_
  refine va_get (D := k.1) (ci := 5) (v := .int (sM 0 4)) (C := RX5) (T := TX5) (N := 28) hx hb hts in_X5_bargain_X5 hown hK hP 0 rfl rfl 16 (by decide) (k_w hts 2 rfl) (fun _ h9 => h9) rfl dX5_bargain_9 ?_
  refine lv_iconst (v := 1) hx hb dX5_bargain_12 (by decide) ?_
  refine lv_isub hx hb dX5_bargain_13 ?_
  refine lv_i2l (v := ((sM 0 4) - 1).toInt64) hx hb dX5_bargain_14 rfl ?_
  refine k_Si (wr := w_M k am sM) (ws' := w_M k am sM) (Rv := (f_X5_in i1.toInt64 0 (((sM 0 4) - 1).toInt64))) (rest := []) ⟨hx, hb, hml, hown, hts⟩ hK hA hP hD hS (c_X5_in l k i1.toInt64 0 (((sM 0 4) - 1).toInt64)) (va_cwS 3 hts gX5_bargain_X5_in rfl rfl rfl (by decide +kernel) ⟨Nat.le_of_ble_eq_true rfl, Nat.le_of_ble_eq_true rfl⟩) rfl hl.1 rfl (Nat.le_of_ble_eq_true rfl) dX5_bargain_15 (Nat.zero_le _) (Nat.zero_le _) [] [0, 1, 2, 3, 4, 5, 6, 7, 8, 9, 10, 11, 12, 13, 14, 15, 16, 17, 18, 19, 20, 21] [0, 1, 2, 3, 4, 5, 6, 7, 8, 9, 10, 11, 12, 13, 14, 15, 16, 17, 18, 19, 20, 21] rfl rfl rfl (by decide) rfl rfl rfl (fun H locs hP hD hS => ?_)
  refine lv_if_ne (tgt := 23) hx hb dX5_bargain_18 (by decide) (fun c_1 => ?_) (fun c_1 => ?_)
  ·
    refine lv_iload_n hx hb dX5_bargain_23 rfl (lv_at hl 2 rfl) ?_
    refine lv_i2l (v := i2.toInt64) hx hb dX5_bargain_24 rfl ?_
    refine lv_lconst (v := 0) hx hb dX5_bargain_25 (by decide) ?_
    refine lv_ldc2 hx hb hown (k_w hts 3 rfl) dX5_bargain_26 ?_
    refine k_Si (wr := w_M k am sM) (ws' := w_M k am sM) (Rv := (f_X5_in i2.toInt64 0 5)) (rest := []) ⟨hx, hb, hml, hown, hts⟩ hK hA hP hD hS (c_X5_in l k i2.toInt64 0 5) (va_cwS 3 hts gX5_bargain_X5_in rfl rfl rfl (by decide +kernel) ⟨Nat.le_of_ble_eq_true rfl, Nat.le_of_ble_eq_true rfl⟩) rfl hl.1 rfl (Nat.le_of_ble_eq_true rfl) dX5_bargain_29 (Nat.zero_le _) (Nat.zero_le _) [] [0, 1, 2, 3, 4, 5, 6, 7, 8, 9, 10, 11, 12, 13, 14, 15, 16, 17, 18, 19, 20, 21] [0, 1, 2, 3, 4, 5, 6, 7, 8, 9, 10, 11, 12, 13, 14, 15, 16, 17, 18, 19, 20, 21] rfl rfl rfl (by decide) rfl rfl rfl (fun H locs hP hD hS => ?_)
    refine lv_if_eq (tgt := 49) hx hb dX5_bargain_32 (by decide) (fun c_2 => ?_) (fun c_2 => ?_)
    ·
      refine lv_bipush (v := (-2)) hx hb dX5_bargain_49 (by decide) ?_
      have ef : f_X5_bargain sM i1 i2 = -2 := by
        rw [f_X5_bargain, if_neg c_1, if_pos c_2]
      exact k_reti hx hb hr hK hP hD hS hlocks dX5_bargain_51 (by rw [ef])
    ·
      refine lv_aload_n hx hb dX5_bargain_35 rfl (lv_at hl 0 rfl) ?_
      refine va_get (D := k.1) (ci := 5) (v := .ref (am 13)) (C := RX5) (T := TX5) (N := 28) hx hb hts in_X5_bargain_X5 hown hK hP 0 rfl rfl 17 (by decide) (k_w hts 4 rfl) (fun _ h9 => h9) rfl dX5_bargain_36 ?_
      refine lv_bipush (v := 6) hx hb dX5_bargain_39 (by decide) ?_
      refine lv_iload_n hx hb dX5_bargain_41 rfl (lv_at hl 1 rfl) ?_
      refine lv_imul hx hb dX5_bargain_42 ?_
      refine lv_iload_n hx hb dX5_bargain_43 rfl (lv_at hl 2 rfl) ?_
      refine lv_iadd hx hb dX5_bargain_44 ?_
      refine va_iald (f := sM 13) hx hb hK hP 13 0 rfl rfl (k_mrd hc (by assumption) (by assumption)) dX5_bargain_45 ?_
      refine lv_goto (tgt := 51) hx hb dX5_bargain_46 (by decide) ?_
      have ef : f_X5_bargain sM i1 i2 = (sM 13) ((6 * i1) + i2).toNatClampNeg := by
        rw [f_X5_bargain, if_neg c_1, if_neg c_2]
      exact k_reti hx hb hr hK hP hD hS hlocks dX5_bargain_51 (by rw [ef])
  ·
    refine lv_iconst (v := (-1)) hx hb dX5_bargain_21 (by decide) ?_
    have ef : f_X5_bargain sM i1 i2 = -1 := by
      rw [f_X5_bargain, if_pos c_1]
    exact k_reti hx hb hr hK hP hD hS hlocks dX5_bargain_22 (by rw [ef])
theorem in_X5_torn_X5 : ∀ w ∈ wsX50, w ∈ wsX5_torn := fun _ h => List.mem_cons_of_mem _ (List.mem_append_right _ h)
def g_X5_torn_in (sM : Nat → Nat → Int32) (jo : Nat) : Nat → Nat → Int32 → Int32
  | 0, j, a1 => a1
  | r + 1, j, a1 => if (f_X5_isTorn sM (nI jo) (nI j)) = 0 then g_X5_torn_in sM jo r (j + 1) (a1 + 0)
    else g_X5_torn_in sM jo r (j + 1) (a1 + 1)
set_option maxHeartbeats 4000000 in
set_option maxRecDepth 100000 in
theorem lp_X5_torn_in {p : Program} {l : Launch} {e : Env} {s : State} {m : MethodId} {below : List Frame} {meth : Method} {c : Code} {A : Nat → Prop} {Q : State → Prop} {av : Array Value} (k : K_X) (am : Nat → Nat) (sM : Nat → Nat → Int32) (jo : Nat) (C0 : k_Cx p s m meth c k cX5_torn (some .int) wsX5_torn RX5 4 av A) (hjo : jo < 10) (hNm : k_n (sM 0 2) 10) (hO : ∀ j, j < 10 → k_o (sM 12 j) 10) : ∀ (r j : Nat) (a1 : Int32) (H : Heap) (locs : List Loc) (ls : Array Slot), j + r = (sM 0 2).toNatClampNeg → va_P k.1 vwCl (w_M k am sM) H → va_D A (w_M k am sM) → va_S A s.heap H locs → lv_has ls 4 [(0, .ref (am 0)), (1, .int a1), (2, .int (nI jo)), (3, .int (nI j))] → (∀ (H : Heap) (locs : List Loc) (ls : Array Slot), va_P k.1 vwCl (w_M k am sM) H → va_D A (w_M k am sM) → va_S A s.heap H locs → lv_has ls 4 [(0, .ref (am 0)), (1, .int (g_X5_torn_in sM jo r j a1)), (2, .int (nI jo))] → W p l e (k_rm 3 73) s m av below meth c H locs 0 0 Q (F0 m 62 ls [])) → W p l e (k_rm 3 73) s m av below meth c H locs 0 0 Q (F0 m 19 ls []) := by
  obtain ⟨hx, hb, hr, hts, hown, hlocks, hml, hA, hK⟩ := id C0
  have hq2 := hNm.2
  intro r
  induction r with
  | zero =>
    intro j a1 H locs ls hj hP hD hS hl hQ
    refine lv_iload_n hx hb dX5_torn_19 rfl (lv_at hl 3 rfl) ?_
    refine lv_aload_n hx hb dX5_torn_20 rfl (lv_at hl 0 rfl) ?_
    refine va_get (D := k.1) (ci := 5) (v := .int (sM 0 2)) (C := RX5) (T := TX5) (N := 28) hx hb hts in_X5_torn_X5 hown hK hP 0 rfl rfl 5 (by decide) (k_w hts 3 rfl) (fun _ h9 => h9) rfl dX5_torn_21 ?_
    refine lv_icmp_ge (tgt := 62) hx hb dX5_torn_24 (by decide) (fun c_1 => ?_) (fun c_1 => ?_)
    rotate_left
    · exact absurd (hNm.ge (by omega)) c_1
    have eg : g_X5_torn_in sM jo 0 j a1 = a1 := by
      rw [g_X5_torn_in]
    rw [eg] at hQ
    exact hQ _ _ _ hP hD hS (lv_sub hl [0, 1, 2] rfl)
  | succ r ih =>
    intro j a1 H locs ls hj hP hD hS hl hQ
    refine lv_iload_n hx hb dX5_torn_19 rfl (lv_at hl 3 rfl) ?_
    refine lv_aload_n hx hb dX5_torn_20 rfl (lv_at hl 0 rfl) ?_
    refine va_get (D := k.1) (ci := 5) (v := .int (sM 0 2)) (C := RX5) (T := TX5) (N := 28) hx hb hts in_X5_torn_X5 hown hK hP 0 rfl rfl 5 (by decide) (k_w hts 3 rfl) (fun _ h9 => h9) rfl dX5_torn_21 ?_
    refine lv_icmp_ge (tgt := 62) hx hb dX5_torn_24 (by decide) (fun c_1 => ?_) (fun c_1 => ?_)
    · exact absurd c_1 (hNm.nge (by omega))
    refine lv_iload_n hx hb dX5_torn_27 rfl (lv_at hl 1 rfl) ?_
    refine lv_aload_n hx hb dX5_torn_28 rfl (lv_at hl 0 rfl) ?_
    refine lv_iload_n hx hb dX5_torn_29 rfl (lv_at hl 2 rfl) ?_
    refine lv_iload_n hx hb dX5_torn_30 rfl (lv_at hl 3 rfl) ?_
    refine lv_aload_n hx hb dX5_torn_31 rfl (lv_at hl 0 rfl) ?_
    refine va_get (D := k.1) (ci := 5) (v := .ref (am 9)) (C := RX5) (T := TX5) (N := 28) hx hb hts in_X5_torn_X5 hown hK hP 0 rfl rfl 11 (by decide) (k_w hts 4 rfl) (fun _ h9 => h9) rfl dX5_torn_32 ?_
    refine lv_aload_n hx hb dX5_torn_35 rfl (lv_at hl 0 rfl) ?_
    refine va_get (D := k.1) (ci := 5) (v := .ref (am 10)) (C := RX5) (T := TX5) (N := 28) hx hb hts in_X5_torn_X5 hown hK hP 0 rfl rfl 12 (by decide) (k_w hts 5 rfl) (fun _ h9 => h9) rfl dX5_torn_36 ?_
    refine lv_aload_n hx hb dX5_torn_39 rfl (lv_at hl 0 rfl) ?_
    refine va_get (D := k.1) (ci := 5) (v := .ref (am 12)) (C := RX5) (T := TX5) (N := 28) hx hb hts in_X5_torn_X5 hown hK hP 0 rfl rfl 14 (by decide) (k_w hts 6 rfl) (fun _ h9 => h9) rfl dX5_torn_40 ?_
    refine k_Vi (wr := ([] : va_W)) (ws' := w_M k am sM) (Rv := (f_X5_isTorn sM (nI jo) (nI j))) (rest := [.int a1]) ⟨hx, hb, hml, hown, hts⟩ hK hA hP hD hS (c_X5_isTorn l k am sM (nI jo) (nI j) (by first | assumption | omega | exact vp_in_nI (by omega) (by omega)) (by first | assumption | omega | exact vp_in_nI (by omega) (by omega)) (by first | assumption | exact k_ofj (by assumption) (by omega))) (cwV 5 hts gX5_torn_X5_isTorn rfl rfl rfl (by decide +kernel) ⟨Nat.le_of_ble_eq_true rfl, Nat.le_of_ble_eq_true rfl⟩) (va_recv hK hP (ci := 5) (q0 := 0) rfl rfl) rfl hl.1 rfl (Nat.le_of_ble_eq_true rfl) dX5_torn_43 (Nat.zero_le _) (Nat.zero_le _) [0, 1, 2, 3, 4, 5, 6, 7, 8, 9, 10, 11, 12, 13, 14, 15, 16, 17, 18, 19, 20, 21] [] [0, 1, 2, 3, 4, 5, 6, 7, 8, 9, 10, 11, 12, 13, 14, 15, 16, 17, 18, 19, 20, 21] rfl rfl rfl (by decide) rfl rfl rfl (fun H locs hP hD hS => ?_)
    refine lv_if_eq (tgt := 53) hx hb dX5_torn_46 (by decide) (fun c_2 => ?_) (fun c_2 => ?_)
    ·
      refine lv_iconst (v := 0) hx hb dX5_torn_53 (by decide) ?_
      refine lv_iadd hx hb dX5_torn_54 ?_
      refine lv_istore_n (lv' := [(1, .int (a1 + 0)), (0, .ref (am 0)), (2, .int (nI jo)), (3, .int (nI j))]) hx hb dX5_torn_55 rfl hl (by decide) rfl (fun ls hl => ?_)
      refine lv_iinc (v := nI (j + 1)) (lv' := [(3, .int (nI (j + 1))), (1, .int (a1 + 0)), (0, .ref (am 0)), (2, .int (nI jo))]) hx hb dX5_torn_56 hl (k := 3) rfl (nI_1 j) (by decide) rfl (fun ls hl => ?_)
      refine lv_goto (tgt := 19) hx hb dX5_torn_59 (by decide) ?_
      have eg : g_X5_torn_in sM jo (r + 1) j a1 = g_X5_torn_in sM jo r (j + 1) (a1 + 0) := by
        rw [g_X5_torn_in, if_pos c_2]
      rw [eg] at hQ
      exact ih (j + 1) (a1 + 0) _ _ _ (by omega) hP hD hS (lv_sub hl [2, 1, 3, 0] rfl) hQ
    ·
      refine lv_iconst (v := 1) hx hb dX5_torn_49 (by decide) ?_
      refine lv_goto (tgt := 54) hx hb dX5_torn_50 (by decide) ?_
      refine lv_iadd hx hb dX5_torn_54 ?_
      refine lv_istore_n (lv' := [(1, .int (a1 + 1)), (0, .ref (am 0)), (2, .int (nI jo)), (3, .int (nI j))]) hx hb dX5_torn_55 rfl hl (by decide) rfl (fun ls hl => ?_)
      refine lv_iinc (v := nI (j + 1)) (lv' := [(3, .int (nI (j + 1))), (1, .int (a1 + 1)), (0, .ref (am 0)), (2, .int (nI jo))]) hx hb dX5_torn_56 hl (k := 3) rfl (nI_1 j) (by decide) rfl (fun ls hl => ?_)
      refine lv_goto (tgt := 19) hx hb dX5_torn_59 (by decide) ?_
      have eg : g_X5_torn_in sM jo (r + 1) j a1 = g_X5_torn_in sM jo r (j + 1) (a1 + 1) := by
        rw [g_X5_torn_in, if_neg c_2]
      rw [eg] at hQ
      exact ih (j + 1) (a1 + 1) _ _ _ (by omega) hP hD hS (lv_sub hl [2, 1, 3, 0] rfl) hQ
def g_X5_torn_out (sM : Nat → Nat → Int32) : Nat → Nat → Int32 → Int32
  | 0, j, a1 => a1
  | r + 1, j, a1 => g_X5_torn_out sM r (j + 1) (g_X5_torn_in sM j ((sM 0 2).toNatClampNeg) 0 a1)
set_option maxHeartbeats 4000000 in
set_option maxRecDepth 100000 in
theorem lp_X5_torn_out {p : Program} {l : Launch} {e : Env} {s : State} {m : MethodId} {below : List Frame} {meth : Method} {c : Code} {A : Nat → Prop} {Q : State → Prop} {av : Array Value} (k : K_X) (am : Nat → Nat) (sM : Nat → Nat → Int32) (C0 : k_Cx p s m meth c k cX5_torn (some .int) wsX5_torn RX5 4 av A) (hNs : k_n (sM 0 1) 10) (hNm : k_n (sM 0 2) 10) (hO : ∀ j, j < 10 → k_o (sM 12 j) 10) : ∀ (r j : Nat) (a1 : Int32) (H : Heap) (locs : List Loc) (ls : Array Slot), j + r = (sM 0 1).toNatClampNeg → va_P k.1 vwCl (w_M k am sM) H → va_D A (w_M k am sM) → va_S A s.heap H locs → lv_has ls 4 [(0, .ref (am 0)), (1, .int a1), (2, .int (nI j))] → (∀ (H : Heap) (locs : List Loc) (ls : Array Slot), va_P k.1 vwCl (w_M k am sM) H → va_D A (w_M k am sM) → va_S A s.heap H locs → lv_has ls 4 [(0, .ref (am 0)), (1, .int (g_X5_torn_out sM r j a1))] → W p l e (k_rm 3 73) s m av below meth c H locs 0 0 Q (F0 m 68 ls [])) → W p l e (k_rm 3 73) s m av below meth c H locs 0 0 Q (F0 m 9 ls []) := by
  obtain ⟨hx, hb, hr, hts, hown, hlocks, hml, hA, hK⟩ := id C0
  have hq := hNs.2; have hq2 := hNm.2
  intro r
  induction r with
  | zero =>
    intro j a1 H locs ls hj hP hD hS hl hQ
    refine lv_iload_n hx hb dX5_torn_9 rfl (lv_at hl 2 rfl) ?_
    refine lv_aload_n hx hb dX5_torn_10 rfl (lv_at hl 0 rfl) ?_
    refine va_get (D := k.1) (ci := 5) (v := .int (sM 0 1)) (C := RX5) (T := TX5) (N := 28) hx hb hts in_X5_torn_X5 hown hK hP 0 rfl rfl 1 (by decide) (k_w hts 2 rfl) (fun _ h9 => h9) rfl dX5_torn_11 ?_
    refine lv_icmp_ge (tgt := 68) hx hb dX5_torn_14 (by decide) (fun c_1 => ?_) (fun c_1 => ?_)
    rotate_left
    · exact absurd (hNs.ge (by omega)) c_1
    have eg : g_X5_torn_out sM 0 j a1 = a1 := by
      rw [g_X5_torn_out]
    rw [eg] at hQ
    exact hQ _ _ _ hP hD hS (lv_sub hl [0, 1] rfl)
  | succ r ih =>
    intro j a1 H locs ls hj hP hD hS hl hQ
    refine lv_iload_n hx hb dX5_torn_9 rfl (lv_at hl 2 rfl) ?_
    refine lv_aload_n hx hb dX5_torn_10 rfl (lv_at hl 0 rfl) ?_
    refine va_get (D := k.1) (ci := 5) (v := .int (sM 0 1)) (C := RX5) (T := TX5) (N := 28) hx hb hts in_X5_torn_X5 hown hK hP 0 rfl rfl 1 (by decide) (k_w hts 2 rfl) (fun _ h9 => h9) rfl dX5_torn_11 ?_
    refine lv_icmp_ge (tgt := 68) hx hb dX5_torn_14 (by decide) (fun c_1 => ?_) (fun c_1 => ?_)
    · exact absurd c_1 (hNs.nge (by omega))
    refine lv_iconst (v := 0) hx hb dX5_torn_17 (by decide) ?_
    refine lv_istore_n (lv' := [(3, .int 0), (0, .ref (am 0)), (1, .int a1), (2, .int (nI j))]) hx hb dX5_torn_18 rfl hl (by decide) rfl (fun ls hl => ?_)
    have hl : lv_has ls 4 [(0, .ref (am 0)), (1, .int a1), (2, .int (nI j)), (3, .int (nI 0))] := lv_sub hl [1, 2, 3, 0] rfl
    refine lp_X5_torn_in k am sM j C0 (by first | assumption | omega) (by first | assumption | omega) (by first | assumption | omega) ((sM 0 2).toNatClampNeg) 0 a1 _ _ _ (by omega) hP hD hS hl (fun H locs ls hP hD hS hl => ?_)
    refine lv_iinc (v := nI (j + 1)) (lv' := [(2, .int (nI (j + 1))), (0, .ref (am 0)), (1, .int (g_X5_torn_in sM j ((sM 0 2).toNatClampNeg) 0 a1))]) hx hb dX5_torn_62 hl (k := 2) rfl (nI_1 j) (by decide) rfl (fun ls hl => ?_)
    refine lv_goto (tgt := 9) hx hb dX5_torn_65 (by decide) ?_
    have eg : g_X5_torn_out sM (r + 1) j a1 = g_X5_torn_out sM r (j + 1) (g_X5_torn_in sM j ((sM 0 2).toNatClampNeg) 0 a1) := by
      rw [g_X5_torn_out]
    rw [eg] at hQ
    exact ih (j + 1) (g_X5_torn_in sM j ((sM 0 2).toNatClampNeg) 0 a1) _ _ _ (by omega) hP hD hS (lv_sub hl [1, 2, 0] rfl) hQ
def f_X5_torn (sM : Nat → Nat → Int32) : Int32 :=
  g_X5_torn_out sM ((sM 0 1).toNatClampNeg) 0 0
set_option maxHeartbeats 4000000 in
set_option maxRecDepth 100000 in
theorem c_X5_torn (l : Launch) (k : K_X) (am : Nat → Nat) (sM : Nat → Nat → Int32) (hT : sM 0 0 = 0) (hNs : k_n (sM 0 1) 10) (hNm : k_n (sM 0 2) 10) (hO : ∀ j, j < 10 → k_o (sM 12 j) 10) : k_C l yX5_torn wsX5_torn (k_rm 3 73) k [.ref (am 0)] (w_M k am sM) (k_qI k (f_X5_torn sM) (w_M k am sM)) := by
  refine k_mk (cc := cX5_torn) (maxL := 4) (ret := (some .int)) (by decide) rfl (Nat.le_of_ble_eq_true rfl) ?_
  intro p e s m below meth c A ls C0 hP hD hS hl
  obtain ⟨hx, hb, hr, hts, hown, hlocks, hml, hA, hK⟩ := id C0
  have hown : s.vm.findClass RX5 = some m.cls := hown
  have hl : lv_has ls 4 [(0, .ref (am 0))] := hl
  refine lv_aload_n hx hb dX5_torn_0 rfl (lv_at hl 0 rfl) ?_
  refine lv_iconst (v := 0) hx hb dX5_torn_1 (by decide) ?_
  refine va_put (D := k.1) (ci := 5) (v := .int 0) (ty := .int) (C := RX5) (T := TX5) (N := 28) hx hb hts in_X5_torn_X5 tyX5 tyX5_ok nmX5 hown hK hP hD hS 0 rfl rfl 0 (by decide) (k_w hts 1 rfl) (fun _ h9 => h9) rfl (by decide +kernel) rfl rfl (Nat.le_of_ble_eq_true rfl) dX5_torn_2 (fun H locs hP hD hS => ?_)
  have hP := k_cP (w_M_s0 k am sM 0) hP
  have hD := k_cD (w_M_s0 k am sM 0) hD
  rw [k_thr hT] at hP hD
  refine lv_iconst (v := 0) hx hb dX5_torn_5 (by decide) ?_
  refine lv_istore_n (lv' := [(1, .int 0), (0, .ref (am 0))]) hx hb dX5_torn_6 rfl hl (by decide) rfl (fun ls hl => ?_)
  refine lv_iconst (v := 0) hx hb dX5_torn_7 (by decide) ?_
  refine lv_istore_n (lv' := [(2, .int 0), (1, .int 0), (0, .ref (am 0))]) hx hb dX5_torn_8 rfl hl (by decide) rfl (fun ls hl => ?_)
  have hl : lv_has ls 4 [(0, .ref (am 0)), (1, .int 0), (2, .int (nI 0))] := lv_sub hl [2, 1, 0] rfl
  refine lp_X5_torn_out k am sM C0 (by first | assumption | omega) (by first | assumption | omega) (by first | assumption | omega) ((sM 0 1).toNatClampNeg) 0 0 _ _ _ (by omega) hP hD hS hl (fun H locs ls hP hD hS hl => ?_)
  refine lv_iload_n hx hb dX5_torn_68 rfl (lv_at hl 1 rfl) ?_
  have ef : f_X5_torn sM = g_X5_torn_out sM ((sM 0 1).toNatClampNeg) 0 0 := by
    rw [f_X5_torn]
  exact k_reti hx hb hr hK hP hD hS hlocks dX5_torn_69 (by rw [ef])
theorem in_X5_pair_X5 : ∀ w ∈ wsX50, w ∈ wsX5_pair := fun _ h => List.mem_cons_of_mem _ (List.mem_append_right _ h)
def g_X5_pair_in (sM : Nat → Nat → Int32) (i1 : Int32) (jo : Nat) : Nat → Nat → Int32 → Option Int32 × Int32
  | 0, j, a1 => (none, a1)
  | r + 1, j, a1 => if (f_X5_isTorn sM (nI jo) (nI j)) = 0 then g_X5_pair_in sM i1 jo r (j + 1) a1
    else if a1 = i1 then (some ((10 * (nI jo)) + (nI j)), a1)
    else g_X5_pair_in sM i1 jo r (j + 1) (a1 + 1)
set_option maxHeartbeats 4000000 in
set_option maxRecDepth 100000 in
theorem lp_X5_pair_in {p : Program} {l : Launch} {e : Env} {s : State} {m : MethodId} {below : List Frame} {meth : Method} {c : Code} {A : Nat → Prop} {Q : State → Prop} {av : Array Value} (k : K_X) (am : Nat → Nat) (sM : Nat → Nat → Int32) (i1 : Int32) (jo : Nat) (C0 : k_Cx p s m meth c k cX5_pair (some .int) wsX5_pair RX5 5 av A) (hjo : jo < 10) (hNm : k_n (sM 0 2) 10) (hO : ∀ j, j < 10 → k_o (sM 12 j) 10) : ∀ (r j : Nat) (a1 : Int32) (H : Heap) (locs : List Loc) (ls : Array Slot), j + r = (sM 0 2).toNatClampNeg → va_P k.1 vwCl (w_M k am sM) H → va_D A (w_M k am sM) → va_S A s.heap H locs → lv_has ls 5 [(0, .ref (am 0)), (1, .int i1), (2, .int a1), (3, .int (nI jo)), (4, .int (nI j))] → (∀ (H : Heap) (locs : List Loc) (ls : Array Slot), (g_X5_pair_in sM i1 jo r j a1).1 = none → va_P k.1 vwCl (w_M k am sM) H → va_D A (w_M k am sM) → va_S A s.heap H locs → lv_has ls 5 [(0, .ref (am 0)), (1, .int i1), (2, .int ((g_X5_pair_in sM i1 jo r j a1).2)), (3, .int (nI jo))] → W p l e (k_rm 3 73) s m av below meth c H locs 0 0 Q (F0 m 73 ls [])) → (∀ (v : Int32) (H : Heap) (locs : List Loc) (ls : Array Slot), (g_X5_pair_in sM i1 jo r j a1).1 = some v → va_P k.1 vwCl (w_M k am sM) H → va_D A (w_M k am sM) → va_S A s.heap H locs → W p l e (k_rm 3 73) s m av below meth c H locs 0 0 Q (F0 m 63 ls [.int v])) → W p l e (k_rm 3 73) s m av below meth c H locs 0 0 Q (F0 m 20 ls []) := by
  obtain ⟨hx, hb, hr, hts, hown, hlocks, hml, hA, hK⟩ := id C0
  have hq2 := hNm.2
  intro r
  induction r with
  | zero =>
    intro j a1 H locs ls hj hP hD hS hl hQ hR
    refine lv_iload hx hb dX5_pair_20 (lv_at hl 4 rfl) ?_
    refine lv_aload_n hx hb dX5_pair_22 rfl (lv_at hl 0 rfl) ?_
    refine va_get (D := k.1) (ci := 5) (v := .int (sM 0 2)) (C := RX5) (T := TX5) (N := 28) hx hb hts in_X5_pair_X5 hown hK hP 0 rfl rfl 5 (by decide) (k_w hts 3 rfl) (fun _ h9 => h9) rfl dX5_pair_23 ?_
    refine lv_icmp_ge (tgt := 73) hx hb dX5_pair_26 (by decide) (fun c_1 => ?_) (fun c_1 => ?_)
    rotate_left
    · exact absurd (hNm.ge (by omega)) c_1
    have eg : g_X5_pair_in sM i1 jo 0 j a1 = (none, a1) := by
      rw [g_X5_pair_in]
    rw [eg] at hQ
    exact hQ _ _ _ rfl hP hD hS (lv_sub hl [0, 1, 2, 3] rfl)
  | succ r ih =>
    intro j a1 H locs ls hj hP hD hS hl hQ hR
    refine lv_iload hx hb dX5_pair_20 (lv_at hl 4 rfl) ?_
    refine lv_aload_n hx hb dX5_pair_22 rfl (lv_at hl 0 rfl) ?_
    refine va_get (D := k.1) (ci := 5) (v := .int (sM 0 2)) (C := RX5) (T := TX5) (N := 28) hx hb hts in_X5_pair_X5 hown hK hP 0 rfl rfl 5 (by decide) (k_w hts 3 rfl) (fun _ h9 => h9) rfl dX5_pair_23 ?_
    refine lv_icmp_ge (tgt := 73) hx hb dX5_pair_26 (by decide) (fun c_1 => ?_) (fun c_1 => ?_)
    · exact absurd c_1 (hNm.nge (by omega))
    refine lv_aload_n hx hb dX5_pair_29 rfl (lv_at hl 0 rfl) ?_
    refine lv_iload_n hx hb dX5_pair_30 rfl (lv_at hl 3 rfl) ?_
    refine lv_iload hx hb dX5_pair_31 (lv_at hl 4 rfl) ?_
    refine lv_aload_n hx hb dX5_pair_33 rfl (lv_at hl 0 rfl) ?_
    refine va_get (D := k.1) (ci := 5) (v := .ref (am 9)) (C := RX5) (T := TX5) (N := 28) hx hb hts in_X5_pair_X5 hown hK hP 0 rfl rfl 11 (by decide) (k_w hts 4 rfl) (fun _ h9 => h9) rfl dX5_pair_34 ?_
    refine lv_aload_n hx hb dX5_pair_37 rfl (lv_at hl 0 rfl) ?_
    refine va_get (D := k.1) (ci := 5) (v := .ref (am 10)) (C := RX5) (T := TX5) (N := 28) hx hb hts in_X5_pair_X5 hown hK hP 0 rfl rfl 12 (by decide) (k_w hts 5 rfl) (fun _ h9 => h9) rfl dX5_pair_38 ?_
    refine lv_aload_n hx hb dX5_pair_41 rfl (lv_at hl 0 rfl) ?_
    refine va_get (D := k.1) (ci := 5) (v := .ref (am 12)) (C := RX5) (T := TX5) (N := 28) hx hb hts in_X5_pair_X5 hown hK hP 0 rfl rfl 14 (by decide) (k_w hts 6 rfl) (fun _ h9 => h9) rfl dX5_pair_42 ?_
    refine k_Vi (wr := ([] : va_W)) (ws' := w_M k am sM) (Rv := (f_X5_isTorn sM (nI jo) (nI j))) (rest := []) ⟨hx, hb, hml, hown, hts⟩ hK hA hP hD hS (c_X5_isTorn l k am sM (nI jo) (nI j) (by first | assumption | omega | exact vp_in_nI (by omega) (by omega)) (by first | assumption | omega | exact vp_in_nI (by omega) (by omega)) (by first | assumption | exact k_ofj (by assumption) (by omega))) (cwV 5 hts gX5_pair_X5_isTorn rfl rfl rfl (by decide +kernel) ⟨Nat.le_of_ble_eq_true rfl, Nat.le_of_ble_eq_true rfl⟩) (va_recv hK hP (ci := 5) (q0 := 0) rfl rfl) rfl hl.1 rfl (Nat.le_of_ble_eq_true rfl) dX5_pair_45 (Nat.zero_le _) (Nat.zero_le _) [0, 1, 2, 3, 4, 5, 6, 7, 8, 9, 10, 11, 12, 13, 14, 15, 16, 17, 18, 19, 20, 21] [] [0, 1, 2, 3, 4, 5, 6, 7, 8, 9, 10, 11, 12, 13, 14, 15, 16, 17, 18, 19, 20, 21] rfl rfl rfl (by decide) rfl rfl rfl (fun H locs hP hD hS => ?_)
    refine lv_if_eq (tgt := 67) hx hb dX5_pair_48 (by decide) (fun c_2 => ?_) (fun c_2 => ?_)
    ·
      refine lv_iinc (v := nI (j + 1)) (lv' := [(4, .int (nI (j + 1))), (0, .ref (am 0)), (1, .int i1), (2, .int a1), (3, .int (nI jo))]) hx hb dX5_pair_67 hl (k := 4) rfl (nI_1 j) (by decide) rfl (fun ls hl => ?_)
      refine lv_goto (tgt := 20) hx hb dX5_pair_70 (by decide) ?_
      have eg : g_X5_pair_in sM i1 jo (r + 1) j a1 = g_X5_pair_in sM i1 jo r (j + 1) a1 := by
        rw [g_X5_pair_in, if_pos c_2]
      rw [eg] at hQ
      rw [eg] at hR
      exact ih (j + 1) a1 _ _ _ (by omega) hP hD hS (lv_sub hl [1, 2, 3, 4, 0] rfl) hQ hR
    ·
      refine lv_iload_n hx hb dX5_pair_51 rfl (lv_at hl 2 rfl) ?_
      refine lv_iload_n hx hb dX5_pair_52 rfl (lv_at hl 1 rfl) ?_
      refine lv_icmp_ne (tgt := 64) hx hb dX5_pair_53 (by decide) (fun c_3 => ?_) (fun c_3 => ?_)
      ·
        refine lv_iinc (v := a1 + 1) (lv' := [(2, .int (a1 + 1)), (0, .ref (am 0)), (1, .int i1), (3, .int (nI jo)), (4, .int (nI j))]) hx hb dX5_pair_64 hl (k := 2) rfl rfl (by decide) rfl (fun ls hl => ?_)
        refine lv_iinc (v := nI (j + 1)) (lv' := [(4, .int (nI (j + 1))), (2, .int (a1 + 1)), (0, .ref (am 0)), (1, .int i1), (3, .int (nI jo))]) hx hb dX5_pair_67 hl (k := 4) rfl (nI_1 j) (by decide) rfl (fun ls hl => ?_)
        refine lv_goto (tgt := 20) hx hb dX5_pair_70 (by decide) ?_
        have eg : g_X5_pair_in sM i1 jo (r + 1) j a1 = g_X5_pair_in sM i1 jo r (j + 1) (a1 + 1) := by
          rw [g_X5_pair_in, if_neg c_2, if_neg c_3]
        rw [eg] at hQ
        rw [eg] at hR
        exact ih (j + 1) (a1 + 1) _ _ _ (by omega) hP hD hS (lv_sub hl [2, 3, 1, 4, 0] rfl) hQ hR
      ·
        refine lv_bipush (v := 10) hx hb dX5_pair_56 (by decide) ?_
        refine lv_iload_n hx hb dX5_pair_58 rfl (lv_at hl 3 rfl) ?_
        refine lv_imul hx hb dX5_pair_59 ?_
        refine lv_iload hx hb dX5_pair_60 (lv_at hl 4 rfl) ?_
        refine lv_iadd hx hb dX5_pair_62 ?_
        have eg : g_X5_pair_in sM i1 jo (r + 1) j a1 = (some ((10 * (nI jo)) + (nI j)), a1) := by
          rw [g_X5_pair_in, if_neg c_2, if_pos c_3]
        exact hR ((10 * (nI jo)) + (nI j)) _ _ _ (by rw [eg]) hP hD hS
def g_X5_pair_out (sM : Nat → Nat → Int32) (i1 : Int32) : Nat → Nat → Int32 → Option Int32 × Int32
  | 0, j, a1 => (none, a1)
  | r + 1, j, a1 => match (g_X5_pair_in sM i1 j ((sM 0 2).toNatClampNeg) 0 a1).1 with
    | none => g_X5_pair_out sM i1 r (j + 1) ((g_X5_pair_in sM i1 j ((sM 0 2).toNatClampNeg) 0 a1).2)
    | some v => (some v, a1)
set_option maxHeartbeats 4000000 in
set_option maxRecDepth 100000 in
theorem lp_X5_pair_out {p : Program} {l : Launch} {e : Env} {s : State} {m : MethodId} {below : List Frame} {meth : Method} {c : Code} {A : Nat → Prop} {Q : State → Prop} {av : Array Value} (k : K_X) (am : Nat → Nat) (sM : Nat → Nat → Int32) (i1 : Int32) (C0 : k_Cx p s m meth c k cX5_pair (some .int) wsX5_pair RX5 5 av A) (hNs : k_n (sM 0 1) 10) (hNm : k_n (sM 0 2) 10) (hO : ∀ j, j < 10 → k_o (sM 12 j) 10) : ∀ (r j : Nat) (a1 : Int32) (H : Heap) (locs : List Loc) (ls : Array Slot), j + r = (sM 0 1).toNatClampNeg → va_P k.1 vwCl (w_M k am sM) H → va_D A (w_M k am sM) → va_S A s.heap H locs → lv_has ls 5 [(0, .ref (am 0)), (1, .int i1), (2, .int a1), (3, .int (nI j))] → (∀ (H : Heap) (locs : List Loc) (ls : Array Slot), (g_X5_pair_out sM i1 r j a1).1 = none → va_P k.1 vwCl (w_M k am sM) H → va_D A (w_M k am sM) → va_S A s.heap H locs → lv_has ls 5 [(0, .ref (am 0)), (1, .int i1), (2, .int ((g_X5_pair_out sM i1 r j a1).2))] → W p l e (k_rm 3 73) s m av below meth c H locs 0 0 Q (F0 m 79 ls [])) → (∀ (v : Int32) (H : Heap) (locs : List Loc) (ls : Array Slot), (g_X5_pair_out sM i1 r j a1).1 = some v → va_P k.1 vwCl (w_M k am sM) H → va_D A (w_M k am sM) → va_S A s.heap H locs → W p l e (k_rm 3 73) s m av below meth c H locs 0 0 Q (F0 m 63 ls [.int v])) → W p l e (k_rm 3 73) s m av below meth c H locs 0 0 Q (F0 m 9 ls []) := by
  obtain ⟨hx, hb, hr, hts, hown, hlocks, hml, hA, hK⟩ := id C0
  have hq := hNs.2; have hq2 := hNm.2
  intro r
  induction r with
  | zero =>
    intro j a1 H locs ls hj hP hD hS hl hQ hR
    refine lv_iload_n hx hb dX5_pair_9 rfl (lv_at hl 3 rfl) ?_
    refine lv_aload_n hx hb dX5_pair_10 rfl (lv_at hl 0 rfl) ?_
    refine va_get (D := k.1) (ci := 5) (v := .int (sM 0 1)) (C := RX5) (T := TX5) (N := 28) hx hb hts in_X5_pair_X5 hown hK hP 0 rfl rfl 1 (by decide) (k_w hts 2 rfl) (fun _ h9 => h9) rfl dX5_pair_11 ?_
    refine lv_icmp_ge (tgt := 79) hx hb dX5_pair_14 (by decide) (fun c_1 => ?_) (fun c_1 => ?_)
    rotate_left
    · exact absurd (hNs.ge (by omega)) c_1
    have eg : g_X5_pair_out sM i1 0 j a1 = (none, a1) := by
      rw [g_X5_pair_out]
    rw [eg] at hQ
    exact hQ _ _ _ rfl hP hD hS (lv_sub hl [0, 1, 2] rfl)
  | succ r ih =>
    intro j a1 H locs ls hj hP hD hS hl hQ hR
    refine lv_iload_n hx hb dX5_pair_9 rfl (lv_at hl 3 rfl) ?_
    refine lv_aload_n hx hb dX5_pair_10 rfl (lv_at hl 0 rfl) ?_
    refine va_get (D := k.1) (ci := 5) (v := .int (sM 0 1)) (C := RX5) (T := TX5) (N := 28) hx hb hts in_X5_pair_X5 hown hK hP 0 rfl rfl 1 (by decide) (k_w hts 2 rfl) (fun _ h9 => h9) rfl dX5_pair_11 ?_
    refine lv_icmp_ge (tgt := 79) hx hb dX5_pair_14 (by decide) (fun c_1 => ?_) (fun c_1 => ?_)
    · exact absurd c_1 (hNs.nge (by omega))
    refine lv_iconst (v := 0) hx hb dX5_pair_17 (by decide) ?_
    refine lv_istore (lv' := [(4, .int 0), (0, .ref (am 0)), (1, .int i1), (2, .int a1), (3, .int (nI j))]) hx hb dX5_pair_18 hl (by decide) rfl (fun ls hl => ?_)
    have hl : lv_has ls 5 [(0, .ref (am 0)), (1, .int i1), (2, .int a1), (3, .int (nI j)), (4, .int (nI 0))] := lv_sub hl [1, 2, 3, 4, 0] rfl
    refine lp_X5_pair_in k am sM i1 j C0 (by first | assumption | omega) (by first | assumption | omega) (by first | assumption | omega) ((sM 0 2).toNatClampNeg) 0 a1 _ _ _ (by omega) hP hD hS hl (fun H locs ls hE hP hD hS hl => ?_) (fun v H locs ls hE hP hD hS => ?_)
    ·
      refine lv_iinc (v := nI (j + 1)) (lv' := [(3, .int (nI (j + 1))), (0, .ref (am 0)), (1, .int i1), (2, .int ((g_X5_pair_in sM i1 j ((sM 0 2).toNatClampNeg) 0 a1).2))]) hx hb dX5_pair_73 hl (k := 3) rfl (nI_1 j) (by decide) rfl (fun ls hl => ?_)
      refine lv_goto (tgt := 9) hx hb dX5_pair_76 (by decide) ?_
      have eg : g_X5_pair_out sM i1 (r + 1) j a1 = g_X5_pair_out sM i1 r (j + 1) ((g_X5_pair_in sM i1 j ((sM 0 2).toNatClampNeg) 0 a1).2) := by
        simp only [g_X5_pair_out, hE]
      rw [eg] at hQ
      rw [eg] at hR
      exact ih (j + 1) ((g_X5_pair_in sM i1 j ((sM 0 2).toNatClampNeg) 0 a1).2) _ _ _ (by omega) hP hD hS (lv_sub hl [1, 2, 3, 0] rfl) hQ hR
    ·
      have eg : g_X5_pair_out sM i1 (r + 1) j a1 = (some v, a1) := by
        simp only [g_X5_pair_out, hE]
      exact hR v _ _ _ (by rw [eg]) hP hD hS
def f_X5_pair (sM : Nat → Nat → Int32) (i1 : Int32) : Int32 :=
  match (g_X5_pair_out sM i1 ((sM 0 1).toNatClampNeg) 0 0).1 with
  | none => -9
  | some v => v
set_option maxHeartbeats 4000000 in
set_option maxRecDepth 100000 in
theorem c_X5_pair (l : Launch) (k : K_X) (am : Nat → Nat) (sM : Nat → Nat → Int32) (i1 : Int32) (hT : sM 0 0 = 0) (hNs : k_n (sM 0 1) 10) (hNm : k_n (sM 0 2) 10) (hO : ∀ j, j < 10 → k_o (sM 12 j) 10) : k_C l yX5_pair wsX5_pair (k_rm 3 73) k [.ref (am 0), .int i1] (w_M k am sM) (k_qI k (f_X5_pair sM i1) (w_M k am sM)) := by
  refine k_mk (cc := cX5_pair) (maxL := 5) (ret := (some .int)) (by decide) rfl (Nat.le_of_ble_eq_true rfl) ?_
  intro p e s m below meth c A ls C0 hP hD hS hl
  obtain ⟨hx, hb, hr, hts, hown, hlocks, hml, hA, hK⟩ := id C0
  have hown : s.vm.findClass RX5 = some m.cls := hown
  have hl : lv_has ls 5 [(0, .ref (am 0)), (1, .int i1)] := hl
  refine lv_aload_n hx hb dX5_pair_0 rfl (lv_at hl 0 rfl) ?_
  refine lv_iconst (v := 0) hx hb dX5_pair_1 (by decide) ?_
  refine va_put (D := k.1) (ci := 5) (v := .int 0) (ty := .int) (C := RX5) (T := TX5) (N := 28) hx hb hts in_X5_pair_X5 tyX5 tyX5_ok nmX5 hown hK hP hD hS 0 rfl rfl 0 (by decide) (k_w hts 1 rfl) (fun _ h9 => h9) rfl (by decide +kernel) rfl rfl (Nat.le_of_ble_eq_true rfl) dX5_pair_2 (fun H locs hP hD hS => ?_)
  have hP := k_cP (w_M_s0 k am sM 0) hP
  have hD := k_cD (w_M_s0 k am sM 0) hD
  rw [k_thr hT] at hP hD
  refine lv_iconst (v := 0) hx hb dX5_pair_5 (by decide) ?_
  refine lv_istore_n (lv' := [(2, .int 0), (0, .ref (am 0)), (1, .int i1)]) hx hb dX5_pair_6 rfl hl (by decide) rfl (fun ls hl => ?_)
  refine lv_iconst (v := 0) hx hb dX5_pair_7 (by decide) ?_
  refine lv_istore_n (lv' := [(3, .int 0), (2, .int 0), (0, .ref (am 0)), (1, .int i1)]) hx hb dX5_pair_8 rfl hl (by decide) rfl (fun ls hl => ?_)
  have hl : lv_has ls 5 [(0, .ref (am 0)), (1, .int i1), (2, .int 0), (3, .int (nI 0))] := lv_sub hl [2, 3, 1, 0] rfl
  refine lp_X5_pair_out k am sM i1 C0 (by first | assumption | omega) (by first | assumption | omega) (by first | assumption | omega) ((sM 0 1).toNatClampNeg) 0 0 _ _ _ (by omega) hP hD hS hl (fun H locs ls hE hP hD hS hl => ?_) (fun v H locs ls hE hP hD hS => ?_)
  ·
    refine lv_bipush (v := (-9)) hx hb dX5_pair_79 (by decide) ?_
    have ef : f_X5_pair sM i1 = -9 := by
      simp only [f_X5_pair, hE]
    exact k_reti hx hb hr hK hP hD hS hlocks dX5_pair_81 (by rw [ef])
  ·
    have ef : f_X5_pair sM i1 = v := by
      simp only [f_X5_pair, hE]
    exact k_reti hx hb hr hK hP hD hS hlocks dX5_pair_63 (by rw [ef])
