theorem in_X2_addServant_X2 : ∀ w ∈ wsX20, w ∈ wsX2_addServant := fun _ h => List.mem_cons_of_mem _ (List.mem_append_right _ h)
def f_X2_addServant (sP : Nat → Nat → Int32) (i1 : Int32) (i2 : Int32) (i3 : Int32) : Int32 × (Nat → Nat → Int32) :=
  if (sP 0 0) < 10 then ((((sP 0 0) + 1) - 1), k_st (k_st (k_st (k_st sP 1 (upd (sP 1) (sP 0 0).toNatClampNeg i1)) 2 (upd (sP 2) (sP 0 0).toNatClampNeg i2)) 3 (upd (sP 3) (sP 0 0).toNatClampNeg i3)) 0 (k_st ((k_st (k_st (k_st sP 1 (upd (sP 1) (sP 0 0).toNatClampNeg i1)) 2 (upd (sP 2) (sP 0 0).toNatClampNeg i2)) 3 (upd (sP 3) (sP 0 0).toNatClampNeg i3)) 0) 0 ((sP 0 0) + 1)))
  else ((-4), sP)
set_option maxHeartbeats 4000000 in
set_option maxRecDepth 100000 in
theorem c_X2_addServant (l : Launch) (k : K_X) (ap : Nat → Nat) (sP : Nat → Nat → Int32) (i1 : Int32) (i2 : Int32) (i3 : Int32) (hNs : k_n (sP 0 0) 10) : k_C l yX2_addServant wsX2_addServant (k_rm 0 0) k [.ref (ap 0), .int i1, .int i2, .int i3] (w_P k ap sP) (k_qI k ((f_X2_addServant sP i1 i2 i3).1) (w_P k ap ((f_X2_addServant sP i1 i2 i3).2))) := by
  refine k_mk (cc := cX2_addServant) (maxL := 4) (ret := (some .int)) (by decide) rfl (Nat.le_of_ble_eq_true rfl) ?_
  intro p e s m below meth c A ls C0 hP hD hS hl
  obtain ⟨hx, hb, hr, hts, hown, hlocks, hml, hA, hK⟩ := id C0
  have hown : s.vm.findClass RX2 = some m.cls := hown
  have hl : lv_has ls 4 [(0, .ref (ap 0)), (1, .int i1), (2, .int i2), (3, .int i3)] := hl
  refine lv_aload_n hx hb dX2_addServant_0 rfl (lv_at hl 0 rfl) ?_
  refine va_get (D := k.1) (ci := 2) (v := .int (sP 0 0)) (C := RX2) (T := TX2) (N := 9) hx hb hts in_X2_addServant_X2 hown hK hP 0 rfl rfl 0 (by decide) (k_w hts 1 rfl) (fun _ h9 => h9) rfl dX2_addServant_1 ?_
  refine lv_bipush (v := 10) hx hb dX2_addServant_4 (by decide) ?_
  refine lv_icmp_lt (tgt := 12) hx hb dX2_addServant_6 (by decide) (fun c_1 => ?_) (fun c_1 => ?_)
  ·
    refine lv_aload_n hx hb dX2_addServant_12 rfl (lv_at hl 0 rfl) ?_
    refine va_get (D := k.1) (ci := 2) (v := .ref (ap 1)) (C := RX2) (T := TX2) (N := 9) hx hb hts in_X2_addServant_X2 hown hK hP 0 rfl rfl 1 (by decide) (k_w hts 2 rfl) (fun _ h9 => h9) rfl dX2_addServant_13 ?_
    refine lv_aload_n hx hb dX2_addServant_16 rfl (lv_at hl 0 rfl) ?_
    refine va_get (D := k.1) (ci := 2) (v := .int (sP 0 0)) (C := RX2) (T := TX2) (N := 9) hx hb hts in_X2_addServant_X2 hown hK hP 0 rfl rfl 0 (by decide) (k_w hts 1 rfl) (fun _ h9 => h9) rfl dX2_addServant_17 ?_
    refine lv_iload_n hx hb dX2_addServant_20 rfl (lv_at hl 1 rfl) ?_
    refine va_iast (f := sP 1) hx hb hK hP hD hS 1 0 rfl rfl (hNs.in (by assumption)) dX2_addServant_21 (fun H locs hP hD hS => ?_)
    have hP := k_cP (w_P_1 k ap sP (upd (sP 1) (sP 0 0).toNatClampNeg i1)) hP
    have hD := k_cD (w_P_1 k ap sP (upd (sP 1) (sP 0 0).toNatClampNeg i1)) hD
    refine lv_aload_n hx hb dX2_addServant_22 rfl (lv_at hl 0 rfl) ?_
    refine va_get (D := k.1) (ci := 2) (v := .ref (ap 2)) (C := RX2) (T := TX2) (N := 9) hx hb hts in_X2_addServant_X2 hown hK hP 0 rfl rfl 2 (by decide) (k_w hts 3 rfl) (fun _ h9 => h9) rfl dX2_addServant_23 ?_
    refine lv_aload_n hx hb dX2_addServant_26 rfl (lv_at hl 0 rfl) ?_
    refine va_get (D := k.1) (ci := 2) (v := .int (sP 0 0)) (C := RX2) (T := TX2) (N := 9) hx hb hts in_X2_addServant_X2 hown hK hP 0 rfl rfl 0 (by decide) (k_w hts 1 rfl) (fun _ h9 => h9) rfl dX2_addServant_27 ?_
    refine lv_iload_n hx hb dX2_addServant_30 rfl (lv_at hl 2 rfl) ?_
    refine va_iast (f := sP 2) hx hb hK hP hD hS 2 0 rfl rfl (hNs.in (by assumption)) dX2_addServant_31 (fun H locs hP hD hS => ?_)
    have hP := k_cP (w_P_2 k ap (k_st sP 1 (upd (sP 1) (sP 0 0).toNatClampNeg i1)) (upd (sP 2) (sP 0 0).toNatClampNeg i2)) hP
    have hD := k_cD (w_P_2 k ap (k_st sP 1 (upd (sP 1) (sP 0 0).toNatClampNeg i1)) (upd (sP 2) (sP 0 0).toNatClampNeg i2)) hD
    refine lv_aload_n hx hb dX2_addServant_32 rfl (lv_at hl 0 rfl) ?_
    refine va_get (D := k.1) (ci := 2) (v := .ref (ap 3)) (C := RX2) (T := TX2) (N := 9) hx hb hts in_X2_addServant_X2 hown hK hP 0 rfl rfl 3 (by decide) (k_w hts 4 rfl) (fun _ h9 => h9) rfl dX2_addServant_33 ?_
    refine lv_aload_n hx hb dX2_addServant_36 rfl (lv_at hl 0 rfl) ?_
    refine va_get (D := k.1) (ci := 2) (v := .int (sP 0 0)) (C := RX2) (T := TX2) (N := 9) hx hb hts in_X2_addServant_X2 hown hK hP 0 rfl rfl 0 (by decide) (k_w hts 1 rfl) (fun _ h9 => h9) rfl dX2_addServant_37 ?_
    refine lv_iload_n hx hb dX2_addServant_40 rfl (lv_at hl 3 rfl) ?_
    refine va_iast (f := sP 3) hx hb hK hP hD hS 3 0 rfl rfl (hNs.in (by assumption)) dX2_addServant_41 (fun H locs hP hD hS => ?_)
    have hP := k_cP (w_P_3 k ap (k_st (k_st sP 1 (upd (sP 1) (sP 0 0).toNatClampNeg i1)) 2 (upd (sP 2) (sP 0 0).toNatClampNeg i2)) (upd (sP 3) (sP 0 0).toNatClampNeg i3)) hP
    have hD := k_cD (w_P_3 k ap (k_st (k_st sP 1 (upd (sP 1) (sP 0 0).toNatClampNeg i1)) 2 (upd (sP 2) (sP 0 0).toNatClampNeg i2)) (upd (sP 3) (sP 0 0).toNatClampNeg i3)) hD
    refine lv_aload_n hx hb dX2_addServant_42 rfl (lv_at hl 0 rfl) ?_
    refine lv_dup hx hb dX2_addServant_43 rfl ?_
    refine va_get (D := k.1) (ci := 2) (v := .int (sP 0 0)) (C := RX2) (T := TX2) (N := 9) hx hb hts in_X2_addServant_X2 hown hK hP 0 rfl rfl 0 (by decide) (k_w hts 1 rfl) (fun _ h9 => h9) rfl dX2_addServant_44 ?_
    refine lv_iconst (v := 1) hx hb dX2_addServant_47 (by decide) ?_
    refine lv_iadd hx hb dX2_addServant_48 ?_
    refine va_put (D := k.1) (ci := 2) (v := .int ((sP 0 0) + 1)) (ty := .int) (C := RX2) (T := TX2) (N := 9) hx hb hts in_X2_addServant_X2 tyX2 tyX2_ok nmX2 hown hK hP hD hS 0 rfl rfl 0 (by decide) (k_w hts 1 rfl) (fun _ h9 => h9) rfl (by decide +kernel) rfl rfl (Nat.le_of_ble_eq_true rfl) dX2_addServant_49 (fun H locs hP hD hS => ?_)
    have hP := k_cP (w_P_s0 k ap (k_st (k_st (k_st sP 1 (upd (sP 1) (sP 0 0).toNatClampNeg i1)) 2 (upd (sP 2) (sP 0 0).toNatClampNeg i2)) 3 (upd (sP 3) (sP 0 0).toNatClampNeg i3)) ((sP 0 0) + 1)) hP
    have hD := k_cD (w_P_s0 k ap (k_st (k_st (k_st sP 1 (upd (sP 1) (sP 0 0).toNatClampNeg i1)) 2 (upd (sP 2) (sP 0 0).toNatClampNeg i2)) 3 (upd (sP 3) (sP 0 0).toNatClampNeg i3)) ((sP 0 0) + 1)) hD
    refine lv_aload_n hx hb dX2_addServant_52 rfl (lv_at hl 0 rfl) ?_
    refine va_get (D := k.1) (ci := 2) (v := .int ((sP 0 0) + 1)) (C := RX2) (T := TX2) (N := 9) hx hb hts in_X2_addServant_X2 hown hK hP 0 rfl rfl 0 (by decide) (k_w hts 1 rfl) (fun _ h9 => h9) rfl dX2_addServant_53 ?_
    refine lv_iconst (v := 1) hx hb dX2_addServant_56 (by decide) ?_
    refine lv_isub hx hb dX2_addServant_57 ?_
    have ef : f_X2_addServant sP i1 i2 i3 = ((((sP 0 0) + 1) - 1), k_st (k_st (k_st (k_st sP 1 (upd (sP 1) (sP 0 0).toNatClampNeg i1)) 2 (upd (sP 2) (sP 0 0).toNatClampNeg i2)) 3 (upd (sP 3) (sP 0 0).toNatClampNeg i3)) 0 (k_st ((k_st (k_st (k_st sP 1 (upd (sP 1) (sP 0 0).toNatClampNeg i1)) 2 (upd (sP 2) (sP 0 0).toNatClampNeg i2)) 3 (upd (sP 3) (sP 0 0).toNatClampNeg i3)) 0) 0 ((sP 0 0) + 1))) := by
      rw [f_X2_addServant, if_pos c_1]
    exact k_reti hx hb hr hK (by rw [ef]; exact hP) (by rw [ef]; exact hD) hS hlocks dX2_addServant_58 (by rw [ef])
  ·
    refine lv_bipush (v := (-4)) hx hb dX2_addServant_9 (by decide) ?_
    have ef : f_X2_addServant sP i1 i2 i3 = ((-4), sP) := by
      rw [f_X2_addServant, if_neg c_1]
    exact k_reti hx hb hr hK (by rw [ef]; exact hP) (by rw [ef]; exact hD) hS hlocks dX2_addServant_11 (by rw [ef])
theorem in_X2_addMaster_X2 : ∀ w ∈ wsX20, w ∈ wsX2_addMaster := fun _ h => List.mem_cons_of_mem _ (List.mem_append_right _ h)
def f_X2_addMaster (sP : Nat → Nat → Int32) (i1 : Int32) (i2 : Int32) : Int32 × (Nat → Nat → Int32) :=
  if (sP 0 1) < 10 then ((((sP 0 1) + 1) - 1), k_st (k_st (k_st sP 4 (upd (sP 4) (sP 0 1).toNatClampNeg i1)) 5 (upd (sP 5) (sP 0 1).toNatClampNeg i2)) 0 (k_st ((k_st (k_st sP 4 (upd (sP 4) (sP 0 1).toNatClampNeg i1)) 5 (upd (sP 5) (sP 0 1).toNatClampNeg i2)) 0) 1 ((sP 0 1) + 1)))
  else ((-4), sP)
set_option maxHeartbeats 4000000 in
set_option maxRecDepth 100000 in
theorem c_X2_addMaster (l : Launch) (k : K_X) (ap : Nat → Nat) (sP : Nat → Nat → Int32) (i1 : Int32) (i2 : Int32) (hNm : k_n (sP 0 1) 10) : k_C l yX2_addMaster wsX2_addMaster (k_rm 0 0) k [.ref (ap 0), .int i1, .int i2] (w_P k ap sP) (k_qI k ((f_X2_addMaster sP i1 i2).1) (w_P k ap ((f_X2_addMaster sP i1 i2).2))) := by
  refine k_mk (cc := cX2_addMaster) (maxL := 3) (ret := (some .int)) (by decide) rfl (Nat.le_of_ble_eq_true rfl) ?_
  intro p e s m below meth c A ls C0 hP hD hS hl
  obtain ⟨hx, hb, hr, hts, hown, hlocks, hml, hA, hK⟩ := id C0
  have hown : s.vm.findClass RX2 = some m.cls := hown
  have hl : lv_has ls 3 [(0, .ref (ap 0)), (1, .int i1), (2, .int i2)] := hl
  refine lv_aload_n hx hb dX2_addMaster_0 rfl (lv_at hl 0 rfl) ?_
  refine va_get (D := k.1) (ci := 2) (v := .int (sP 0 1)) (C := RX2) (T := TX2) (N := 9) hx hb hts in_X2_addMaster_X2 hown hK hP 0 rfl rfl 4 (by decide) (k_w hts 1 rfl) (fun _ h9 => h9) rfl dX2_addMaster_1 ?_
  refine lv_bipush (v := 10) hx hb dX2_addMaster_4 (by decide) ?_
  refine lv_icmp_lt (tgt := 12) hx hb dX2_addMaster_6 (by decide) (fun c_1 => ?_) (fun c_1 => ?_)
  ·
    refine lv_aload_n hx hb dX2_addMaster_12 rfl (lv_at hl 0 rfl) ?_
    refine va_get (D := k.1) (ci := 2) (v := .ref (ap 4)) (C := RX2) (T := TX2) (N := 9) hx hb hts in_X2_addMaster_X2 hown hK hP 0 rfl rfl 5 (by decide) (k_w hts 2 rfl) (fun _ h9 => h9) rfl dX2_addMaster_13 ?_
    refine lv_aload_n hx hb dX2_addMaster_16 rfl (lv_at hl 0 rfl) ?_
    refine va_get (D := k.1) (ci := 2) (v := .int (sP 0 1)) (C := RX2) (T := TX2) (N := 9) hx hb hts in_X2_addMaster_X2 hown hK hP 0 rfl rfl 4 (by decide) (k_w hts 1 rfl) (fun _ h9 => h9) rfl dX2_addMaster_17 ?_
    refine lv_iload_n hx hb dX2_addMaster_20 rfl (lv_at hl 1 rfl) ?_
    refine va_iast (f := sP 4) hx hb hK hP hD hS 4 0 rfl rfl (hNm.in (by assumption)) dX2_addMaster_21 (fun H locs hP hD hS => ?_)
    have hP := k_cP (w_P_4 k ap sP (upd (sP 4) (sP 0 1).toNatClampNeg i1)) hP
    have hD := k_cD (w_P_4 k ap sP (upd (sP 4) (sP 0 1).toNatClampNeg i1)) hD
    refine lv_aload_n hx hb dX2_addMaster_22 rfl (lv_at hl 0 rfl) ?_
    refine va_get (D := k.1) (ci := 2) (v := .ref (ap 5)) (C := RX2) (T := TX2) (N := 9) hx hb hts in_X2_addMaster_X2 hown hK hP 0 rfl rfl 6 (by decide) (k_w hts 3 rfl) (fun _ h9 => h9) rfl dX2_addMaster_23 ?_
    refine lv_aload_n hx hb dX2_addMaster_26 rfl (lv_at hl 0 rfl) ?_
    refine va_get (D := k.1) (ci := 2) (v := .int (sP 0 1)) (C := RX2) (T := TX2) (N := 9) hx hb hts in_X2_addMaster_X2 hown hK hP 0 rfl rfl 4 (by decide) (k_w hts 1 rfl) (fun _ h9 => h9) rfl dX2_addMaster_27 ?_
    refine lv_iload_n hx hb dX2_addMaster_30 rfl (lv_at hl 2 rfl) ?_
    refine va_iast (f := sP 5) hx hb hK hP hD hS 5 0 rfl rfl (hNm.in (by assumption)) dX2_addMaster_31 (fun H locs hP hD hS => ?_)
    have hP := k_cP (w_P_5 k ap (k_st sP 4 (upd (sP 4) (sP 0 1).toNatClampNeg i1)) (upd (sP 5) (sP 0 1).toNatClampNeg i2)) hP
    have hD := k_cD (w_P_5 k ap (k_st sP 4 (upd (sP 4) (sP 0 1).toNatClampNeg i1)) (upd (sP 5) (sP 0 1).toNatClampNeg i2)) hD
    refine lv_aload_n hx hb dX2_addMaster_32 rfl (lv_at hl 0 rfl) ?_
    refine lv_dup hx hb dX2_addMaster_33 rfl ?_
    refine va_get (D := k.1) (ci := 2) (v := .int (sP 0 1)) (C := RX2) (T := TX2) (N := 9) hx hb hts in_X2_addMaster_X2 hown hK hP 0 rfl rfl 4 (by decide) (k_w hts 1 rfl) (fun _ h9 => h9) rfl dX2_addMaster_34 ?_
    refine lv_iconst (v := 1) hx hb dX2_addMaster_37 (by decide) ?_
    refine lv_iadd hx hb dX2_addMaster_38 ?_
    refine va_put (D := k.1) (ci := 2) (v := .int ((sP 0 1) + 1)) (ty := .int) (C := RX2) (T := TX2) (N := 9) hx hb hts in_X2_addMaster_X2 tyX2 tyX2_ok nmX2 hown hK hP hD hS 0 rfl rfl 4 (by decide) (k_w hts 1 rfl) (fun _ h9 => h9) rfl (by decide +kernel) rfl rfl (Nat.le_of_ble_eq_true rfl) dX2_addMaster_39 (fun H locs hP hD hS => ?_)
    have hP := k_cP (w_P_s1 k ap (k_st (k_st sP 4 (upd (sP 4) (sP 0 1).toNatClampNeg i1)) 5 (upd (sP 5) (sP 0 1).toNatClampNeg i2)) ((sP 0 1) + 1)) hP
    have hD := k_cD (w_P_s1 k ap (k_st (k_st sP 4 (upd (sP 4) (sP 0 1).toNatClampNeg i1)) 5 (upd (sP 5) (sP 0 1).toNatClampNeg i2)) ((sP 0 1) + 1)) hD
    refine lv_aload_n hx hb dX2_addMaster_42 rfl (lv_at hl 0 rfl) ?_
    refine va_get (D := k.1) (ci := 2) (v := .int ((sP 0 1) + 1)) (C := RX2) (T := TX2) (N := 9) hx hb hts in_X2_addMaster_X2 hown hK hP 0 rfl rfl 4 (by decide) (k_w hts 1 rfl) (fun _ h9 => h9) rfl dX2_addMaster_43 ?_
    refine lv_iconst (v := 1) hx hb dX2_addMaster_46 (by decide) ?_
    refine lv_isub hx hb dX2_addMaster_47 ?_
    have ef : f_X2_addMaster sP i1 i2 = ((((sP 0 1) + 1) - 1), k_st (k_st (k_st sP 4 (upd (sP 4) (sP 0 1).toNatClampNeg i1)) 5 (upd (sP 5) (sP 0 1).toNatClampNeg i2)) 0 (k_st ((k_st (k_st sP 4 (upd (sP 4) (sP 0 1).toNatClampNeg i1)) 5 (upd (sP 5) (sP 0 1).toNatClampNeg i2)) 0) 1 ((sP 0 1) + 1))) := by
      rw [f_X2_addMaster, if_pos c_1]
    exact k_reti hx hb hr hK (by rw [ef]; exact hP) (by rw [ef]; exact hD) hS hlocks dX2_addMaster_48 (by rw [ef])
  ·
    refine lv_bipush (v := (-4)) hx hb dX2_addMaster_9 (by decide) ?_
    have ef : f_X2_addMaster sP i1 i2 = ((-4), sP) := by
      rw [f_X2_addMaster, if_neg c_1]
    exact k_reti hx hb hr hK (by rw [ef]; exact hP) (by rw [ef]; exact hD) hS hlocks dX2_addMaster_11 (by rw [ef])
theorem in_X2_hasServant_X2 : ∀ w ∈ wsX20, w ∈ wsX2_hasServant := fun _ h => List.mem_cons_of_mem _ (List.mem_append_right _ h)
def f_X2_hasServant (sP : Nat → Nat → Int32) (i1 : Int32) : Int32 :=
  if i1 < 0 then 0
  else if (sP 0 0) ≤ i1 then 0
  else 1
set_option maxHeartbeats 4000000 in
set_option maxRecDepth 100000 in
theorem c_X2_hasServant (l : Launch) (k : K_X) (ap : Nat → Nat) (sP : Nat → Nat → Int32) (i1 : Int32) : k_C l yX2_hasServant wsX2_hasServant (k_rm 0 0) k [.ref (ap 0), .int i1] (w_P k ap sP) (k_qI k (f_X2_hasServant sP i1) (w_P k ap sP)) := by
  refine k_mk (cc := cX2_hasServant) (maxL := 2) (ret := (some .boolean)) (by decide) rfl (Nat.le_of_ble_eq_true rfl) ?_
  intro p e s m below meth c A ls C0 hP hD hS hl
  obtain ⟨hx, hb, hr, hts, hown, hlocks, hml, hA, hK⟩ := id C0
  have hown : s.vm.findClass RX2 = some m.cls := hown
  have hl : lv_has ls 2 [(0, .ref (ap 0)), (1, .int i1)] := hl
  refine lv_iload_n hx hb dX2_hasServant_0 rfl (lv_at hl 1 rfl) ?_
  refine lv_if_lt (tgt := 16) hx hb dX2_hasServant_1 (by decide) (fun c_1 => ?_) (fun c_1 => ?_)
  ·
    refine lv_iconst (v := 0) hx hb dX2_hasServant_16 (by decide) ?_
    have ef : f_X2_hasServant sP i1 = 0 := by
      rw [f_X2_hasServant, if_pos c_1]
    exact k_retz hx hb hr (by decide) hK hP hD hS hlocks dX2_hasServant_17 (by rw [ef])
  ·
    refine lv_iload_n hx hb dX2_hasServant_4 rfl (lv_at hl 1 rfl) ?_
    refine lv_aload_n hx hb dX2_hasServant_5 rfl (lv_at hl 0 rfl) ?_
    refine va_get (D := k.1) (ci := 2) (v := .int (sP 0 0)) (C := RX2) (T := TX2) (N := 9) hx hb hts in_X2_hasServant_X2 hown hK hP 0 rfl rfl 0 (by decide) (k_w hts 1 rfl) (fun _ h9 => h9) rfl dX2_hasServant_6 ?_
    refine lv_icmp_ge (tgt := 16) hx hb dX2_hasServant_9 (by decide) (fun c_2 => ?_) (fun c_2 => ?_)
    ·
      refine lv_iconst (v := 0) hx hb dX2_hasServant_16 (by decide) ?_
      have ef : f_X2_hasServant sP i1 = 0 := by
        rw [f_X2_hasServant, if_neg c_1, if_pos c_2]
      exact k_retz hx hb hr (by decide) hK hP hD hS hlocks dX2_hasServant_17 (by rw [ef])
    ·
      refine lv_iconst (v := 1) hx hb dX2_hasServant_12 (by decide) ?_
      refine lv_goto (tgt := 17) hx hb dX2_hasServant_13 (by decide) ?_
      have ef : f_X2_hasServant sP i1 = 1 := by
        rw [f_X2_hasServant, if_neg c_1, if_neg c_2]
      exact k_retz hx hb hr (by decide) hK hP hD hS hlocks dX2_hasServant_17 (by rw [ef])
theorem in_X2_hasMaster_X2 : ∀ w ∈ wsX20, w ∈ wsX2_hasMaster := fun _ h => List.mem_cons_of_mem _ (List.mem_append_right _ h)
def f_X2_hasMaster (sP : Nat → Nat → Int32) (i1 : Int32) : Int32 :=
  if i1 < 0 then 0
  else if (sP 0 1) ≤ i1 then 0
  else 1
set_option maxHeartbeats 4000000 in
set_option maxRecDepth 100000 in
theorem c_X2_hasMaster (l : Launch) (k : K_X) (ap : Nat → Nat) (sP : Nat → Nat → Int32) (i1 : Int32) : k_C l yX2_hasMaster wsX2_hasMaster (k_rm 0 0) k [.ref (ap 0), .int i1] (w_P k ap sP) (k_qI k (f_X2_hasMaster sP i1) (w_P k ap sP)) := by
  refine k_mk (cc := cX2_hasMaster) (maxL := 2) (ret := (some .boolean)) (by decide) rfl (Nat.le_of_ble_eq_true rfl) ?_
  intro p e s m below meth c A ls C0 hP hD hS hl
  obtain ⟨hx, hb, hr, hts, hown, hlocks, hml, hA, hK⟩ := id C0
  have hown : s.vm.findClass RX2 = some m.cls := hown
  have hl : lv_has ls 2 [(0, .ref (ap 0)), (1, .int i1)] := hl
  refine lv_iload_n hx hb dX2_hasMaster_0 rfl (lv_at hl 1 rfl) ?_
  refine lv_if_lt (tgt := 16) hx hb dX2_hasMaster_1 (by decide) (fun c_1 => ?_) (fun c_1 => ?_)
  ·
    refine lv_iconst (v := 0) hx hb dX2_hasMaster_16 (by decide) ?_
    have ef : f_X2_hasMaster sP i1 = 0 := by
      rw [f_X2_hasMaster, if_pos c_1]
    exact k_retz hx hb hr (by decide) hK hP hD hS hlocks dX2_hasMaster_17 (by rw [ef])
  ·
    refine lv_iload_n hx hb dX2_hasMaster_4 rfl (lv_at hl 1 rfl) ?_
    refine lv_aload_n hx hb dX2_hasMaster_5 rfl (lv_at hl 0 rfl) ?_
    refine va_get (D := k.1) (ci := 2) (v := .int (sP 0 1)) (C := RX2) (T := TX2) (N := 9) hx hb hts in_X2_hasMaster_X2 hown hK hP 0 rfl rfl 4 (by decide) (k_w hts 1 rfl) (fun _ h9 => h9) rfl dX2_hasMaster_6 ?_
    refine lv_icmp_ge (tgt := 16) hx hb dX2_hasMaster_9 (by decide) (fun c_2 => ?_) (fun c_2 => ?_)
    ·
      refine lv_iconst (v := 0) hx hb dX2_hasMaster_16 (by decide) ?_
      have ef : f_X2_hasMaster sP i1 = 0 := by
        rw [f_X2_hasMaster, if_neg c_1, if_pos c_2]
      exact k_retz hx hb hr (by decide) hK hP hD hS hlocks dX2_hasMaster_17 (by rw [ef])
    ·
      refine lv_iconst (v := 1) hx hb dX2_hasMaster_12 (by decide) ?_
      refine lv_goto (tgt := 17) hx hb dX2_hasMaster_13 (by decide) ?_
      have ef : f_X2_hasMaster sP i1 = 1 := by
        rw [f_X2_hasMaster, if_neg c_1, if_neg c_2]
      exact k_retz hx hb hr (by decide) hK hP hD hS hlocks dX2_hasMaster_17 (by rw [ef])
theorem in_X2_hasBoth_X2 : ∀ w ∈ wsX20, w ∈ wsX2_hasBoth := fun _ h => List.mem_cons_of_mem _ (List.mem_append_right _ h)
def f_X2_hasBoth (sP : Nat → Nat → Int32) (i1 : Int32) (i2 : Int32) : Int32 :=
  if (f_X2_hasMaster sP i1) = 0 then 0
  else if (f_X2_hasServant sP i2) = 0 then 0
  else 1
set_option maxHeartbeats 4000000 in
set_option maxRecDepth 100000 in
theorem c_X2_hasBoth (l : Launch) (k : K_X) (ap : Nat → Nat) (sP : Nat → Nat → Int32) (i1 : Int32) (i2 : Int32) : k_C l yX2_hasBoth wsX2_hasBoth (k_rm 1 21) k [.ref (ap 0), .int i1, .int i2] (w_P k ap sP) (k_qI k (f_X2_hasBoth sP i1 i2) (w_P k ap sP)) := by
  refine k_mk (cc := cX2_hasBoth) (maxL := 3) (ret := (some .boolean)) (by decide) rfl (Nat.le_of_ble_eq_true rfl) ?_
  intro p e s m below meth c A ls C0 hP hD hS hl
  obtain ⟨hx, hb, hr, hts, hown, hlocks, hml, hA, hK⟩ := id C0
  have hown : s.vm.findClass RX2 = some m.cls := hown
  have hl : lv_has ls 3 [(0, .ref (ap 0)), (1, .int i1), (2, .int i2)] := hl
  refine lv_aload_n hx hb dX2_hasBoth_0 rfl (lv_at hl 0 rfl) ?_
  refine lv_iload_n hx hb dX2_hasBoth_1 rfl (lv_at hl 1 rfl) ?_
  refine k_Vi (wr := ([] : va_W)) (ws' := w_P k ap sP) (Rv := (f_X2_hasMaster sP i1)) (rest := []) ⟨hx, hb, hml, hown, hts⟩ hK hA hP hD hS (c_X2_hasMaster l k ap sP i1) (cwV 1 hts gX2_hasBoth_X2_hasMaster rfl rfl rfl (by decide +kernel) ⟨Nat.le_of_ble_eq_true rfl, Nat.le_of_ble_eq_true rfl⟩) (va_recv hK hP (ci := 2) (q0 := 0) rfl rfl) rfl hl.1 rfl (Nat.le_of_ble_eq_true rfl) dX2_hasBoth_2 (Nat.zero_le _) (Nat.zero_le _) [0, 1, 2, 3, 4, 5, 6, 7, 8, 9, 10, 11, 12, 13, 14, 15, 16, 17] [] [0, 1, 2, 3, 4, 5, 6, 7, 8, 9, 10, 11, 12, 13, 14, 15, 16, 17] rfl rfl rfl (by decide) rfl rfl rfl (fun H locs hP hD hS => ?_)
  refine lv_if_eq (tgt := 20) hx hb dX2_hasBoth_5 (by decide) (fun c_1 => ?_) (fun c_1 => ?_)
  ·
    refine lv_iconst (v := 0) hx hb dX2_hasBoth_20 (by decide) ?_
    have ef : f_X2_hasBoth sP i1 i2 = 0 := by
      rw [f_X2_hasBoth, if_pos c_1]
    exact k_retz hx hb hr (by decide) hK hP hD hS hlocks dX2_hasBoth_21 (by rw [ef])
  ·
    refine lv_aload_n hx hb dX2_hasBoth_8 rfl (lv_at hl 0 rfl) ?_
    refine lv_iload_n hx hb dX2_hasBoth_9 rfl (lv_at hl 2 rfl) ?_
    refine k_Vi (wr := ([] : va_W)) (ws' := w_P k ap sP) (Rv := (f_X2_hasServant sP i2)) (rest := []) ⟨hx, hb, hml, hown, hts⟩ hK hA hP hD hS (c_X2_hasServant l k ap sP i2) (cwV 1 hts gX2_hasBoth_X2_hasServant rfl rfl rfl (by decide +kernel) ⟨Nat.le_of_ble_eq_true rfl, Nat.le_of_ble_eq_true rfl⟩) (va_recv hK hP (ci := 2) (q0 := 0) rfl rfl) rfl hl.1 rfl (Nat.le_of_ble_eq_true rfl) dX2_hasBoth_10 (Nat.zero_le _) (Nat.zero_le _) [0, 1, 2, 3, 4, 5, 6, 7, 8, 9, 10, 11, 12, 13, 14, 15, 16, 17] [] [0, 1, 2, 3, 4, 5, 6, 7, 8, 9, 10, 11, 12, 13, 14, 15, 16, 17] rfl rfl rfl (by decide) rfl rfl rfl (fun H locs hP hD hS => ?_)
    refine lv_if_eq (tgt := 20) hx hb dX2_hasBoth_13 (by decide) (fun c_2 => ?_) (fun c_2 => ?_)
    ·
      refine lv_iconst (v := 0) hx hb dX2_hasBoth_20 (by decide) ?_
      have ef : f_X2_hasBoth sP i1 i2 = 0 := by
        rw [f_X2_hasBoth, if_neg c_1, if_pos c_2]
      exact k_retz hx hb hr (by decide) hK hP hD hS hlocks dX2_hasBoth_21 (by rw [ef])
    ·
      refine lv_iconst (v := 1) hx hb dX2_hasBoth_16 (by decide) ?_
      refine lv_goto (tgt := 21) hx hb dX2_hasBoth_17 (by decide) ?_
      have ef : f_X2_hasBoth sP i1 i2 = 1 := by
        rw [f_X2_hasBoth, if_neg c_1, if_neg c_2]
      exact k_retz hx hb hr (by decide) hK hP hD hS hlocks dX2_hasBoth_21 (by rw [ef])
theorem in_X2_isBarred_X2 : ∀ w ∈ wsX20, w ∈ wsX2_isBarred := fun _ h => List.mem_cons_of_mem _ (List.mem_append_right _ h)
def f_X2_isBarred (sP : Nat → Nat → Int32) (i1 : Int32) (i2 : Int32) : Int32 :=
  if (((sP 7) i1.toNatClampNeg) &&& ((1 : Int32) <<< (i2 &&& 31))) = 0 then 0
  else 1
set_option maxHeartbeats 4000000 in
set_option maxRecDepth 100000 in
theorem c_X2_isBarred (l : Launch) (k : K_X) (ap : Nat → Nat) (sP : Nat → Nat → Int32) (i1 : Int32) (i2 : Int32) (h1 : vp_in i1 10) : k_C l yX2_isBarred wsX2_isBarred (k_rm 0 0) k [.ref (ap 0), .int i1, .int i2] (w_P k ap sP) (k_qI k (f_X2_isBarred sP i1 i2) (w_P k ap sP)) := by
  refine k_mk (cc := cX2_isBarred) (maxL := 3) (ret := (some .boolean)) (by decide) rfl (Nat.le_of_ble_eq_true rfl) ?_
  intro p e s m below meth c A ls C0 hP hD hS hl
  obtain ⟨hx, hb, hr, hts, hown, hlocks, hml, hA, hK⟩ := id C0
  have hown : s.vm.findClass RX2 = some m.cls := hown
  have hl : lv_has ls 3 [(0, .ref (ap 0)), (1, .int i1), (2, .int i2)] := hl
  refine lv_aload_n hx hb dX2_isBarred_0 rfl (lv_at hl 0 rfl) ?_
  refine va_get (D := k.1) (ci := 2) (v := .ref (ap 7)) (C := RX2) (T := TX2) (N := 9) hx hb hts in_X2_isBarred_X2 hown hK hP 0 rfl rfl 8 (by decide) (k_w hts 1 rfl) (fun _ h9 => h9) rfl dX2_isBarred_1 ?_
  refine lv_iload_n hx hb dX2_isBarred_4 rfl (lv_at hl 1 rfl) ?_
  refine va_iald (f := sP 7) hx hb hK hP 7 0 rfl rfl (by assumption) dX2_isBarred_5 ?_
  refine lv_iconst (v := 1) hx hb dX2_isBarred_6 (by decide) ?_
  refine lv_iload_n hx hb dX2_isBarred_7 rfl (lv_at hl 2 rfl) ?_
  refine lv_ishl hx hb dX2_isBarred_8 ?_
  refine lv_iand hx hb dX2_isBarred_9 ?_
  refine lv_if_eq (tgt := 17) hx hb dX2_isBarred_10 (by decide) (fun c_1 => ?_) (fun c_1 => ?_)
  ·
    refine lv_iconst (v := 0) hx hb dX2_isBarred_17 (by decide) ?_
    have ef : f_X2_isBarred sP i1 i2 = 0 := by
      rw [f_X2_isBarred, if_pos c_1]
    exact k_retz hx hb hr (by decide) hK hP hD hS hlocks dX2_isBarred_18 (by rw [ef])
  ·
    refine lv_iconst (v := 1) hx hb dX2_isBarred_13 (by decide) ?_
    refine lv_goto (tgt := 18) hx hb dX2_isBarred_14 (by decide) ?_
    have ef : f_X2_isBarred sP i1 i2 = 1 := by
      rw [f_X2_isBarred, if_neg c_1]
    exact k_retz hx hb hr (by decide) hK hP hD hS hlocks dX2_isBarred_18 (by rw [ef])
theorem in_X2_setBar_X2 : ∀ w ∈ wsX20, w ∈ wsX2_setBar := fun _ h => List.mem_cons_of_mem _ (List.mem_append_right _ h)
def f_X2_setBar (sP : Nat → Nat → Int32) (i1 : Int32) (i2 : Int32) (i3 : Int32) : (Nat → Nat → Int32) :=
  if i3 = 0 then k_st sP 7 (upd (sP 7) i1.toNatClampNeg (((sP 7) i1.toNatClampNeg) &&& (((1 : Int32) <<< (i2 &&& 31)) ^^^ (-1))))
  else k_st sP 7 (upd (sP 7) i1.toNatClampNeg (((sP 7) i1.toNatClampNeg) ||| ((1 : Int32) <<< (i2 &&& 31))))
set_option maxHeartbeats 4000000 in
set_option maxRecDepth 100000 in
theorem c_X2_setBar (l : Launch) (k : K_X) (ap : Nat → Nat) (sP : Nat → Nat → Int32) (i1 : Int32) (i2 : Int32) (i3 : Int32) (h1 : vp_in i1 10) : k_C l yX2_setBar wsX2_setBar (k_rm 0 0) k [.ref (ap 0), .int i1, .int i2, .int i3] (w_P k ap sP) (k_qV k (w_P k ap (f_X2_setBar sP i1 i2 i3))) := by
  refine k_mk (cc := cX2_setBar) (maxL := 4) (ret := none) (by decide) rfl (Nat.le_of_ble_eq_true rfl) ?_
  intro p e s m below meth c A ls C0 hP hD hS hl
  obtain ⟨hx, hb, hr, hts, hown, hlocks, hml, hA, hK⟩ := id C0
  have hown : s.vm.findClass RX2 = some m.cls := hown
  have hl : lv_has ls 4 [(0, .ref (ap 0)), (1, .int i1), (2, .int i2), (3, .int i3)] := hl
  refine lv_iload_n hx hb dX2_setBar_0 rfl (lv_at hl 3 rfl) ?_
  refine lv_if_eq (tgt := 19) hx hb dX2_setBar_1 (by decide) (fun c_1 => ?_) (fun c_1 => ?_)
  ·
    refine lv_aload_n hx hb dX2_setBar_19 rfl (lv_at hl 0 rfl) ?_
    refine va_get (D := k.1) (ci := 2) (v := .ref (ap 7)) (C := RX2) (T := TX2) (N := 9) hx hb hts in_X2_setBar_X2 hown hK hP 0 rfl rfl 8 (by decide) (k_w hts 1 rfl) (fun _ h9 => h9) rfl dX2_setBar_20 ?_
    refine lv_iload_n hx hb dX2_setBar_23 rfl (lv_at hl 1 rfl) ?_
    refine lv_dup2_11 hx hb dX2_setBar_24 rfl rfl ?_
    refine va_iald (f := sP 7) hx hb hK hP 7 0 rfl rfl (by assumption) dX2_setBar_25 ?_
    refine lv_iconst (v := 1) hx hb dX2_setBar_26 (by decide) ?_
    refine lv_iload_n hx hb dX2_setBar_27 rfl (lv_at hl 2 rfl) ?_
    refine lv_ishl hx hb dX2_setBar_28 ?_
    refine lv_iconst (v := (-1)) hx hb dX2_setBar_29 (by decide) ?_
    refine lv_ixor hx hb dX2_setBar_30 ?_
    refine lv_iand hx hb dX2_setBar_31 ?_
    refine va_iast (f := sP 7) hx hb hK hP hD hS 7 0 rfl rfl (by assumption) dX2_setBar_32 (fun H locs hP hD hS => ?_)
    have hP := k_cP (w_P_7 k ap sP (upd (sP 7) i1.toNatClampNeg (((sP 7) i1.toNatClampNeg) &&& (((1 : Int32) <<< (i2 &&& 31)) ^^^ (-1))))) hP
    have hD := k_cD (w_P_7 k ap sP (upd (sP 7) i1.toNatClampNeg (((sP 7) i1.toNatClampNeg) &&& (((1 : Int32) <<< (i2 &&& 31)) ^^^ (-1))))) hD
    have ef : f_X2_setBar sP i1 i2 i3 = k_st sP 7 (upd (sP 7) i1.toNatClampNeg (((sP 7) i1.toNatClampNeg) &&& (((1 : Int32) <<< (i2 &&& 31)) ^^^ (-1)))) := by
      rw [f_X2_setBar, if_pos c_1]
    exact k_retv hx hb hr hK (by rw [ef]; exact hP) (by rw [ef]; exact hD) hS hlocks dX2_setBar_33
  ·
    refine lv_aload_n hx hb dX2_setBar_4 rfl (lv_at hl 0 rfl) ?_
    refine va_get (D := k.1) (ci := 2) (v := .ref (ap 7)) (C := RX2) (T := TX2) (N := 9) hx hb hts in_X2_setBar_X2 hown hK hP 0 rfl rfl 8 (by decide) (k_w hts 1 rfl) (fun _ h9 => h9) rfl dX2_setBar_5 ?_
    refine lv_iload_n hx hb dX2_setBar_8 rfl (lv_at hl 1 rfl) ?_
    refine lv_dup2_11 hx hb dX2_setBar_9 rfl rfl ?_
    refine va_iald (f := sP 7) hx hb hK hP 7 0 rfl rfl (by assumption) dX2_setBar_10 ?_
    refine lv_iconst (v := 1) hx hb dX2_setBar_11 (by decide) ?_
    refine lv_iload_n hx hb dX2_setBar_12 rfl (lv_at hl 2 rfl) ?_
    refine lv_ishl hx hb dX2_setBar_13 ?_
    refine lv_ior hx hb dX2_setBar_14 ?_
    refine va_iast (f := sP 7) hx hb hK hP hD hS 7 0 rfl rfl (by assumption) dX2_setBar_15 (fun H locs hP hD hS => ?_)
    have hP := k_cP (w_P_7 k ap sP (upd (sP 7) i1.toNatClampNeg (((sP 7) i1.toNatClampNeg) ||| ((1 : Int32) <<< (i2 &&& 31))))) hP
    have hD := k_cD (w_P_7 k ap sP (upd (sP 7) i1.toNatClampNeg (((sP 7) i1.toNatClampNeg) ||| ((1 : Int32) <<< (i2 &&& 31))))) hD
    refine lv_goto (tgt := 33) hx hb dX2_setBar_16 (by decide) ?_
    have ef : f_X2_setBar sP i1 i2 i3 = k_st sP 7 (upd (sP 7) i1.toNatClampNeg (((sP 7) i1.toNatClampNeg) ||| ((1 : Int32) <<< (i2 &&& 31)))) := by
      rw [f_X2_setBar, if_neg c_1]
    exact k_retv hx hb hr hK (by rw [ef]; exact hP) (by rw [ef]; exact hD) hS hlocks dX2_setBar_33
theorem in_X2_tell_X2 : ∀ w ∈ wsX20, w ∈ wsX2_tell := fun _ h => List.mem_cons_of_mem _ (List.mem_append_right _ h)
def f_X2_tell (sP : Nat → Nat → Int32) (i1 : Int32) (i2 : Int32) (i3 : Int32) : (Nat → Nat → Int32) :=
  k_st sP (8 + i1.toNatClampNeg) (upd (sP (8 + i1.toNatClampNeg)) i2.toNatClampNeg i3)
set_option maxHeartbeats 4000000 in
set_option maxRecDepth 100000 in
theorem c_X2_tell (l : Launch) (k : K_X) (ap : Nat → Nat) (sP : Nat → Nat → Int32) (i1 : Int32) (i2 : Int32) (i3 : Int32) (h1 : vp_in i1 10) (h2 : vp_in i2 10) : k_C l yX2_tell wsX2_tell (k_rm 0 0) k [.ref (ap 0), .int i1, .int i2, .int i3] (w_P k ap sP) (k_qV k (w_P k ap (f_X2_tell sP i1 i2 i3))) := by
  refine k_mk (cc := cX2_tell) (maxL := 4) (ret := none) (by decide) rfl (Nat.le_of_ble_eq_true rfl) ?_
  intro p e s m below meth c A ls C0 hP hD hS hl
  obtain ⟨hx, hb, hr, hts, hown, hlocks, hml, hA, hK⟩ := id C0
  have hown : s.vm.findClass RX2 = some m.cls := hown
  have hl : lv_has ls 4 [(0, .ref (ap 0)), (1, .int i1), (2, .int i2), (3, .int i3)] := hl
  refine lv_aload_n hx hb dX2_tell_0 rfl (lv_at hl 0 rfl) ?_
  refine va_get (D := k.1) (ci := 2) (v := .ref (ap 6)) (C := RX2) (T := TX2) (N := 9) hx hb hts in_X2_tell_X2 hown hK hP 0 rfl rfl 7 (by decide) (k_w hts 1 rfl) (fun _ h9 => h9) rfl dX2_tell_1 ?_
  refine lv_iload_n hx hb dX2_tell_4 rfl (lv_at hl 1 rfl) ?_
  refine k_aald hx hb hK hP 6 rfl (by assumption) (k_outer (k_lt (by assumption))) dX2_tell_5 ?_
  refine lv_iload_n hx hb dX2_tell_6 rfl (lv_at hl 2 rfl) ?_
  refine lv_iload_n hx hb dX2_tell_7 rfl (lv_at hl 3 rfl) ?_
  refine va_iast hx hb hK hP hD hS (8 + i1.toNatClampNeg) 0 (w_P_row k ap sP (k_lt h1)) rfl (by assumption) dX2_tell_8 (fun H locs hP hD hS => ?_)
  have hP := k_cP (w_P_rowset k ap sP (k_lt h1) (upd (sP (8 + i1.toNatClampNeg)) i2.toNatClampNeg i3)) hP
  have hD := k_cD (w_P_rowset k ap sP (k_lt h1) (upd (sP (8 + i1.toNatClampNeg)) i2.toNatClampNeg i3)) hD
  have ef : f_X2_tell sP i1 i2 i3 = k_st sP (8 + i1.toNatClampNeg) (upd (sP (8 + i1.toNatClampNeg)) i2.toNatClampNeg i3) := by
    rw [f_X2_tell]
  exact k_retv hx hb hr hK (by rw [ef]; exact hP) (by rw [ef]; exact hD) hS hlocks dX2_tell_9
theorem in_X2_hasHeard_X2 : ∀ w ∈ wsX20, w ∈ wsX2_hasHeard := fun _ h => List.mem_cons_of_mem _ (List.mem_append_right _ h)
def f_X2_hasHeard (sP : Nat → Nat → Int32) (i1 : Int32) (i2 : Int32) : Int32 :=
  if (sP (8 + i1.toNatClampNeg) i2.toNatClampNeg) = 0 then 0
  else 1
set_option maxHeartbeats 4000000 in
set_option maxRecDepth 100000 in
theorem c_X2_hasHeard (l : Launch) (k : K_X) (ap : Nat → Nat) (sP : Nat → Nat → Int32) (i1 : Int32) (i2 : Int32) (h1 : vp_in i1 10) (h2 : vp_in i2 10) : k_C l yX2_hasHeard wsX2_hasHeard (k_rm 0 0) k [.ref (ap 0), .int i1, .int i2] (w_P k ap sP) (k_qI k (f_X2_hasHeard sP i1 i2) (w_P k ap sP)) := by
  refine k_mk (cc := cX2_hasHeard) (maxL := 3) (ret := (some .boolean)) (by decide) rfl (Nat.le_of_ble_eq_true rfl) ?_
  intro p e s m below meth c A ls C0 hP hD hS hl
  obtain ⟨hx, hb, hr, hts, hown, hlocks, hml, hA, hK⟩ := id C0
  have hown : s.vm.findClass RX2 = some m.cls := hown
  have hl : lv_has ls 3 [(0, .ref (ap 0)), (1, .int i1), (2, .int i2)] := hl
  refine lv_aload_n hx hb dX2_hasHeard_0 rfl (lv_at hl 0 rfl) ?_
  refine va_get (D := k.1) (ci := 2) (v := .ref (ap 6)) (C := RX2) (T := TX2) (N := 9) hx hb hts in_X2_hasHeard_X2 hown hK hP 0 rfl rfl 7 (by decide) (k_w hts 1 rfl) (fun _ h9 => h9) rfl dX2_hasHeard_1 ?_
  refine lv_iload_n hx hb dX2_hasHeard_4 rfl (lv_at hl 1 rfl) ?_
  refine k_aald hx hb hK hP 6 rfl (by assumption) (k_outer (k_lt (by assumption))) dX2_hasHeard_5 ?_
  refine lv_iload_n hx hb dX2_hasHeard_6 rfl (lv_at hl 2 rfl) ?_
  refine va_iald hx hb hK hP (8 + i1.toNatClampNeg) 0 (w_P_row k ap sP (k_lt h1)) rfl (by assumption) dX2_hasHeard_7 ?_
  refine lv_if_eq (tgt := 15) hx hb dX2_hasHeard_8 (by decide) (fun c_1 => ?_) (fun c_1 => ?_)
  ·
    refine lv_iconst (v := 0) hx hb dX2_hasHeard_15 (by decide) ?_
    have ef : f_X2_hasHeard sP i1 i2 = 0 := by
      rw [f_X2_hasHeard, if_pos c_1]
    exact k_retz hx hb hr (by decide) hK hP hD hS hlocks dX2_hasHeard_16 (by rw [ef])
  ·
    refine lv_iconst (v := 1) hx hb dX2_hasHeard_11 (by decide) ?_
    refine lv_goto (tgt := 16) hx hb dX2_hasHeard_12 (by decide) ?_
    have ef : f_X2_hasHeard sP i1 i2 = 1 := by
      rw [f_X2_hasHeard, if_neg c_1]
    exact k_retz hx hb hr (by decide) hK hP hD hS hlocks dX2_hasHeard_16 (by rw [ef])
theorem in_X2_heldFor_X2 : ∀ w ∈ wsX20, w ∈ wsX2_heldFor := fun _ h => List.mem_cons_of_mem _ (List.mem_append_right _ h)
def f_X2_heldFor (sP : Nat → Nat → Int32) (i1 : Int32) (i2 : Int32) : Int32 :=
  if (sP (8 + i1.toNatClampNeg) i2.toNatClampNeg) = 0 then 5
  else sP (8 + i1.toNatClampNeg) i2.toNatClampNeg
set_option maxHeartbeats 4000000 in
set_option maxRecDepth 100000 in
theorem c_X2_heldFor (l : Launch) (k : K_X) (ap : Nat → Nat) (sP : Nat → Nat → Int32) (i1 : Int32) (i2 : Int32) (h1 : vp_in i1 10) (h2 : vp_in i2 10) : k_C l yX2_heldFor wsX2_heldFor (k_rm 0 0) k [.ref (ap 0), .int i1, .int i2] (w_P k ap sP) (k_qI k (f_X2_heldFor sP i1 i2) (w_P k ap sP)) := by
  refine k_mk (cc := cX2_heldFor) (maxL := 4) (ret := (some .int)) (by decide) rfl (Nat.le_of_ble_eq_true rfl) ?_
  intro p e s m below meth c A ls C0 hP hD hS hl
  obtain ⟨hx, hb, hr, hts, hown, hlocks, hml, hA, hK⟩ := id C0
  have hown : s.vm.findClass RX2 = some m.cls := hown
  have hl : lv_has ls 4 [(0, .ref (ap 0)), (1, .int i1), (2, .int i2)] := hl
  refine lv_aload_n hx hb dX2_heldFor_0 rfl (lv_at hl 0 rfl) ?_
  refine va_get (D := k.1) (ci := 2) (v := .ref (ap 6)) (C := RX2) (T := TX2) (N := 9) hx hb hts in_X2_heldFor_X2 hown hK hP 0 rfl rfl 7 (by decide) (k_w hts 1 rfl) (fun _ h9 => h9) rfl dX2_heldFor_1 ?_
  refine lv_iload_n hx hb dX2_heldFor_4 rfl (lv_at hl 1 rfl) ?_
  refine k_aald hx hb hK hP 6 rfl (by assumption) (k_outer (k_lt (by assumption))) dX2_heldFor_5 ?_
  refine lv_iload_n hx hb dX2_heldFor_6 rfl (lv_at hl 2 rfl) ?_
  refine va_iald hx hb hK hP (8 + i1.toNatClampNeg) 0 (w_P_row k ap sP (k_lt h1)) rfl (by assumption) dX2_heldFor_7 ?_
  refine lv_istore_n (lv' := [(3, .int (sP (8 + i1.toNatClampNeg) i2.toNatClampNeg)), (0, .ref (ap 0)), (1, .int i1), (2, .int i2)]) hx hb dX2_heldFor_8 rfl hl (by decide) rfl (fun ls hl => ?_)
  refine lv_iload_n hx hb dX2_heldFor_9 rfl (lv_at hl 0 rfl) ?_
  refine lv_if_ne (tgt := 17) hx hb dX2_heldFor_10 (by decide) (fun c_1 => ?_) (fun c_1 => ?_)
  ·
    refine lv_iload_n hx hb dX2_heldFor_17 rfl (lv_at hl 0 rfl) ?_
    have ef : f_X2_heldFor sP i1 i2 = sP (8 + i1.toNatClampNeg) i2.toNatClampNeg := by
      rw [f_X2_heldFor, if_neg c_1]
    exact k_reti hx hb hr hK hP hD hS hlocks dX2_heldFor_18 (by rw [ef])
  ·
    refine lv_iconst (v := 5) hx hb dX2_heldFor_13 (by decide) ?_
    refine lv_goto (tgt := 18) hx hb dX2_heldFor_14 (by decide) ?_
    have ef : f_X2_heldFor sP i1 i2 = 5 := by
      rw [f_X2_heldFor, if_pos c_1]
    exact k_reti hx hb hr hK hP hD hS hlocks dX2_heldFor_18 (by rw [ef])
theorem in_X2_offerTo_X2 : ∀ w ∈ wsX20, w ∈ wsX2_offerTo := fun _ h => List.mem_cons_of_mem _ (List.mem_append_right _ h)
def f_X2_offerTo (sP : Nat → Nat → Int32) (i1 : Int32) (i2 : Int32) : Int32 :=
  if ((sP 4) i1.toNatClampNeg) = ((sP 1) i2.toNatClampNeg) then (if (f_X2_isBarred sP i1 i2) = 0 then (if ((sP 3) i2.toNatClampNeg) ≤ (((sP 5) i1.toNatClampNeg) - (3 * (9 - (f_X2_heldFor sP i1 i2)))) then ((((sP 5) i1.toNatClampNeg) - (3 * (9 - (f_X2_heldFor sP i1 i2)))) + ((sP 3) i2.toNatClampNeg)) / 2
      else -9)
    else -9)
  else -9
set_option maxHeartbeats 4000000 in
set_option maxRecDepth 100000 in
theorem c_X2_offerTo (l : Launch) (k : K_X) (ap : Nat → Nat) (sP : Nat → Nat → Int32) (i1 : Int32) (i2 : Int32) (h1 : vp_in i1 10) (h2 : vp_in i2 10) : k_C l yX2_offerTo wsX2_offerTo (k_rm 1 23) k [.ref (ap 0), .int i1, .int i2] (w_P k ap sP) (k_qI k (f_X2_offerTo sP i1 i2) (w_P k ap sP)) := by
  refine k_mk (cc := cX2_offerTo) (maxL := 4) (ret := (some .int)) (by decide) rfl (Nat.le_of_ble_eq_true rfl) ?_
  intro p e s m below meth c A ls C0 hP hD hS hl
  obtain ⟨hx, hb, hr, hts, hown, hlocks, hml, hA, hK⟩ := id C0
  have hown : s.vm.findClass RX2 = some m.cls := hown
  have hl : lv_has ls 4 [(0, .ref (ap 0)), (1, .int i1), (2, .int i2)] := hl
  refine lv_aload_n hx hb dX2_offerTo_0 rfl (lv_at hl 0 rfl) ?_
  refine va_get (D := k.1) (ci := 2) (v := .ref (ap 4)) (C := RX2) (T := TX2) (N := 9) hx hb hts in_X2_offerTo_X2 hown hK hP 0 rfl rfl 5 (by decide) (k_w hts 1 rfl) (fun _ h9 => h9) rfl dX2_offerTo_1 ?_
  refine lv_iload_n hx hb dX2_offerTo_4 rfl (lv_at hl 1 rfl) ?_
  refine va_iald (f := sP 4) hx hb hK hP 4 0 rfl rfl (by assumption) dX2_offerTo_5 ?_
  refine lv_aload_n hx hb dX2_offerTo_6 rfl (lv_at hl 0 rfl) ?_
  refine va_get (D := k.1) (ci := 2) (v := .ref (ap 1)) (C := RX2) (T := TX2) (N := 9) hx hb hts in_X2_offerTo_X2 hown hK hP 0 rfl rfl 1 (by decide) (k_w hts 2 rfl) (fun _ h9 => h9) rfl dX2_offerTo_7 ?_
  refine lv_iload_n hx hb dX2_offerTo_10 rfl (lv_at hl 2 rfl) ?_
  refine va_iald (f := sP 1) hx hb hK hP 1 0 rfl rfl (by assumption) dX2_offerTo_11 ?_
  refine lv_icmp_ne (tgt := 24) hx hb dX2_offerTo_12 (by decide) (fun c_1 => ?_) (fun c_1 => ?_)
  ·
    refine lv_bipush (v := (-9)) hx hb dX2_offerTo_24 (by decide) ?_
    have ef : f_X2_offerTo sP i1 i2 = -9 := by
      rw [f_X2_offerTo, if_neg c_1]
    exact k_reti hx hb hr hK hP hD hS hlocks dX2_offerTo_26 (by rw [ef])
  ·
    refine lv_aload_n hx hb dX2_offerTo_15 rfl (lv_at hl 0 rfl) ?_
    refine lv_iload_n hx hb dX2_offerTo_16 rfl (lv_at hl 1 rfl) ?_
    refine lv_iload_n hx hb dX2_offerTo_17 rfl (lv_at hl 2 rfl) ?_
    refine k_Vi (wr := ([] : va_W)) (ws' := w_P k ap sP) (Rv := (f_X2_isBarred sP i1 i2)) (rest := []) ⟨hx, hb, hml, hown, hts⟩ hK hA hP hD hS (c_X2_isBarred l k ap sP i1 i2 (by assumption)) (cwV 2 hts gX2_offerTo_X2_isBarred rfl rfl rfl (by decide +kernel) ⟨Nat.le_of_ble_eq_true rfl, Nat.le_of_ble_eq_true rfl⟩) (va_recv hK hP (ci := 2) (q0 := 0) rfl rfl) rfl hl.1 rfl (Nat.le_of_ble_eq_true rfl) dX2_offerTo_18 (Nat.zero_le _) (Nat.zero_le _) [0, 1, 2, 3, 4, 5, 6, 7, 8, 9, 10, 11, 12, 13, 14, 15, 16, 17] [] [0, 1, 2, 3, 4, 5, 6, 7, 8, 9, 10, 11, 12, 13, 14, 15, 16, 17] rfl rfl rfl (by decide) rfl rfl rfl (fun H locs hP hD hS => ?_)
    refine lv_if_eq (tgt := 27) hx hb dX2_offerTo_21 (by decide) (fun c_2 => ?_) (fun c_2 => ?_)
    ·
      refine lv_aload_n hx hb dX2_offerTo_27 rfl (lv_at hl 0 rfl) ?_
      refine va_get (D := k.1) (ci := 2) (v := .ref (ap 5)) (C := RX2) (T := TX2) (N := 9) hx hb hts in_X2_offerTo_X2 hown hK hP 0 rfl rfl 6 (by decide) (k_w hts 3 rfl) (fun _ h9 => h9) rfl dX2_offerTo_28 ?_
      refine lv_iload_n hx hb dX2_offerTo_31 rfl (lv_at hl 1 rfl) ?_
      refine va_iald (f := sP 5) hx hb hK hP 5 0 rfl rfl (by assumption) dX2_offerTo_32 ?_
      refine lv_iconst (v := 3) hx hb dX2_offerTo_33 (by decide) ?_
      refine lv_bipush (v := 9) hx hb dX2_offerTo_34 (by decide) ?_
      refine lv_aload_n hx hb dX2_offerTo_36 rfl (lv_at hl 0 rfl) ?_
      refine lv_iload_n hx hb dX2_offerTo_37 rfl (lv_at hl 1 rfl) ?_
      refine lv_iload_n hx hb dX2_offerTo_38 rfl (lv_at hl 2 rfl) ?_
      refine k_Vi (wr := ([] : va_W)) (ws' := w_P k ap sP) (Rv := (f_X2_heldFor sP i1 i2)) (rest := [.int 9, .int 3, .int ((sP 5) i1.toNatClampNeg)]) ⟨hx, hb, hml, hown, hts⟩ hK hA hP hD hS (c_X2_heldFor l k ap sP i1 i2 (by assumption) (by assumption)) (cwV 2 hts gX2_offerTo_X2_heldFor rfl rfl rfl (by decide +kernel) ⟨Nat.le_of_ble_eq_true rfl, Nat.le_of_ble_eq_true rfl⟩) (va_recv hK hP (ci := 2) (q0 := 0) rfl rfl) rfl hl.1 rfl (Nat.le_of_ble_eq_true rfl) dX2_offerTo_39 (Nat.zero_le _) (Nat.zero_le _) [0, 1, 2, 3, 4, 5, 6, 7, 8, 9, 10, 11, 12, 13, 14, 15, 16, 17] [] [0, 1, 2, 3, 4, 5, 6, 7, 8, 9, 10, 11, 12, 13, 14, 15, 16, 17] rfl rfl rfl (by decide) rfl rfl rfl (fun H locs hP hD hS => ?_)
      refine lv_isub hx hb dX2_offerTo_42 ?_
      refine lv_imul hx hb dX2_offerTo_43 ?_
      refine lv_isub hx hb dX2_offerTo_44 ?_
      refine lv_istore_n (lv' := [(3, .int (((sP 5) i1.toNatClampNeg) - (3 * (9 - (f_X2_heldFor sP i1 i2))))), (0, .ref (ap 0)), (1, .int i1), (2, .int i2)]) hx hb dX2_offerTo_45 rfl hl (by decide) rfl (fun ls hl => ?_)
      refine lv_iload_n hx hb dX2_offerTo_46 rfl (lv_at hl 0 rfl) ?_
      refine lv_aload_n hx hb dX2_offerTo_47 rfl (lv_at hl 1 rfl) ?_
      refine va_get (D := k.1) (ci := 2) (v := .ref (ap 3)) (C := RX2) (T := TX2) (N := 9) hx hb hts in_X2_offerTo_X2 hown hK hP 0 rfl rfl 3 (by decide) (k_w hts 4 rfl) (fun _ h9 => h9) rfl dX2_offerTo_48 ?_
      refine lv_iload_n hx hb dX2_offerTo_51 rfl (lv_at hl 3 rfl) ?_
      refine va_iald (f := sP 3) hx hb hK hP 3 0 rfl rfl (by assumption) dX2_offerTo_52 ?_
      refine lv_icmp_ge (tgt := 61) hx hb dX2_offerTo_53 (by decide) (fun c_3 => ?_) (fun c_3 => ?_)
      ·
        refine lv_iload_n hx hb dX2_offerTo_61 rfl (lv_at hl 0 rfl) ?_
        refine lv_aload_n hx hb dX2_offerTo_62 rfl (lv_at hl 1 rfl) ?_
        refine va_get (D := k.1) (ci := 2) (v := .ref (ap 3)) (C := RX2) (T := TX2) (N := 9) hx hb hts in_X2_offerTo_X2 hown hK hP 0 rfl rfl 3 (by decide) (k_w hts 4 rfl) (fun _ h9 => h9) rfl dX2_offerTo_63 ?_
        refine lv_iload_n hx hb dX2_offerTo_66 rfl (lv_at hl 3 rfl) ?_
        refine va_iald (f := sP 3) hx hb hK hP 3 0 rfl rfl (by assumption) dX2_offerTo_67 ?_
        refine lv_iadd hx hb dX2_offerTo_68 ?_
        refine lv_iconst (v := 2) hx hb dX2_offerTo_69 (by decide) ?_
        refine lv_idiv hx hb dX2_offerTo_70 (by decide) ?_
        have ef : f_X2_offerTo sP i1 i2 = ((((sP 5) i1.toNatClampNeg) - (3 * (9 - (f_X2_heldFor sP i1 i2)))) + ((sP 3) i2.toNatClampNeg)) / 2 := by
          rw [f_X2_offerTo, if_pos c_1, if_pos c_2, if_pos c_3]
        exact k_reti hx hb hr hK hP hD hS hlocks dX2_offerTo_71 (by rw [ef])
      ·
        refine lv_bipush (v := (-9)) hx hb dX2_offerTo_56 (by decide) ?_
        refine lv_goto (tgt := 71) hx hb dX2_offerTo_58 (by decide) ?_
        have ef : f_X2_offerTo sP i1 i2 = -9 := by
          rw [f_X2_offerTo, if_pos c_1, if_pos c_2, if_neg c_3]
        exact k_reti hx hb hr hK hP hD hS hlocks dX2_offerTo_71 (by rw [ef])
    ·
      refine lv_bipush (v := (-9)) hx hb dX2_offerTo_24 (by decide) ?_
      have ef : f_X2_offerTo sP i1 i2 = -9 := by
        rw [f_X2_offerTo, if_pos c_1, if_neg c_2]
      exact k_reti hx hb hr hK hP hD hS hlocks dX2_offerTo_26 (by rw [ef])
theorem in_X2_likingAt_X2 : ∀ w ∈ wsX20, w ∈ wsX2_likingAt := fun _ h => List.mem_cons_of_mem _ (List.mem_append_right _ h)
def f_X2_likingAt (sP : Nat → Nat → Int32) (i1 : Int32) (i2 : Int32) (i3 : Int32) : Int32 :=
  (10 * (f_X2_heldFor sP i1 i2)) - i3
set_option maxHeartbeats 4000000 in
set_option maxRecDepth 100000 in
theorem c_X2_likingAt (l : Launch) (k : K_X) (ap : Nat → Nat) (sP : Nat → Nat → Int32) (i1 : Int32) (i2 : Int32) (i3 : Int32) (h1 : vp_in i1 10) (h2 : vp_in i2 10) : k_C l yX2_likingAt wsX2_likingAt (k_rm 1 23) k [.ref (ap 0), .int i1, .int i2, .int i3] (w_P k ap sP) (k_qI k (f_X2_likingAt sP i1 i2 i3) (w_P k ap sP)) := by
  refine k_mk (cc := cX2_likingAt) (maxL := 4) (ret := (some .int)) (by decide) rfl (Nat.le_of_ble_eq_true rfl) ?_
  intro p e s m below meth c A ls C0 hP hD hS hl
  obtain ⟨hx, hb, hr, hts, hown, hlocks, hml, hA, hK⟩ := id C0
  have hown : s.vm.findClass RX2 = some m.cls := hown
  have hl : lv_has ls 4 [(0, .ref (ap 0)), (1, .int i1), (2, .int i2), (3, .int i3)] := hl
  refine lv_bipush (v := 10) hx hb dX2_likingAt_0 (by decide) ?_
  refine lv_aload_n hx hb dX2_likingAt_2 rfl (lv_at hl 0 rfl) ?_
  refine lv_iload_n hx hb dX2_likingAt_3 rfl (lv_at hl 1 rfl) ?_
  refine lv_iload_n hx hb dX2_likingAt_4 rfl (lv_at hl 2 rfl) ?_
  refine k_Vi (wr := ([] : va_W)) (ws' := w_P k ap sP) (Rv := (f_X2_heldFor sP i1 i2)) (rest := [.int 10]) ⟨hx, hb, hml, hown, hts⟩ hK hA hP hD hS (c_X2_heldFor l k ap sP i1 i2 (by assumption) (by assumption)) (cwV 2 hts gX2_likingAt_X2_heldFor rfl rfl rfl (by decide +kernel) ⟨Nat.le_of_ble_eq_true rfl, Nat.le_of_ble_eq_true rfl⟩) (va_recv hK hP (ci := 2) (q0 := 0) rfl rfl) rfl hl.1 rfl (Nat.le_of_ble_eq_true rfl) dX2_likingAt_5 (Nat.zero_le _) (Nat.zero_le _) [0, 1, 2, 3, 4, 5, 6, 7, 8, 9, 10, 11, 12, 13, 14, 15, 16, 17] [] [0, 1, 2, 3, 4, 5, 6, 7, 8, 9, 10, 11, 12, 13, 14, 15, 16, 17] rfl rfl rfl (by decide) rfl rfl rfl (fun H locs hP hD hS => ?_)
  refine lv_imul hx hb dX2_likingAt_8 ?_
  refine lv_iload_n hx hb dX2_likingAt_9 rfl (lv_at hl 3 rfl) ?_
  refine lv_isub hx hb dX2_likingAt_10 ?_
  have ef : f_X2_likingAt sP i1 i2 i3 = (10 * (f_X2_heldFor sP i1 i2)) - i3 := by
    rw [f_X2_likingAt]
  exact k_reti hx hb hr hK hP hD hS hlocks dX2_likingAt_11 (by rw [ef])
