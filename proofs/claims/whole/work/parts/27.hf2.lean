theorem in_X4_servant_X4 : ∀ w ∈ wsX40, w ∈ wsX4_servant := fun _ h => List.mem_cons_of_mem _ (List.mem_append_left _ (List.mem_append_left _ (List.mem_append_right _ h)))
theorem in_X4_servant_X3 : ∀ w ∈ wsX30, w ∈ wsX4_servant := fun _ h => List.mem_cons_of_mem _ (List.mem_append_left _ (List.mem_append_right _ h))
theorem in_X4_servant_X2 : ∀ w ∈ wsX20, w ∈ wsX4_servant := fun _ h => List.mem_cons_of_mem _ (List.mem_append_right _ h)
def f_X4_servant (tx : Int32) (sP : Nat → Nat → Int32) (sY : Nat → Nat → Int32) (sJ : Nat → Int64) (i1 : Int32) (i2 : Int32) (i3 : Int32) : Int32 × (Nat → Nat → Int32) :=
  if (f_X4_isKind i1) = 0 then ((-2), sP)
  else if (f_X4_isWithin i2 1 9) = 0 then ((-2), sP)
  else if (f_X4_isWithin i3 1 60) = 0 then ((-2), sP)
  else if (f_X3_hasBegun sY sJ) = 0 then ((((f_X2_addServant sP i1 i2 i3)).1), (((f_X2_addServant sP i1 i2 i3)).2))
  else ((-3), sP)
set_option maxHeartbeats 4000000 in
set_option maxRecDepth 100000 in
theorem c_X4_servant (l : Launch) (k : K_X) (ax : Nat) (ap : Nat → Nat) (ay : Nat → Nat) (f0 : Nat) (g0 : Nat) (tx : Int32) (sP : Nat → Nat → Int32) (sY : Nat → Nat → Int32) (sJ : Nat → Int64) (i1 : Int32) (i2 : Int32) (i3 : Int32) (hNs : k_n (sP 0 0) 10) : k_C l yX4_servant wsX4_servant (k_rm 2 42) k [.ref ax, .int i1, .int i2, .int i3] ((w_X ax (ap 0) (f0) (g0) (ay 0) tx) ++ (w_P k ap sP) ++ (w_Y k ay (f0) sY sJ)) (k_qI k ((f_X4_servant tx sP sY sJ i1 i2 i3).1) ((w_X ax (ap 0) (f0) (g0) (ay 0) tx) ++ (w_P k ap ((f_X4_servant tx sP sY sJ i1 i2 i3).2)) ++ (w_Y k ay (f0) sY sJ))) := by
  refine k_mk (cc := cX4_servant) (maxL := 4) (ret := (some .int)) (by decide) rfl (Nat.le_of_ble_eq_true rfl) ?_
  intro p e s m below meth c A ls C0 hP hD hS hl
  obtain ⟨hx, hb, hr, hts, hown, hlocks, hml, hA, hK⟩ := id C0
  have hown : s.vm.findClass RX4 = some m.cls := hown
  have hl : lv_has ls 4 [(0, .ref ax), (1, .int i1), (2, .int i2), (3, .int i3)] := hl
  refine lv_iload_n hx hb dX4_servant_0 rfl (lv_at hl 1 rfl) ?_
  refine k_Si (wr := (w_X ax (ap 0) (f0) (g0) (ay 0) tx) ++ (w_P k ap sP) ++ (w_Y k ay (f0) sY sJ)) (ws' := (w_X ax (ap 0) (f0) (g0) (ay 0) tx) ++ (w_P k ap sP) ++ (w_Y k ay (f0) sY sJ)) (Rv := (f_X4_isKind i1)) (rest := []) ⟨hx, hb, hml, hown, hts⟩ hK hA hP hD hS (c_X4_isKind l k i1) (va_cwS 1 hts gX4_servant_X4_isKind rfl rfl rfl (by decide +kernel) ⟨Nat.le_of_ble_eq_true rfl, Nat.le_of_ble_eq_true rfl⟩) rfl hl.1 rfl (Nat.le_of_ble_eq_true rfl) dX4_servant_1 (Nat.zero_le _) (Nat.zero_le _) [] [0, 1, 2, 3, 4, 5, 6, 7, 8, 9, 10, 11, 12, 13, 14, 15, 16, 17, 18, 19, 20, 21, 22, 23] [0, 1, 2, 3, 4, 5, 6, 7, 8, 9, 10, 11, 12, 13, 14, 15, 16, 17, 18, 19, 20, 21, 22, 23] rfl rfl rfl (by decide) rfl rfl rfl (fun H locs hP hD hS => ?_)
  refine lv_if_eq (tgt := 27) hx hb dX4_servant_4 (by decide) (fun c_1 => ?_) (fun c_1 => ?_)
  ·
    refine lv_bipush (v := (-2)) hx hb dX4_servant_27 (by decide) ?_
    have ef : f_X4_servant tx sP sY sJ i1 i2 i3 = ((-2), sP) := by
      rw [f_X4_servant, if_pos c_1]
    exact k_reti hx hb hr hK (by rw [ef]; exact hP) (by rw [ef]; exact hD) hS hlocks dX4_servant_29 (by rw [ef])
  ·
    refine lv_iload_n hx hb dX4_servant_7 rfl (lv_at hl 2 rfl) ?_
    refine lv_iconst (v := 1) hx hb dX4_servant_8 (by decide) ?_
    refine lv_bipush (v := 9) hx hb dX4_servant_9 (by decide) ?_
    refine k_Si (wr := (w_X ax (ap 0) (f0) (g0) (ay 0) tx) ++ (w_P k ap sP) ++ (w_Y k ay (f0) sY sJ)) (ws' := (w_X ax (ap 0) (f0) (g0) (ay 0) tx) ++ (w_P k ap sP) ++ (w_Y k ay (f0) sY sJ)) (Rv := (f_X4_isWithin i2 1 9)) (rest := []) ⟨hx, hb, hml, hown, hts⟩ hK hA hP hD hS (c_X4_isWithin l k i2 1 9) (va_cwS 3 hts gX4_servant_X4_isWithin rfl rfl rfl (by decide +kernel) ⟨Nat.le_of_ble_eq_true rfl, Nat.le_of_ble_eq_true rfl⟩) rfl hl.1 rfl (Nat.le_of_ble_eq_true rfl) dX4_servant_11 (Nat.zero_le _) (Nat.zero_le _) [] [0, 1, 2, 3, 4, 5, 6, 7, 8, 9, 10, 11, 12, 13, 14, 15, 16, 17, 18, 19, 20, 21, 22, 23] [0, 1, 2, 3, 4, 5, 6, 7, 8, 9, 10, 11, 12, 13, 14, 15, 16, 17, 18, 19, 20, 21, 22, 23] rfl rfl rfl (by decide) rfl rfl rfl (fun H locs hP hD hS => ?_)
    refine lv_if_eq (tgt := 27) hx hb dX4_servant_14 (by decide) (fun c_2 => ?_) (fun c_2 => ?_)
    ·
      refine lv_bipush (v := (-2)) hx hb dX4_servant_27 (by decide) ?_
      have ef : f_X4_servant tx sP sY sJ i1 i2 i3 = ((-2), sP) := by
        rw [f_X4_servant, if_neg c_1, if_pos c_2]
      exact k_reti hx hb hr hK (by rw [ef]; exact hP) (by rw [ef]; exact hD) hS hlocks dX4_servant_29 (by rw [ef])
    ·
      refine lv_iload_n hx hb dX4_servant_17 rfl (lv_at hl 3 rfl) ?_
      refine lv_iconst (v := 1) hx hb dX4_servant_18 (by decide) ?_
      refine lv_bipush (v := 60) hx hb dX4_servant_19 (by decide) ?_
      refine k_Si (wr := (w_X ax (ap 0) (f0) (g0) (ay 0) tx) ++ (w_P k ap sP) ++ (w_Y k ay (f0) sY sJ)) (ws' := (w_X ax (ap 0) (f0) (g0) (ay 0) tx) ++ (w_P k ap sP) ++ (w_Y k ay (f0) sY sJ)) (Rv := (f_X4_isWithin i3 1 60)) (rest := []) ⟨hx, hb, hml, hown, hts⟩ hK hA hP hD hS (c_X4_isWithin l k i3 1 60) (va_cwS 3 hts gX4_servant_X4_isWithin rfl rfl rfl (by decide +kernel) ⟨Nat.le_of_ble_eq_true rfl, Nat.le_of_ble_eq_true rfl⟩) rfl hl.1 rfl (Nat.le_of_ble_eq_true rfl) dX4_servant_21 (Nat.zero_le _) (Nat.zero_le _) [] [0, 1, 2, 3, 4, 5, 6, 7, 8, 9, 10, 11, 12, 13, 14, 15, 16, 17, 18, 19, 20, 21, 22, 23] [0, 1, 2, 3, 4, 5, 6, 7, 8, 9, 10, 11, 12, 13, 14, 15, 16, 17, 18, 19, 20, 21, 22, 23] rfl rfl rfl (by decide) rfl rfl rfl (fun H locs hP hD hS => ?_)
      refine lv_if_ne (tgt := 30) hx hb dX4_servant_24 (by decide) (fun c_3 => ?_) (fun c_3 => ?_)
      ·
        refine lv_aload_n hx hb dX4_servant_30 rfl (lv_at hl 0 rfl) ?_
        refine va_get (D := k.1) (ci := 4) (v := .ref (ay 0)) (C := RX4) (T := TX4) (N := 5) hx hb hts in_X4_servant_X4 hown hK hP 0 rfl rfl 3 (by decide) (k_w hts 1 rfl) (fun _ h9 => h9) rfl dX4_servant_31 ?_
        refine k_Vi (wr := (w_X ax (ap 0) (f0) (g0) (ay 0) tx) ++ (w_P k ap sP)) (ws' := (w_X ax (ap 0) (f0) (g0) (ay 0) tx) ++ (w_P k ap sP) ++ (w_Y k ay (f0) sY sJ)) (Rv := (f_X3_hasBegun sY sJ)) (rest := []) ⟨hx, hb, hml, hown, hts⟩ hK hA hP hD hS (c_X3_hasBegun l k ay (f0) sY sJ) (cwV 0 hts gX4_servant_X3_hasBegun rfl rfl rfl (by decide +kernel) ⟨Nat.le_of_ble_eq_true rfl, Nat.le_of_ble_eq_true rfl⟩) (va_recv hK hP (ci := 3) (q0 := 19) rfl rfl) rfl hl.1 rfl (Nat.le_of_ble_eq_true rfl) dX4_servant_34 (Nat.zero_le _) (Nat.zero_le _) [19, 20, 21, 22, 23] [0, 1, 2, 3, 4, 5, 6, 7, 8, 9, 10, 11, 12, 13, 14, 15, 16, 17, 18] [0, 1, 2, 3, 4, 5, 6, 7, 8, 9, 10, 11, 12, 13, 14, 15, 16, 17, 18, 19, 20, 21, 22, 23] rfl rfl rfl (by decide) rfl rfl rfl (fun H locs hP hD hS => ?_)
        refine lv_if_eq (tgt := 43) hx hb dX4_servant_37 (by decide) (fun c_4 => ?_) (fun c_4 => ?_)
        ·
          refine lv_aload_n hx hb dX4_servant_43 rfl (lv_at hl 0 rfl) ?_
          refine va_get (D := k.1) (ci := 4) (v := .ref (ap 0)) (C := RX4) (T := TX4) (N := 5) hx hb hts in_X4_servant_X4 hown hK hP 0 rfl rfl 0 (by decide) (k_w hts 2 rfl) (fun _ h9 => h9) rfl dX4_servant_44 ?_
          refine lv_iload_n hx hb dX4_servant_47 rfl (lv_at hl 1 rfl) ?_
          refine lv_iload_n hx hb dX4_servant_48 rfl (lv_at hl 2 rfl) ?_
          refine lv_iload_n hx hb dX4_servant_49 rfl (lv_at hl 3 rfl) ?_
          refine k_Vi (wr := (w_X ax (ap 0) (f0) (g0) (ay 0) tx) ++ (w_Y k ay (f0) sY sJ)) (ws' := (w_X ax (ap 0) (f0) (g0) (ay 0) tx) ++ (w_P k ap ((f_X2_addServant sP i1 i2 i3).2)) ++ (w_Y k ay (f0) sY sJ)) (Rv := ((f_X2_addServant sP i1 i2 i3).1)) (rest := []) ⟨hx, hb, hml, hown, hts⟩ hK hA hP hD hS (c_X2_addServant l k ap sP i1 i2 i3 (hNs)) (cwV 3 hts gX4_servant_X2_addServant rfl rfl rfl (by decide +kernel) ⟨Nat.le_of_ble_eq_true rfl, Nat.le_of_ble_eq_true rfl⟩) (va_recv hK hP (ci := 2) (q0 := 1) rfl rfl) rfl hl.1 rfl (Nat.le_of_ble_eq_true rfl) dX4_servant_50 (Nat.zero_le _) (Nat.zero_le _) [1, 2, 3, 4, 5, 6, 7, 8, 9, 10, 11, 12, 13, 14, 15, 16, 17, 18] [0, 19, 20, 21, 22, 23] [0, 6, 7, 8, 9, 10, 11, 12, 13, 14, 15, 16, 17, 18, 19, 20, 21, 22, 23, 1, 2, 3, 4, 5] rfl rfl rfl (by decide) rfl rfl rfl (fun H locs hP hD hS => ?_)
          obtain ⟨z_5, ez_5⟩ : ∃ z, z = f_X2_addServant sP i1 i2 i3 := ⟨_, rfl⟩
          rw [← ez_5] at hP hD ⊢
          have ef : f_X4_servant tx sP sY sJ i1 i2 i3 = (((z_5).1), ((z_5).2)) := by
            rw [f_X4_servant, ← ez_5, if_neg c_1, if_neg c_2, if_neg c_3, if_pos c_4]
          exact k_reti hx hb hr hK (by rw [ef]; exact hP) (by rw [ef]; exact hD) hS hlocks dX4_servant_53 (by rw [ef])
        ·
          refine lv_bipush (v := (-3)) hx hb dX4_servant_40 (by decide) ?_
          have ef : f_X4_servant tx sP sY sJ i1 i2 i3 = ((-3), sP) := by
            rw [f_X4_servant, if_neg c_1, if_neg c_2, if_neg c_3, if_neg c_4]
          exact k_reti hx hb hr hK (by rw [ef]; exact hP) (by rw [ef]; exact hD) hS hlocks dX4_servant_42 (by rw [ef])
      ·
        refine lv_bipush (v := (-2)) hx hb dX4_servant_27 (by decide) ?_
        have ef : f_X4_servant tx sP sY sJ i1 i2 i3 = ((-2), sP) := by
          rw [f_X4_servant, if_neg c_1, if_neg c_2, if_pos c_3]
        exact k_reti hx hb hr hK (by rw [ef]; exact hP) (by rw [ef]; exact hD) hS hlocks dX4_servant_29 (by rw [ef])
theorem in_X4_master_X4 : ∀ w ∈ wsX40, w ∈ wsX4_master := fun _ h => List.mem_cons_of_mem _ (List.mem_append_left _ (List.mem_append_left _ (List.mem_append_right _ h)))
theorem in_X4_master_X3 : ∀ w ∈ wsX30, w ∈ wsX4_master := fun _ h => List.mem_cons_of_mem _ (List.mem_append_left _ (List.mem_append_right _ h))
theorem in_X4_master_X2 : ∀ w ∈ wsX20, w ∈ wsX4_master := fun _ h => List.mem_cons_of_mem _ (List.mem_append_right _ h)
def f_X4_master (tx : Int32) (sP : Nat → Nat → Int32) (sY : Nat → Nat → Int32) (sJ : Nat → Int64) (i1 : Int32) (i2 : Int32) : Int32 × (Nat → Nat → Int32) :=
  if (f_X4_isKind i1) = 0 then ((-2), sP)
  else if (f_X4_isWithin i2 1 90) = 0 then ((-2), sP)
  else if (f_X3_hasBegun sY sJ) = 0 then ((((f_X2_addMaster sP i1 i2)).1), (((f_X2_addMaster sP i1 i2)).2))
  else ((-3), sP)
set_option maxHeartbeats 4000000 in
set_option maxRecDepth 100000 in
theorem c_X4_master (l : Launch) (k : K_X) (ax : Nat) (ap : Nat → Nat) (ay : Nat → Nat) (f0 : Nat) (g0 : Nat) (tx : Int32) (sP : Nat → Nat → Int32) (sY : Nat → Nat → Int32) (sJ : Nat → Int64) (i1 : Int32) (i2 : Int32) (hNm : k_n (sP 0 1) 10) : k_C l yX4_master wsX4_master (k_rm 2 42) k [.ref ax, .int i1, .int i2] ((w_X ax (ap 0) (f0) (g0) (ay 0) tx) ++ (w_P k ap sP) ++ (w_Y k ay (f0) sY sJ)) (k_qI k ((f_X4_master tx sP sY sJ i1 i2).1) ((w_X ax (ap 0) (f0) (g0) (ay 0) tx) ++ (w_P k ap ((f_X4_master tx sP sY sJ i1 i2).2)) ++ (w_Y k ay (f0) sY sJ))) := by
  refine k_mk (cc := cX4_master) (maxL := 3) (ret := (some .int)) (by decide) rfl (Nat.le_of_ble_eq_true rfl) ?_
  intro p e s m below meth c A ls C0 hP hD hS hl
  obtain ⟨hx, hb, hr, hts, hown, hlocks, hml, hA, hK⟩ := id C0
  have hown : s.vm.findClass RX4 = some m.cls := hown
  have hl : lv_has ls 3 [(0, .ref ax), (1, .int i1), (2, .int i2)] := hl
  refine lv_iload_n hx hb dX4_master_0 rfl (lv_at hl 1 rfl) ?_
  refine k_Si (wr := (w_X ax (ap 0) (f0) (g0) (ay 0) tx) ++ (w_P k ap sP) ++ (w_Y k ay (f0) sY sJ)) (ws' := (w_X ax (ap 0) (f0) (g0) (ay 0) tx) ++ (w_P k ap sP) ++ (w_Y k ay (f0) sY sJ)) (Rv := (f_X4_isKind i1)) (rest := []) ⟨hx, hb, hml, hown, hts⟩ hK hA hP hD hS (c_X4_isKind l k i1) (va_cwS 1 hts gX4_master_X4_isKind rfl rfl rfl (by decide +kernel) ⟨Nat.le_of_ble_eq_true rfl, Nat.le_of_ble_eq_true rfl⟩) rfl hl.1 rfl (Nat.le_of_ble_eq_true rfl) dX4_master_1 (Nat.zero_le _) (Nat.zero_le _) [] [0, 1, 2, 3, 4, 5, 6, 7, 8, 9, 10, 11, 12, 13, 14, 15, 16, 17, 18, 19, 20, 21, 22, 23] [0, 1, 2, 3, 4, 5, 6, 7, 8, 9, 10, 11, 12, 13, 14, 15, 16, 17, 18, 19, 20, 21, 22, 23] rfl rfl rfl (by decide) rfl rfl rfl (fun H locs hP hD hS => ?_)
  refine lv_if_eq (tgt := 17) hx hb dX4_master_4 (by decide) (fun c_1 => ?_) (fun c_1 => ?_)
  ·
    refine lv_bipush (v := (-2)) hx hb dX4_master_17 (by decide) ?_
    have ef : f_X4_master tx sP sY sJ i1 i2 = ((-2), sP) := by
      rw [f_X4_master, if_pos c_1]
    exact k_reti hx hb hr hK (by rw [ef]; exact hP) (by rw [ef]; exact hD) hS hlocks dX4_master_19 (by rw [ef])
  ·
    refine lv_iload_n hx hb dX4_master_7 rfl (lv_at hl 2 rfl) ?_
    refine lv_iconst (v := 1) hx hb dX4_master_8 (by decide) ?_
    refine lv_bipush (v := 90) hx hb dX4_master_9 (by decide) ?_
    refine k_Si (wr := (w_X ax (ap 0) (f0) (g0) (ay 0) tx) ++ (w_P k ap sP) ++ (w_Y k ay (f0) sY sJ)) (ws' := (w_X ax (ap 0) (f0) (g0) (ay 0) tx) ++ (w_P k ap sP) ++ (w_Y k ay (f0) sY sJ)) (Rv := (f_X4_isWithin i2 1 90)) (rest := []) ⟨hx, hb, hml, hown, hts⟩ hK hA hP hD hS (c_X4_isWithin l k i2 1 90) (va_cwS 3 hts gX4_master_X4_isWithin rfl rfl rfl (by decide +kernel) ⟨Nat.le_of_ble_eq_true rfl, Nat.le_of_ble_eq_true rfl⟩) rfl hl.1 rfl (Nat.le_of_ble_eq_true rfl) dX4_master_11 (Nat.zero_le _) (Nat.zero_le _) [] [0, 1, 2, 3, 4, 5, 6, 7, 8, 9, 10, 11, 12, 13, 14, 15, 16, 17, 18, 19, 20, 21, 22, 23] [0, 1, 2, 3, 4, 5, 6, 7, 8, 9, 10, 11, 12, 13, 14, 15, 16, 17, 18, 19, 20, 21, 22, 23] rfl rfl rfl (by decide) rfl rfl rfl (fun H locs hP hD hS => ?_)
    refine lv_if_ne (tgt := 20) hx hb dX4_master_14 (by decide) (fun c_2 => ?_) (fun c_2 => ?_)
    ·
      refine lv_aload_n hx hb dX4_master_20 rfl (lv_at hl 0 rfl) ?_
      refine va_get (D := k.1) (ci := 4) (v := .ref (ay 0)) (C := RX4) (T := TX4) (N := 5) hx hb hts in_X4_master_X4 hown hK hP 0 rfl rfl 3 (by decide) (k_w hts 1 rfl) (fun _ h9 => h9) rfl dX4_master_21 ?_
      refine k_Vi (wr := (w_X ax (ap 0) (f0) (g0) (ay 0) tx) ++ (w_P k ap sP)) (ws' := (w_X ax (ap 0) (f0) (g0) (ay 0) tx) ++ (w_P k ap sP) ++ (w_Y k ay (f0) sY sJ)) (Rv := (f_X3_hasBegun sY sJ)) (rest := []) ⟨hx, hb, hml, hown, hts⟩ hK hA hP hD hS (c_X3_hasBegun l k ay (f0) sY sJ) (cwV 0 hts gX4_master_X3_hasBegun rfl rfl rfl (by decide +kernel) ⟨Nat.le_of_ble_eq_true rfl, Nat.le_of_ble_eq_true rfl⟩) (va_recv hK hP (ci := 3) (q0 := 19) rfl rfl) rfl hl.1 rfl (Nat.le_of_ble_eq_true rfl) dX4_master_24 (Nat.zero_le _) (Nat.zero_le _) [19, 20, 21, 22, 23] [0, 1, 2, 3, 4, 5, 6, 7, 8, 9, 10, 11, 12, 13, 14, 15, 16, 17, 18] [0, 1, 2, 3, 4, 5, 6, 7, 8, 9, 10, 11, 12, 13, 14, 15, 16, 17, 18, 19, 20, 21, 22, 23] rfl rfl rfl (by decide) rfl rfl rfl (fun H locs hP hD hS => ?_)
      refine lv_if_eq (tgt := 33) hx hb dX4_master_27 (by decide) (fun c_3 => ?_) (fun c_3 => ?_)
      ·
        refine lv_aload_n hx hb dX4_master_33 rfl (lv_at hl 0 rfl) ?_
        refine va_get (D := k.1) (ci := 4) (v := .ref (ap 0)) (C := RX4) (T := TX4) (N := 5) hx hb hts in_X4_master_X4 hown hK hP 0 rfl rfl 0 (by decide) (k_w hts 2 rfl) (fun _ h9 => h9) rfl dX4_master_34 ?_
        refine lv_iload_n hx hb dX4_master_37 rfl (lv_at hl 1 rfl) ?_
        refine lv_iload_n hx hb dX4_master_38 rfl (lv_at hl 2 rfl) ?_
        refine k_Vi (wr := (w_X ax (ap 0) (f0) (g0) (ay 0) tx) ++ (w_Y k ay (f0) sY sJ)) (ws' := (w_X ax (ap 0) (f0) (g0) (ay 0) tx) ++ (w_P k ap ((f_X2_addMaster sP i1 i2).2)) ++ (w_Y k ay (f0) sY sJ)) (Rv := ((f_X2_addMaster sP i1 i2).1)) (rest := []) ⟨hx, hb, hml, hown, hts⟩ hK hA hP hD hS (c_X2_addMaster l k ap sP i1 i2 (hNm)) (cwV 2 hts gX4_master_X2_addMaster rfl rfl rfl (by decide +kernel) ⟨Nat.le_of_ble_eq_true rfl, Nat.le_of_ble_eq_true rfl⟩) (va_recv hK hP (ci := 2) (q0 := 1) rfl rfl) rfl hl.1 rfl (Nat.le_of_ble_eq_true rfl) dX4_master_39 (Nat.zero_le _) (Nat.zero_le _) [1, 2, 3, 4, 5, 6, 7, 8, 9, 10, 11, 12, 13, 14, 15, 16, 17, 18] [0, 19, 20, 21, 22, 23] [0, 6, 7, 8, 9, 10, 11, 12, 13, 14, 15, 16, 17, 18, 19, 20, 21, 22, 23, 1, 2, 3, 4, 5] rfl rfl rfl (by decide) rfl rfl rfl (fun H locs hP hD hS => ?_)
        obtain ⟨z_4, ez_4⟩ : ∃ z, z = f_X2_addMaster sP i1 i2 := ⟨_, rfl⟩
        rw [← ez_4] at hP hD ⊢
        have ef : f_X4_master tx sP sY sJ i1 i2 = (((z_4).1), ((z_4).2)) := by
          rw [f_X4_master, ← ez_4, if_neg c_1, if_neg c_2, if_pos c_3]
        exact k_reti hx hb hr hK (by rw [ef]; exact hP) (by rw [ef]; exact hD) hS hlocks dX4_master_42 (by rw [ef])
      ·
        refine lv_bipush (v := (-3)) hx hb dX4_master_30 (by decide) ?_
        have ef : f_X4_master tx sP sY sJ i1 i2 = ((-3), sP) := by
          rw [f_X4_master, if_neg c_1, if_neg c_2, if_neg c_3]
        exact k_reti hx hb hr hK (by rw [ef]; exact hP) (by rw [ef]; exact hD) hS hlocks dX4_master_32 (by rw [ef])
    ·
      refine lv_bipush (v := (-2)) hx hb dX4_master_17 (by decide) ?_
      have ef : f_X4_master tx sP sY sJ i1 i2 = ((-2), sP) := by
        rw [f_X4_master, if_neg c_1, if_pos c_2]
      exact k_reti hx hb hr hK (by rw [ef]; exact hP) (by rw [ef]; exact hD) hS hlocks dX4_master_19 (by rw [ef])
theorem in_X4_bar_X4 : ∀ w ∈ wsX40, w ∈ wsX4_bar := fun _ h => List.mem_cons_of_mem _ (List.mem_append_left _ (List.mem_append_right _ h))
theorem in_X4_bar_X2 : ∀ w ∈ wsX20, w ∈ wsX4_bar := fun _ h => List.mem_cons_of_mem _ (List.mem_append_right _ h)
def f_X4_bar (tx : Int32) (sP : Nat → Nat → Int32) (i1 : Int32) (i2 : Int32) (i3 : Int32) : Int32 × (Nat → Nat → Int32) :=
  if (f_X2_hasBoth sP i2 i1) = 0 then ((-1), sP)
  else if (f_X2_isBarred sP i2 i1) = 0 then (0, ((f_X2_setBar sP i2 i1 i3)))
  else (1, ((f_X2_setBar sP i2 i1 i3)))
set_option maxHeartbeats 4000000 in
set_option maxRecDepth 100000 in
theorem c_X4_bar (l : Launch) (k : K_X) (ax : Nat) (ap : Nat → Nat) (f0 : Nat) (g0 : Nat) (y0 : Nat) (tx : Int32) (sP : Nat → Nat → Int32) (i1 : Int32) (i2 : Int32) (i3 : Int32) (hNs : k_n (sP 0 0) 10) (hNm : k_n (sP 0 1) 10) : k_C l yX4_bar wsX4_bar (k_rm 2 43) k [.ref ax, .int i1, .int i2, .int i3] ((w_X ax (ap 0) (f0) (g0) (y0) tx) ++ (w_P k ap sP)) (k_qI k ((f_X4_bar tx sP i1 i2 i3).1) ((w_X ax (ap 0) (f0) (g0) (y0) tx) ++ (w_P k ap ((f_X4_bar tx sP i1 i2 i3).2)))) := by
  refine k_mk (cc := cX4_bar) (maxL := 5) (ret := (some .int)) (by decide) rfl (Nat.le_of_ble_eq_true rfl) ?_
  intro p e s m below meth c A ls C0 hP hD hS hl
  obtain ⟨hx, hb, hr, hts, hown, hlocks, hml, hA, hK⟩ := id C0
  have hown : s.vm.findClass RX4 = some m.cls := hown
  have hl : lv_has ls 5 [(0, .ref ax), (1, .int i1), (2, .int i2), (3, .int i3)] := hl
  refine lv_aload_n hx hb dX4_bar_0 rfl (lv_at hl 0 rfl) ?_
  refine va_get (D := k.1) (ci := 4) (v := .ref (ap 0)) (C := RX4) (T := TX4) (N := 5) hx hb hts in_X4_bar_X4 hown hK hP 0 rfl rfl 0 (by decide) (k_w hts 1 rfl) (fun _ h9 => h9) rfl dX4_bar_1 ?_
  refine lv_iload_n hx hb dX4_bar_4 rfl (lv_at hl 2 rfl) ?_
  refine lv_iload_n hx hb dX4_bar_5 rfl (lv_at hl 1 rfl) ?_
  refine k_Vi (wr := w_X ax (ap 0) (f0) (g0) (y0) tx) (ws' := (w_X ax (ap 0) (f0) (g0) (y0) tx) ++ (w_P k ap sP)) (Rv := (f_X2_hasBoth sP i2 i1)) (rest := []) ⟨hx, hb, hml, hown, hts⟩ hK hA hP hD hS (c_X2_hasBoth l k ap sP i2 i1) (cwV 2 hts gX4_bar_X2_hasBoth rfl rfl rfl (by decide +kernel) ⟨Nat.le_of_ble_eq_true rfl, Nat.le_of_ble_eq_true rfl⟩) (va_recv hK hP (ci := 2) (q0 := 1) rfl rfl) rfl hl.1 rfl (Nat.le_of_ble_eq_true rfl) dX4_bar_6 (Nat.zero_le _) (Nat.zero_le _) [1, 2, 3, 4, 5, 6, 7, 8, 9, 10, 11, 12, 13, 14, 15, 16, 17, 18] [0] [0, 1, 2, 3, 4, 5, 6, 7, 8, 9, 10, 11, 12, 13, 14, 15, 16, 17, 18] rfl rfl rfl (by decide) rfl rfl rfl (fun H locs hP hD hS => ?_)
  refine lv_if_ne (tgt := 14) hx hb dX4_bar_9 (by decide) (fun c_1 => ?_) (fun c_1 => ?_)
  ·
    refine lv_aload_n hx hb dX4_bar_14 rfl (lv_at hl 0 rfl) ?_
    refine va_get (D := k.1) (ci := 4) (v := .ref (ap 0)) (C := RX4) (T := TX4) (N := 5) hx hb hts in_X4_bar_X4 hown hK hP 0 rfl rfl 0 (by decide) (k_w hts 1 rfl) (fun _ h9 => h9) rfl dX4_bar_15 ?_
    refine lv_iload_n hx hb dX4_bar_18 rfl (lv_at hl 2 rfl) ?_
    refine lv_iload_n hx hb dX4_bar_19 rfl (lv_at hl 1 rfl) ?_
    refine k_Vi (wr := w_X ax (ap 0) (f0) (g0) (y0) tx) (ws' := (w_X ax (ap 0) (f0) (g0) (y0) tx) ++ (w_P k ap sP)) (Rv := (f_X2_isBarred sP i2 i1)) (rest := []) ⟨hx, hb, hml, hown, hts⟩ hK hA hP hD hS (c_X2_isBarred l k ap sP i2 i1 (by first | assumption | exact k_hs hNs (by assumption) | exact k_hm hNm (by assumption) | exact (k_hb hNs hNm (by assumption)).1 | exact (k_hb hNs hNm (by assumption)).2)) (cwV 2 hts gX4_bar_X2_isBarred rfl rfl rfl (by decide +kernel) ⟨Nat.le_of_ble_eq_true rfl, Nat.le_of_ble_eq_true rfl⟩) (va_recv hK hP (ci := 2) (q0 := 1) rfl rfl) rfl hl.1 rfl (Nat.le_of_ble_eq_true rfl) dX4_bar_20 (Nat.zero_le _) (Nat.zero_le _) [1, 2, 3, 4, 5, 6, 7, 8, 9, 10, 11, 12, 13, 14, 15, 16, 17, 18] [0] [0, 1, 2, 3, 4, 5, 6, 7, 8, 9, 10, 11, 12, 13, 14, 15, 16, 17, 18] rfl rfl rfl (by decide) rfl rfl rfl (fun H locs hP hD hS => ?_)
    refine lv_if_eq (tgt := 30) hx hb dX4_bar_23 (by decide) (fun c_2 => ?_) (fun c_2 => ?_)
    ·
      refine lv_iconst (v := 0) hx hb dX4_bar_30 (by decide) ?_
      refine lv_istore (lv' := [(4, .int 0), (0, .ref ax), (1, .int i1), (2, .int i2), (3, .int i3)]) hx hb dX4_bar_31 hl (by decide) rfl (fun ls hl => ?_)
      refine lv_aload_n hx hb dX4_bar_33 rfl (lv_at hl 1 rfl) ?_
      refine va_get (D := k.1) (ci := 4) (v := .ref (ap 0)) (C := RX4) (T := TX4) (N := 5) hx hb hts in_X4_bar_X4 hown hK hP 0 rfl rfl 0 (by decide) (k_w hts 1 rfl) (fun _ h9 => h9) rfl dX4_bar_34 ?_
      refine lv_iload_n hx hb dX4_bar_37 rfl (lv_at hl 3 rfl) ?_
      refine lv_iload_n hx hb dX4_bar_38 rfl (lv_at hl 2 rfl) ?_
      refine lv_iload_n hx hb dX4_bar_39 rfl (lv_at hl 4 rfl) ?_
      refine k_Vv (wr := w_X ax (ap 0) (f0) (g0) (y0) tx) (ws' := (w_X ax (ap 0) (f0) (g0) (y0) tx) ++ (w_P k ap (f_X2_setBar sP i2 i1 i3))) (rest := []) ⟨hx, hb, hml, hown, hts⟩ hK hA hP hD hS (c_X2_setBar l k ap sP i2 i1 i3 (by first | assumption | exact k_hs hNs (by assumption) | exact k_hm hNm (by assumption) | exact (k_hb hNs hNm (by assumption)).1 | exact (k_hb hNs hNm (by assumption)).2)) (cwV 3 hts gX4_bar_X2_setBar rfl rfl rfl (by decide +kernel) ⟨Nat.le_of_ble_eq_true rfl, Nat.le_of_ble_eq_true rfl⟩) (va_recv hK hP (ci := 2) (q0 := 1) rfl rfl) rfl hl.1 rfl (Nat.le_of_ble_eq_true rfl) dX4_bar_40 (Nat.zero_le _) (Nat.zero_le _) [1, 2, 3, 4, 5, 6, 7, 8, 9, 10, 11, 12, 13, 14, 15, 16, 17, 18] [0] [0, 1, 2, 3, 4, 5, 6, 7, 8, 9, 10, 11, 12, 13, 14, 15, 16, 17, 18] rfl rfl rfl (by decide) rfl rfl rfl (fun H locs hP hD hS => ?_)
      obtain ⟨z_3, ez_3⟩ : ∃ z, z = f_X2_setBar sP i2 i1 i3 := ⟨_, rfl⟩
      rw [← ez_3] at hP hD
      refine lv_iload hx hb dX4_bar_43 (lv_at hl 0 rfl) ?_
      have ef : f_X4_bar tx sP i1 i2 i3 = (0, (z_3)) := by
        rw [f_X4_bar, ← ez_3, if_neg c_1, if_pos c_2]
      exact k_reti hx hb hr hK (by rw [ef]; exact hP) (by rw [ef]; exact hD) hS hlocks dX4_bar_45 (by rw [ef])
    ·
      refine lv_iconst (v := 1) hx hb dX4_bar_26 (by decide) ?_
      refine lv_goto (tgt := 31) hx hb dX4_bar_27 (by decide) ?_
      refine lv_istore (lv' := [(4, .int 1), (0, .ref ax), (1, .int i1), (2, .int i2), (3, .int i3)]) hx hb dX4_bar_31 hl (by decide) rfl (fun ls hl => ?_)
      refine lv_aload_n hx hb dX4_bar_33 rfl (lv_at hl 1 rfl) ?_
      refine va_get (D := k.1) (ci := 4) (v := .ref (ap 0)) (C := RX4) (T := TX4) (N := 5) hx hb hts in_X4_bar_X4 hown hK hP 0 rfl rfl 0 (by decide) (k_w hts 1 rfl) (fun _ h9 => h9) rfl dX4_bar_34 ?_
      refine lv_iload_n hx hb dX4_bar_37 rfl (lv_at hl 3 rfl) ?_
      refine lv_iload_n hx hb dX4_bar_38 rfl (lv_at hl 2 rfl) ?_
      refine lv_iload_n hx hb dX4_bar_39 rfl (lv_at hl 4 rfl) ?_
      refine k_Vv (wr := w_X ax (ap 0) (f0) (g0) (y0) tx) (ws' := (w_X ax (ap 0) (f0) (g0) (y0) tx) ++ (w_P k ap (f_X2_setBar sP i2 i1 i3))) (rest := []) ⟨hx, hb, hml, hown, hts⟩ hK hA hP hD hS (c_X2_setBar l k ap sP i2 i1 i3 (by first | assumption | exact k_hs hNs (by assumption) | exact k_hm hNm (by assumption) | exact (k_hb hNs hNm (by assumption)).1 | exact (k_hb hNs hNm (by assumption)).2)) (cwV 3 hts gX4_bar_X2_setBar rfl rfl rfl (by decide +kernel) ⟨Nat.le_of_ble_eq_true rfl, Nat.le_of_ble_eq_true rfl⟩) (va_recv hK hP (ci := 2) (q0 := 1) rfl rfl) rfl hl.1 rfl (Nat.le_of_ble_eq_true rfl) dX4_bar_40 (Nat.zero_le _) (Nat.zero_le _) [1, 2, 3, 4, 5, 6, 7, 8, 9, 10, 11, 12, 13, 14, 15, 16, 17, 18] [0] [0, 1, 2, 3, 4, 5, 6, 7, 8, 9, 10, 11, 12, 13, 14, 15, 16, 17, 18] rfl rfl rfl (by decide) rfl rfl rfl (fun H locs hP hD hS => ?_)
      obtain ⟨z_4, ez_4⟩ : ∃ z, z = f_X2_setBar sP i2 i1 i3 := ⟨_, rfl⟩
      rw [← ez_4] at hP hD
      refine lv_iload hx hb dX4_bar_43 (lv_at hl 0 rfl) ?_
      have ef : f_X4_bar tx sP i1 i2 i3 = (1, (z_4)) := by
        rw [f_X4_bar, ← ez_4, if_neg c_1, if_neg c_2]
      exact k_reti hx hb hr hK (by rw [ef]; exact hP) (by rw [ef]; exact hD) hS hlocks dX4_bar_45 (by rw [ef])
  ·
    refine lv_iconst (v := (-1)) hx hb dX4_bar_12 (by decide) ?_
    have ef : f_X4_bar tx sP i1 i2 i3 = ((-1), sP) := by
      rw [f_X4_bar, if_pos c_1]
    exact k_reti hx hb hr hK (by rw [ef]; exact hP) (by rw [ef]; exact hD) hS hlocks dX4_bar_13 (by rw [ef])
theorem in_X4_hear_X4 : ∀ w ∈ wsX40, w ∈ wsX4_hear := fun _ h => List.mem_cons_of_mem _ (List.mem_append_left _ (List.mem_append_right _ h))
theorem in_X4_hear_X2 : ∀ w ∈ wsX20, w ∈ wsX4_hear := fun _ h => List.mem_cons_of_mem _ (List.mem_append_right _ h)
def f_X4_hear (tx : Int32) (sP : Nat → Nat → Int32) (i1 : Int32) (i2 : Int32) (i3 : Int32) : Int32 × (Nat → Nat → Int32) :=
  if (f_X2_hasBoth sP i1 i2) = 0 then ((-1), sP)
  else if (f_X4_isWithin i3 1 9) = 0 then ((-2), sP)
  else ((f_X2_heldFor sP i1 i2), ((f_X2_tell sP i1 i2 i3)))
set_option maxHeartbeats 4000000 in
set_option maxRecDepth 100000 in
theorem c_X4_hear (l : Launch) (k : K_X) (ax : Nat) (ap : Nat → Nat) (f0 : Nat) (g0 : Nat) (y0 : Nat) (tx : Int32) (sP : Nat → Nat → Int32) (i1 : Int32) (i2 : Int32) (i3 : Int32) (hNs : k_n (sP 0 0) 10) (hNm : k_n (sP 0 1) 10) : k_C l yX4_hear wsX4_hear (k_rm 2 43) k [.ref ax, .int i1, .int i2, .int i3] ((w_X ax (ap 0) (f0) (g0) (y0) tx) ++ (w_P k ap sP)) (k_qI k ((f_X4_hear tx sP i1 i2 i3).1) ((w_X ax (ap 0) (f0) (g0) (y0) tx) ++ (w_P k ap ((f_X4_hear tx sP i1 i2 i3).2)))) := by
  refine k_mk (cc := cX4_hear) (maxL := 5) (ret := (some .int)) (by decide) rfl (Nat.le_of_ble_eq_true rfl) ?_
  intro p e s m below meth c A ls C0 hP hD hS hl
  obtain ⟨hx, hb, hr, hts, hown, hlocks, hml, hA, hK⟩ := id C0
  have hown : s.vm.findClass RX4 = some m.cls := hown
  have hl : lv_has ls 5 [(0, .ref ax), (1, .int i1), (2, .int i2), (3, .int i3)] := hl
  refine lv_aload_n hx hb dX4_hear_0 rfl (lv_at hl 0 rfl) ?_
  refine va_get (D := k.1) (ci := 4) (v := .ref (ap 0)) (C := RX4) (T := TX4) (N := 5) hx hb hts in_X4_hear_X4 hown hK hP 0 rfl rfl 0 (by decide) (k_w hts 1 rfl) (fun _ h9 => h9) rfl dX4_hear_1 ?_
  refine lv_iload_n hx hb dX4_hear_4 rfl (lv_at hl 1 rfl) ?_
  refine lv_iload_n hx hb dX4_hear_5 rfl (lv_at hl 2 rfl) ?_
  refine k_Vi (wr := w_X ax (ap 0) (f0) (g0) (y0) tx) (ws' := (w_X ax (ap 0) (f0) (g0) (y0) tx) ++ (w_P k ap sP)) (Rv := (f_X2_hasBoth sP i1 i2)) (rest := []) ⟨hx, hb, hml, hown, hts⟩ hK hA hP hD hS (c_X2_hasBoth l k ap sP i1 i2) (cwV 2 hts gX4_hear_X2_hasBoth rfl rfl rfl (by decide +kernel) ⟨Nat.le_of_ble_eq_true rfl, Nat.le_of_ble_eq_true rfl⟩) (va_recv hK hP (ci := 2) (q0 := 1) rfl rfl) rfl hl.1 rfl (Nat.le_of_ble_eq_true rfl) dX4_hear_6 (Nat.zero_le _) (Nat.zero_le _) [1, 2, 3, 4, 5, 6, 7, 8, 9, 10, 11, 12, 13, 14, 15, 16, 17, 18] [0] [0, 1, 2, 3, 4, 5, 6, 7, 8, 9, 10, 11, 12, 13, 14, 15, 16, 17, 18] rfl rfl rfl (by decide) rfl rfl rfl (fun H locs hP hD hS => ?_)
  refine lv_if_ne (tgt := 14) hx hb dX4_hear_9 (by decide) (fun c_1 => ?_) (fun c_1 => ?_)
  ·
    refine lv_iload_n hx hb dX4_hear_14 rfl (lv_at hl 3 rfl) ?_
    refine lv_iconst (v := 1) hx hb dX4_hear_15 (by decide) ?_
    refine lv_bipush (v := 9) hx hb dX4_hear_16 (by decide) ?_
    refine k_Si (wr := (w_X ax (ap 0) (f0) (g0) (y0) tx) ++ (w_P k ap sP)) (ws' := (w_X ax (ap 0) (f0) (g0) (y0) tx) ++ (w_P k ap sP)) (Rv := (f_X4_isWithin i3 1 9)) (rest := []) ⟨hx, hb, hml, hown, hts⟩ hK hA hP hD hS (c_X4_isWithin l k i3 1 9) (va_cwS 3 hts gX4_hear_X4_isWithin rfl rfl rfl (by decide +kernel) ⟨Nat.le_of_ble_eq_true rfl, Nat.le_of_ble_eq_true rfl⟩) rfl hl.1 rfl (Nat.le_of_ble_eq_true rfl) dX4_hear_18 (Nat.zero_le _) (Nat.zero_le _) [] [0, 1, 2, 3, 4, 5, 6, 7, 8, 9, 10, 11, 12, 13, 14, 15, 16, 17, 18] [0, 1, 2, 3, 4, 5, 6, 7, 8, 9, 10, 11, 12, 13, 14, 15, 16, 17, 18] rfl rfl rfl (by decide) rfl rfl rfl (fun H locs hP hD hS => ?_)
    refine lv_if_ne (tgt := 27) hx hb dX4_hear_21 (by decide) (fun c_2 => ?_) (fun c_2 => ?_)
    ·
      refine lv_aload_n hx hb dX4_hear_27 rfl (lv_at hl 0 rfl) ?_
      refine va_get (D := k.1) (ci := 4) (v := .ref (ap 0)) (C := RX4) (T := TX4) (N := 5) hx hb hts in_X4_hear_X4 hown hK hP 0 rfl rfl 0 (by decide) (k_w hts 1 rfl) (fun _ h9 => h9) rfl dX4_hear_28 ?_
      refine lv_iload_n hx hb dX4_hear_31 rfl (lv_at hl 1 rfl) ?_
      refine lv_iload_n hx hb dX4_hear_32 rfl (lv_at hl 2 rfl) ?_
      refine k_Vi (wr := w_X ax (ap 0) (f0) (g0) (y0) tx) (ws' := (w_X ax (ap 0) (f0) (g0) (y0) tx) ++ (w_P k ap sP)) (Rv := (f_X2_heldFor sP i1 i2)) (rest := []) ⟨hx, hb, hml, hown, hts⟩ hK hA hP hD hS (c_X2_heldFor l k ap sP i1 i2 (by first | assumption | exact k_hs hNs (by assumption) | exact k_hm hNm (by assumption) | exact (k_hb hNs hNm (by assumption)).1 | exact (k_hb hNs hNm (by assumption)).2) (by first | assumption | exact k_hs hNs (by assumption) | exact k_hm hNm (by assumption) | exact (k_hb hNs hNm (by assumption)).1 | exact (k_hb hNs hNm (by assumption)).2)) (cwV 2 hts gX4_hear_X2_heldFor rfl rfl rfl (by decide +kernel) ⟨Nat.le_of_ble_eq_true rfl, Nat.le_of_ble_eq_true rfl⟩) (va_recv hK hP (ci := 2) (q0 := 1) rfl rfl) rfl hl.1 rfl (Nat.le_of_ble_eq_true rfl) dX4_hear_33 (Nat.zero_le _) (Nat.zero_le _) [1, 2, 3, 4, 5, 6, 7, 8, 9, 10, 11, 12, 13, 14, 15, 16, 17, 18] [0] [0, 1, 2, 3, 4, 5, 6, 7, 8, 9, 10, 11, 12, 13, 14, 15, 16, 17, 18] rfl rfl rfl (by decide) rfl rfl rfl (fun H locs hP hD hS => ?_)
      refine lv_istore (lv' := [(4, .int (f_X2_heldFor sP i1 i2)), (0, .ref ax), (1, .int i1), (2, .int i2), (3, .int i3)]) hx hb dX4_hear_36 hl (by decide) rfl (fun ls hl => ?_)
      refine lv_aload_n hx hb dX4_hear_38 rfl (lv_at hl 1 rfl) ?_
      refine va_get (D := k.1) (ci := 4) (v := .ref (ap 0)) (C := RX4) (T := TX4) (N := 5) hx hb hts in_X4_hear_X4 hown hK hP 0 rfl rfl 0 (by decide) (k_w hts 1 rfl) (fun _ h9 => h9) rfl dX4_hear_39 ?_
      refine lv_iload_n hx hb dX4_hear_42 rfl (lv_at hl 2 rfl) ?_
      refine lv_iload_n hx hb dX4_hear_43 rfl (lv_at hl 3 rfl) ?_
      refine lv_iload_n hx hb dX4_hear_44 rfl (lv_at hl 4 rfl) ?_
      refine k_Vv (wr := w_X ax (ap 0) (f0) (g0) (y0) tx) (ws' := (w_X ax (ap 0) (f0) (g0) (y0) tx) ++ (w_P k ap (f_X2_tell sP i1 i2 i3))) (rest := []) ⟨hx, hb, hml, hown, hts⟩ hK hA hP hD hS (c_X2_tell l k ap sP i1 i2 i3 (by first | assumption | exact k_hs hNs (by assumption) | exact k_hm hNm (by assumption) | exact (k_hb hNs hNm (by assumption)).1 | exact (k_hb hNs hNm (by assumption)).2) (by first | assumption | exact k_hs hNs (by assumption) | exact k_hm hNm (by assumption) | exact (k_hb hNs hNm (by assumption)).1 | exact (k_hb hNs hNm (by assumption)).2)) (cwV 3 hts gX4_hear_X2_tell rfl rfl rfl (by decide +kernel) ⟨Nat.le_of_ble_eq_true rfl, Nat.le_of_ble_eq_true rfl⟩) (va_recv hK hP (ci := 2) (q0 := 1) rfl rfl) rfl hl.1 rfl (Nat.le_of_ble_eq_true rfl) dX4_hear_45 (Nat.zero_le _) (Nat.zero_le _) [1, 2, 3, 4, 5, 6, 7, 8, 9, 10, 11, 12, 13, 14, 15, 16, 17, 18] [0] [0, 1, 2, 3, 4, 5, 6, 7, 8, 9, 10, 11, 12, 13, 14, 15, 16, 17, 18] rfl rfl rfl (by decide) rfl rfl rfl (fun H locs hP hD hS => ?_)
      obtain ⟨z_3, ez_3⟩ : ∃ z, z = f_X2_tell sP i1 i2 i3 := ⟨_, rfl⟩
      rw [← ez_3] at hP hD
      refine lv_iload hx hb dX4_hear_48 (lv_at hl 0 rfl) ?_
      have ef : f_X4_hear tx sP i1 i2 i3 = ((f_X2_heldFor sP i1 i2), (z_3)) := by
        rw [f_X4_hear, ← ez_3, if_neg c_1, if_neg c_2]
      exact k_reti hx hb hr hK (by rw [ef]; exact hP) (by rw [ef]; exact hD) hS hlocks dX4_hear_50 (by rw [ef])
    ·
      refine lv_bipush (v := (-2)) hx hb dX4_hear_24 (by decide) ?_
      have ef : f_X4_hear tx sP i1 i2 i3 = ((-2), sP) := by
        rw [f_X4_hear, if_neg c_1, if_pos c_2]
      exact k_reti hx hb hr hK (by rw [ef]; exact hP) (by rw [ef]; exact hD) hS hlocks dX4_hear_26 (by rw [ef])
  ·
    refine lv_iconst (v := (-1)) hx hb dX4_hear_12 (by decide) ?_
    have ef : f_X4_hear tx sP i1 i2 i3 = ((-1), sP) := by
      rw [f_X4_hear, if_pos c_1]
    exact k_reti hx hb hr hK (by rw [ef]; exact hP) (by rw [ef]; exact hD) hS hlocks dX4_hear_13 (by rw [ef])
theorem in_X4_pass_X4 : ∀ w ∈ wsX40, w ∈ wsX4_pass := fun _ h => List.mem_cons_of_mem _ (List.mem_append_left _ (List.mem_append_right _ h))
theorem in_X4_pass_X2 : ∀ w ∈ wsX20, w ∈ wsX4_pass := fun _ h => List.mem_cons_of_mem _ (List.mem_append_right _ h)
def f_X4_pass (tx : Int32) (sP : Nat → Nat → Int32) (i1 : Int32) (i2 : Int32) (i3 : Int32) : Int32 × (Nat → Nat → Int32) :=
  if (f_X2_hasBoth sP i1 i3) = 0 then ((-1), sP)
  else if (f_X2_hasMaster sP i2) = 0 then ((-1), sP)
  else if i1 = i2 then ((-3), sP)
  else if (f_X2_hasHeard sP i1 i3) = 0 then ((-3), sP)
  else ((f_X2_heldFor sP i1 i3), ((f_X2_tell sP i2 i3 (f_X2_heldFor sP i1 i3))))
set_option maxHeartbeats 4000000 in
set_option maxRecDepth 100000 in
theorem c_X4_pass (l : Launch) (k : K_X) (ax : Nat) (ap : Nat → Nat) (f0 : Nat) (g0 : Nat) (y0 : Nat) (tx : Int32) (sP : Nat → Nat → Int32) (i1 : Int32) (i2 : Int32) (i3 : Int32) (hNs : k_n (sP 0 0) 10) (hNm : k_n (sP 0 1) 10) : k_C l yX4_pass wsX4_pass (k_rm 2 43) k [.ref ax, .int i1, .int i2, .int i3] ((w_X ax (ap 0) (f0) (g0) (y0) tx) ++ (w_P k ap sP)) (k_qI k ((f_X4_pass tx sP i1 i2 i3).1) ((w_X ax (ap 0) (f0) (g0) (y0) tx) ++ (w_P k ap ((f_X4_pass tx sP i1 i2 i3).2)))) := by
  refine k_mk (cc := cX4_pass) (maxL := 5) (ret := (some .int)) (by decide) rfl (Nat.le_of_ble_eq_true rfl) ?_
  intro p e s m below meth c A ls C0 hP hD hS hl
  obtain ⟨hx, hb, hr, hts, hown, hlocks, hml, hA, hK⟩ := id C0
  have hown : s.vm.findClass RX4 = some m.cls := hown
  have hl : lv_has ls 5 [(0, .ref ax), (1, .int i1), (2, .int i2), (3, .int i3)] := hl
  refine lv_aload_n hx hb dX4_pass_0 rfl (lv_at hl 0 rfl) ?_
  refine va_get (D := k.1) (ci := 4) (v := .ref (ap 0)) (C := RX4) (T := TX4) (N := 5) hx hb hts in_X4_pass_X4 hown hK hP 0 rfl rfl 0 (by decide) (k_w hts 1 rfl) (fun _ h9 => h9) rfl dX4_pass_1 ?_
  refine lv_iload_n hx hb dX4_pass_4 rfl (lv_at hl 1 rfl) ?_
  refine lv_iload_n hx hb dX4_pass_5 rfl (lv_at hl 3 rfl) ?_
  refine k_Vi (wr := w_X ax (ap 0) (f0) (g0) (y0) tx) (ws' := (w_X ax (ap 0) (f0) (g0) (y0) tx) ++ (w_P k ap sP)) (Rv := (f_X2_hasBoth sP i1 i3)) (rest := []) ⟨hx, hb, hml, hown, hts⟩ hK hA hP hD hS (c_X2_hasBoth l k ap sP i1 i3) (cwV 2 hts gX4_pass_X2_hasBoth rfl rfl rfl (by decide +kernel) ⟨Nat.le_of_ble_eq_true rfl, Nat.le_of_ble_eq_true rfl⟩) (va_recv hK hP (ci := 2) (q0 := 1) rfl rfl) rfl hl.1 rfl (Nat.le_of_ble_eq_true rfl) dX4_pass_6 (Nat.zero_le _) (Nat.zero_le _) [1, 2, 3, 4, 5, 6, 7, 8, 9, 10, 11, 12, 13, 14, 15, 16, 17, 18] [0] [0, 1, 2, 3, 4, 5, 6, 7, 8, 9, 10, 11, 12, 13, 14, 15, 16, 17, 18] rfl rfl rfl (by decide) rfl rfl rfl (fun H locs hP hD hS => ?_)
  refine lv_if_eq (tgt := 23) hx hb dX4_pass_9 (by decide) (fun c_1 => ?_) (fun c_1 => ?_)
  ·
    refine lv_iconst (v := (-1)) hx hb dX4_pass_23 (by decide) ?_
    have ef : f_X4_pass tx sP i1 i2 i3 = ((-1), sP) := by
      rw [f_X4_pass, if_pos c_1]
    exact k_reti hx hb hr hK (by rw [ef]; exact hP) (by rw [ef]; exact hD) hS hlocks dX4_pass_24 (by rw [ef])
  ·
    refine lv_aload_n hx hb dX4_pass_12 rfl (lv_at hl 0 rfl) ?_
    refine va_get (D := k.1) (ci := 4) (v := .ref (ap 0)) (C := RX4) (T := TX4) (N := 5) hx hb hts in_X4_pass_X4 hown hK hP 0 rfl rfl 0 (by decide) (k_w hts 1 rfl) (fun _ h9 => h9) rfl dX4_pass_13 ?_
    refine lv_iload_n hx hb dX4_pass_16 rfl (lv_at hl 2 rfl) ?_
    refine k_Vi (wr := w_X ax (ap 0) (f0) (g0) (y0) tx) (ws' := (w_X ax (ap 0) (f0) (g0) (y0) tx) ++ (w_P k ap sP)) (Rv := (f_X2_hasMaster sP i2)) (rest := []) ⟨hx, hb, hml, hown, hts⟩ hK hA hP hD hS (c_X2_hasMaster l k ap sP i2) (cwV 1 hts gX4_pass_X2_hasMaster rfl rfl rfl (by decide +kernel) ⟨Nat.le_of_ble_eq_true rfl, Nat.le_of_ble_eq_true rfl⟩) (va_recv hK hP (ci := 2) (q0 := 1) rfl rfl) rfl hl.1 rfl (Nat.le_of_ble_eq_true rfl) dX4_pass_17 (Nat.zero_le _) (Nat.zero_le _) [1, 2, 3, 4, 5, 6, 7, 8, 9, 10, 11, 12, 13, 14, 15, 16, 17, 18] [0] [0, 1, 2, 3, 4, 5, 6, 7, 8, 9, 10, 11, 12, 13, 14, 15, 16, 17, 18] rfl rfl rfl (by decide) rfl rfl rfl (fun H locs hP hD hS => ?_)
    refine lv_if_ne (tgt := 25) hx hb dX4_pass_20 (by decide) (fun c_2 => ?_) (fun c_2 => ?_)
    ·
      refine lv_iload_n hx hb dX4_pass_25 rfl (lv_at hl 1 rfl) ?_
      refine lv_iload_n hx hb dX4_pass_26 rfl (lv_at hl 2 rfl) ?_
      refine lv_icmp_eq (tgt := 42) hx hb dX4_pass_27 (by decide) (fun c_3 => ?_) (fun c_3 => ?_)
      ·
        refine lv_bipush (v := (-3)) hx hb dX4_pass_42 (by decide) ?_
        have ef : f_X4_pass tx sP i1 i2 i3 = ((-3), sP) := by
          rw [f_X4_pass, if_neg c_1, if_neg c_2, if_pos c_3]
        exact k_reti hx hb hr hK (by rw [ef]; exact hP) (by rw [ef]; exact hD) hS hlocks dX4_pass_44 (by rw [ef])
      ·
        refine lv_aload_n hx hb dX4_pass_30 rfl (lv_at hl 0 rfl) ?_
        refine va_get (D := k.1) (ci := 4) (v := .ref (ap 0)) (C := RX4) (T := TX4) (N := 5) hx hb hts in_X4_pass_X4 hown hK hP 0 rfl rfl 0 (by decide) (k_w hts 1 rfl) (fun _ h9 => h9) rfl dX4_pass_31 ?_
        refine lv_iload_n hx hb dX4_pass_34 rfl (lv_at hl 1 rfl) ?_
        refine lv_iload_n hx hb dX4_pass_35 rfl (lv_at hl 3 rfl) ?_
        refine k_Vi (wr := w_X ax (ap 0) (f0) (g0) (y0) tx) (ws' := (w_X ax (ap 0) (f0) (g0) (y0) tx) ++ (w_P k ap sP)) (Rv := (f_X2_hasHeard sP i1 i3)) (rest := []) ⟨hx, hb, hml, hown, hts⟩ hK hA hP hD hS (c_X2_hasHeard l k ap sP i1 i3 (by first | assumption | exact k_hs hNs (by assumption) | exact k_hm hNm (by assumption) | exact (k_hb hNs hNm (by assumption)).1 | exact (k_hb hNs hNm (by assumption)).2) (by first | assumption | exact k_hs hNs (by assumption) | exact k_hm hNm (by assumption) | exact (k_hb hNs hNm (by assumption)).1 | exact (k_hb hNs hNm (by assumption)).2)) (cwV 2 hts gX4_pass_X2_hasHeard rfl rfl rfl (by decide +kernel) ⟨Nat.le_of_ble_eq_true rfl, Nat.le_of_ble_eq_true rfl⟩) (va_recv hK hP (ci := 2) (q0 := 1) rfl rfl) rfl hl.1 rfl (Nat.le_of_ble_eq_true rfl) dX4_pass_36 (Nat.zero_le _) (Nat.zero_le _) [1, 2, 3, 4, 5, 6, 7, 8, 9, 10, 11, 12, 13, 14, 15, 16, 17, 18] [0] [0, 1, 2, 3, 4, 5, 6, 7, 8, 9, 10, 11, 12, 13, 14, 15, 16, 17, 18] rfl rfl rfl (by decide) rfl rfl rfl (fun H locs hP hD hS => ?_)
        refine lv_if_ne (tgt := 45) hx hb dX4_pass_39 (by decide) (fun c_4 => ?_) (fun c_4 => ?_)
        ·
          refine lv_aload_n hx hb dX4_pass_45 rfl (lv_at hl 0 rfl) ?_
          refine va_get (D := k.1) (ci := 4) (v := .ref (ap 0)) (C := RX4) (T := TX4) (N := 5) hx hb hts in_X4_pass_X4 hown hK hP 0 rfl rfl 0 (by decide) (k_w hts 1 rfl) (fun _ h9 => h9) rfl dX4_pass_46 ?_
          refine lv_iload_n hx hb dX4_pass_49 rfl (lv_at hl 1 rfl) ?_
          refine lv_iload_n hx hb dX4_pass_50 rfl (lv_at hl 3 rfl) ?_
          refine k_Vi (wr := w_X ax (ap 0) (f0) (g0) (y0) tx) (ws' := (w_X ax (ap 0) (f0) (g0) (y0) tx) ++ (w_P k ap sP)) (Rv := (f_X2_heldFor sP i1 i3)) (rest := []) ⟨hx, hb, hml, hown, hts⟩ hK hA hP hD hS (c_X2_heldFor l k ap sP i1 i3 (by first | assumption | exact k_hs hNs (by assumption) | exact k_hm hNm (by assumption) | exact (k_hb hNs hNm (by assumption)).1 | exact (k_hb hNs hNm (by assumption)).2) (by first | assumption | exact k_hs hNs (by assumption) | exact k_hm hNm (by assumption) | exact (k_hb hNs hNm (by assumption)).1 | exact (k_hb hNs hNm (by assumption)).2)) (cwV 2 hts gX4_pass_X2_heldFor rfl rfl rfl (by decide +kernel) ⟨Nat.le_of_ble_eq_true rfl, Nat.le_of_ble_eq_true rfl⟩) (va_recv hK hP (ci := 2) (q0 := 1) rfl rfl) rfl hl.1 rfl (Nat.le_of_ble_eq_true rfl) dX4_pass_51 (Nat.zero_le _) (Nat.zero_le _) [1, 2, 3, 4, 5, 6, 7, 8, 9, 10, 11, 12, 13, 14, 15, 16, 17, 18] [0] [0, 1, 2, 3, 4, 5, 6, 7, 8, 9, 10, 11, 12, 13, 14, 15, 16, 17, 18] rfl rfl rfl (by decide) rfl rfl rfl (fun H locs hP hD hS => ?_)
          refine lv_istore (lv' := [(4, .int (f_X2_heldFor sP i1 i3)), (0, .ref ax), (1, .int i1), (2, .int i2), (3, .int i3)]) hx hb dX4_pass_54 hl (by decide) rfl (fun ls hl => ?_)
          refine lv_aload_n hx hb dX4_pass_56 rfl (lv_at hl 1 rfl) ?_
          refine va_get (D := k.1) (ci := 4) (v := .ref (ap 0)) (C := RX4) (T := TX4) (N := 5) hx hb hts in_X4_pass_X4 hown hK hP 0 rfl rfl 0 (by decide) (k_w hts 1 rfl) (fun _ h9 => h9) rfl dX4_pass_57 ?_
          refine lv_iload_n hx hb dX4_pass_60 rfl (lv_at hl 3 rfl) ?_
          refine lv_iload_n hx hb dX4_pass_61 rfl (lv_at hl 4 rfl) ?_
          refine lv_iload hx hb dX4_pass_62 (lv_at hl 0 rfl) ?_
          refine k_Vv (wr := w_X ax (ap 0) (f0) (g0) (y0) tx) (ws' := (w_X ax (ap 0) (f0) (g0) (y0) tx) ++ (w_P k ap (f_X2_tell sP i2 i3 (f_X2_heldFor sP i1 i3)))) (rest := []) ⟨hx, hb, hml, hown, hts⟩ hK hA hP hD hS (c_X2_tell l k ap sP i2 i3 (f_X2_heldFor sP i1 i3) (by first | assumption | exact k_hs hNs (by assumption) | exact k_hm hNm (by assumption) | exact (k_hb hNs hNm (by assumption)).1 | exact (k_hb hNs hNm (by assumption)).2) (by first | assumption | exact k_hs hNs (by assumption) | exact k_hm hNm (by assumption) | exact (k_hb hNs hNm (by assumption)).1 | exact (k_hb hNs hNm (by assumption)).2)) (cwV 3 hts gX4_pass_X2_tell rfl rfl rfl (by decide +kernel) ⟨Nat.le_of_ble_eq_true rfl, Nat.le_of_ble_eq_true rfl⟩) (va_recv hK hP (ci := 2) (q0 := 1) rfl rfl) rfl hl.1 rfl (Nat.le_of_ble_eq_true rfl) dX4_pass_64 (Nat.zero_le _) (Nat.zero_le _) [1, 2, 3, 4, 5, 6, 7, 8, 9, 10, 11, 12, 13, 14, 15, 16, 17, 18] [0] [0, 1, 2, 3, 4, 5, 6, 7, 8, 9, 10, 11, 12, 13, 14, 15, 16, 17, 18] rfl rfl rfl (by decide) rfl rfl rfl (fun H locs hP hD hS => ?_)
          obtain ⟨z_5, ez_5⟩ : ∃ z, z = f_X2_tell sP i2 i3 (f_X2_heldFor sP i1 i3) := ⟨_, rfl⟩
          rw [← ez_5] at hP hD
          refine lv_iload hx hb dX4_pass_67 (lv_at hl 0 rfl) ?_
          have ef : f_X4_pass tx sP i1 i2 i3 = ((f_X2_heldFor sP i1 i3), (z_5)) := by
            rw [f_X4_pass, ← ez_5, if_neg c_1, if_neg c_2, if_neg c_3, if_neg c_4]
          exact k_reti hx hb hr hK (by rw [ef]; exact hP) (by rw [ef]; exact hD) hS hlocks dX4_pass_69 (by rw [ef])
        ·
          refine lv_bipush (v := (-3)) hx hb dX4_pass_42 (by decide) ?_
          have ef : f_X4_pass tx sP i1 i2 i3 = ((-3), sP) := by
            rw [f_X4_pass, if_neg c_1, if_neg c_2, if_neg c_3, if_pos c_4]
          exact k_reti hx hb hr hK (by rw [ef]; exact hP) (by rw [ef]; exact hD) hS hlocks dX4_pass_44 (by rw [ef])
    ·
      refine lv_iconst (v := (-1)) hx hb dX4_pass_23 (by decide) ?_
      have ef : f_X4_pass tx sP i1 i2 i3 = ((-1), sP) := by
        rw [f_X4_pass, if_neg c_1, if_pos c_2]
      exact k_reti hx hb hr hK (by rw [ef]; exact hP) (by rw [ef]; exact hD) hS hlocks dX4_pass_24 (by rw [ef])
theorem in_X4_about_X4 : ∀ w ∈ wsX40, w ∈ wsX4_about := fun _ h => List.mem_cons_of_mem _ (List.mem_append_left _ (List.mem_append_left _ (List.mem_append_left _ (List.mem_append_right _ h))))
theorem in_X4_about_X2 : ∀ w ∈ wsX20, w ∈ wsX4_about := fun _ h => List.mem_cons_of_mem _ (List.mem_append_left _ (List.mem_append_left _ (List.mem_append_right _ h)))
theorem in_X4_about_X0 : ∀ w ∈ wsX00, w ∈ wsX4_about := fun _ h => List.mem_cons_of_mem _ (List.mem_append_left _ (List.mem_append_right _ h))
theorem in_X4_about_X3 : ∀ w ∈ wsX30, w ∈ wsX4_about := fun _ h => List.mem_cons_of_mem _ (List.mem_append_right _ h)
def f_X4_about (tx : Int32) (sP : Nat → Nat → Int32) (sF : Nat → Nat → Int32) (sY : Nat → Nat → Int32) (sJ : Nat → Int64) (i1 : Int32) (i2 : Int32) : Int32 :=
  if (f_X2_hasServant sP i1) = 0 then -1
  else if i2 = 0 then (sP 1) i1.toNatClampNeg
  else if i2 = 1 then (sP 2) i1.toNatClampNeg
  else if i2 = 2 then (sP 3) i1.toNatClampNeg
  else if i2 = 3 then (sF 1) i1.toNatClampNeg
  else if i2 = 4 then (sF 2) i1.toNatClampNeg
  else if i2 = 5 then (sF 3) i1.toNatClampNeg
  else if i2 = 6 then f_X3_endOf sF sY sJ i1
  else -2
set_option maxHeartbeats 4000000 in
set_option maxRecDepth 100000 in
theorem c_X4_about (l : Launch) (k : K_X) (ax : Nat) (ap : Nat → Nat) (af : Nat → Nat) (ay : Nat → Nat) (l0 : Nat) (g0 : Nat) (tx : Int32) (sP : Nat → Nat → Int32) (sF : Nat → Nat → Int32) (sY : Nat → Nat → Int32) (sJ : Nat → Int64) (i1 : Int32) (i2 : Int32) (hNs : k_n (sP 0 0) 10) : k_C l yX4_about wsX4_about (k_rm 2 42) k [.ref ax, .int i1, .int i2] ((w_X ax (ap 0) (af 0) (g0) (ay 0) tx) ++ (w_P k ap sP) ++ (w_F k af (ap 0) (l0) sF) ++ (w_Y k ay (af 0) sY sJ)) (k_qI k (f_X4_about tx sP sF sY sJ i1 i2) ((w_X ax (ap 0) (af 0) (g0) (ay 0) tx) ++ (w_P k ap sP) ++ (w_F k af (ap 0) (l0) sF) ++ (w_Y k ay (af 0) sY sJ))) := by
  refine k_mk (cc := cX4_about) (maxL := 3) (ret := (some .int)) (by decide) rfl (Nat.le_of_ble_eq_true rfl) ?_
  intro p e s m below meth c A ls C0 hP hD hS hl
  obtain ⟨hx, hb, hr, hts, hown, hlocks, hml, hA, hK⟩ := id C0
  have hown : s.vm.findClass RX4 = some m.cls := hown
  have hl : lv_has ls 3 [(0, .ref ax), (1, .int i1), (2, .int i2)] := hl
  refine lv_aload_n hx hb dX4_about_0 rfl (lv_at hl 0 rfl) ?_
  refine va_get (D := k.1) (ci := 4) (v := .ref (ap 0)) (C := RX4) (T := TX4) (N := 5) hx hb hts in_X4_about_X4 hown hK hP 0 rfl rfl 0 (by decide) (k_w hts 1 rfl) (fun _ h9 => h9) rfl dX4_about_1 ?_
  refine lv_iload_n hx hb dX4_about_4 rfl (lv_at hl 1 rfl) ?_
  refine k_Vi (wr := (w_X ax (ap 0) (af 0) (g0) (ay 0) tx) ++ (w_F k af (ap 0) (l0) sF) ++ (w_Y k ay (af 0) sY sJ)) (ws' := (w_X ax (ap 0) (af 0) (g0) (ay 0) tx) ++ (w_P k ap sP) ++ (w_F k af (ap 0) (l0) sF) ++ (w_Y k ay (af 0) sY sJ)) (Rv := (f_X2_hasServant sP i1)) (rest := []) ⟨hx, hb, hml, hown, hts⟩ hK hA hP hD hS (c_X2_hasServant l k ap sP i1) (cwV 1 hts gX4_about_X2_hasServant rfl rfl rfl (by decide +kernel) ⟨Nat.le_of_ble_eq_true rfl, Nat.le_of_ble_eq_true rfl⟩) (va_recv hK hP (ci := 2) (q0 := 1) rfl rfl) rfl hl.1 rfl (Nat.le_of_ble_eq_true rfl) dX4_about_5 (Nat.zero_le _) (Nat.zero_le _) [1, 2, 3, 4, 5, 6, 7, 8, 9, 10, 11, 12, 13, 14, 15, 16, 17, 18] [0, 19, 20, 21, 22, 23, 24, 25, 26, 27, 28, 29] [0, 12, 13, 14, 15, 16, 17, 18, 19, 20, 21, 22, 23, 24, 25, 26, 27, 28, 29, 1, 2, 3, 4, 5, 6, 7, 8, 9, 10, 11] rfl rfl rfl (by decide) rfl rfl rfl (fun H locs hP hD hS => ?_)
  refine lv_if_ne (tgt := 13) hx hb dX4_about_8 (by decide) (fun c_1 => ?_) (fun c_1 => ?_)
  ·
    refine lv_iload_n hx hb dX4_about_13 rfl (lv_at hl 2 rfl) ?_
    by_cases c_2 : i2 = 0
    ·
      refine lv_tableIn (off := 42) (tgt := 56) hx hb dX4_about_14 (by rw [c_2]; decide) (by rw [c_2]; decide) (by rw [c_2]; rfl) (by decide) ?_
      refine lv_aload_n hx hb dX4_about_56 rfl (lv_at hl 0 rfl) ?_
      refine va_get (D := k.1) (ci := 4) (v := .ref (ap 0)) (C := RX4) (T := TX4) (N := 5) hx hb hts in_X4_about_X4 hown hK hP 0 rfl rfl 0 (by decide) (k_w hts 1 rfl) (fun _ h9 => h9) rfl dX4_about_57 ?_
      refine va_get (D := k.1) (ci := 2) (v := .ref (ap 1)) (C := RX2) (T := TX2) (N := 9) hx hb hts in_X4_about_X2 hown hK hP 1 rfl rfl 1 (by decide) (k_w hts 2 rfl) (fun _ h9 => h9) rfl dX4_about_60 ?_
      refine lv_iload_n hx hb dX4_about_63 rfl (lv_at hl 1 rfl) ?_
      refine va_iald (f := sP 1) hx hb hK hP 2 0 rfl rfl (by first | assumption | exact k_hs hNs (by assumption) | exact k_hm hNm (by assumption) | exact (k_hb hNs hNm (by assumption)).1 | exact (k_hb hNs hNm (by assumption)).2) dX4_about_64 ?_
      have ef : f_X4_about tx sP sF sY sJ i1 i2 = (sP 1) i1.toNatClampNeg := by
        rw [f_X4_about, if_neg c_1, if_pos c_2]
      exact k_reti hx hb hr hK hP hD hS hlocks dX4_about_65 (by rw [ef])
    by_cases c_3 : i2 = 1
    ·
      refine lv_tableIn (off := 52) (tgt := 66) hx hb dX4_about_14 (by rw [c_3]; decide) (by rw [c_3]; decide) (by rw [c_3]; rfl) (by decide) ?_
      refine lv_aload_n hx hb dX4_about_66 rfl (lv_at hl 0 rfl) ?_
      refine va_get (D := k.1) (ci := 4) (v := .ref (ap 0)) (C := RX4) (T := TX4) (N := 5) hx hb hts in_X4_about_X4 hown hK hP 0 rfl rfl 0 (by decide) (k_w hts 1 rfl) (fun _ h9 => h9) rfl dX4_about_67 ?_
      refine va_get (D := k.1) (ci := 2) (v := .ref (ap 2)) (C := RX2) (T := TX2) (N := 9) hx hb hts in_X4_about_X2 hown hK hP 1 rfl rfl 2 (by decide) (k_w hts 3 rfl) (fun _ h9 => h9) rfl dX4_about_70 ?_
      refine lv_iload_n hx hb dX4_about_73 rfl (lv_at hl 1 rfl) ?_
      refine va_iald (f := sP 2) hx hb hK hP 3 0 rfl rfl (by first | assumption | exact k_hs hNs (by assumption) | exact k_hm hNm (by assumption) | exact (k_hb hNs hNm (by assumption)).1 | exact (k_hb hNs hNm (by assumption)).2) dX4_about_74 ?_
      have ef : f_X4_about tx sP sF sY sJ i1 i2 = (sP 2) i1.toNatClampNeg := by
        rw [f_X4_about, if_neg c_1, if_neg c_2, if_pos c_3]
      exact k_reti hx hb hr hK hP hD hS hlocks dX4_about_75 (by rw [ef])
    by_cases c_4 : i2 = 2
    ·
      refine lv_tableIn (off := 62) (tgt := 76) hx hb dX4_about_14 (by rw [c_4]; decide) (by rw [c_4]; decide) (by rw [c_4]; rfl) (by decide) ?_
      refine lv_aload_n hx hb dX4_about_76 rfl (lv_at hl 0 rfl) ?_
      refine va_get (D := k.1) (ci := 4) (v := .ref (ap 0)) (C := RX4) (T := TX4) (N := 5) hx hb hts in_X4_about_X4 hown hK hP 0 rfl rfl 0 (by decide) (k_w hts 1 rfl) (fun _ h9 => h9) rfl dX4_about_77 ?_
      refine va_get (D := k.1) (ci := 2) (v := .ref (ap 3)) (C := RX2) (T := TX2) (N := 9) hx hb hts in_X4_about_X2 hown hK hP 1 rfl rfl 3 (by decide) (k_w hts 4 rfl) (fun _ h9 => h9) rfl dX4_about_80 ?_
      refine lv_iload_n hx hb dX4_about_83 rfl (lv_at hl 1 rfl) ?_
      refine va_iald (f := sP 3) hx hb hK hP 4 0 rfl rfl (by first | assumption | exact k_hs hNs (by assumption) | exact k_hm hNm (by assumption) | exact (k_hb hNs hNm (by assumption)).1 | exact (k_hb hNs hNm (by assumption)).2) dX4_about_84 ?_
      have ef : f_X4_about tx sP sF sY sJ i1 i2 = (sP 3) i1.toNatClampNeg := by
        rw [f_X4_about, if_neg c_1, if_neg c_2, if_neg c_3, if_pos c_4]
      exact k_reti hx hb hr hK hP hD hS hlocks dX4_about_85 (by rw [ef])
    by_cases c_5 : i2 = 3
    ·
      refine lv_tableIn (off := 72) (tgt := 86) hx hb dX4_about_14 (by rw [c_5]; decide) (by rw [c_5]; decide) (by rw [c_5]; rfl) (by decide) ?_
      refine lv_aload_n hx hb dX4_about_86 rfl (lv_at hl 0 rfl) ?_
      refine va_get (D := k.1) (ci := 4) (v := .ref (af 0)) (C := RX4) (T := TX4) (N := 5) hx hb hts in_X4_about_X4 hown hK hP 0 rfl rfl 1 (by decide) (k_w hts 5 rfl) (fun _ h9 => h9) rfl dX4_about_87 ?_
      refine va_get (D := k.1) (ci := 0) (v := .ref (af 1)) (C := RX0) (T := TX0) (N := 8) hx hb hts in_X4_about_X0 hown hK hP 19 rfl rfl 3 (by decide) (k_w hts 6 rfl) (fun _ h9 => h9) rfl dX4_about_90 ?_
      refine lv_iload_n hx hb dX4_about_93 rfl (lv_at hl 1 rfl) ?_
      refine va_iald (f := sF 1) hx hb hK hP 20 0 rfl rfl (by first | assumption | exact k_hs hNs (by assumption) | exact k_hm hNm (by assumption) | exact (k_hb hNs hNm (by assumption)).1 | exact (k_hb hNs hNm (by assumption)).2) dX4_about_94 ?_
      have ef : f_X4_about tx sP sF sY sJ i1 i2 = (sF 1) i1.toNatClampNeg := by
        rw [f_X4_about, if_neg c_1, if_neg c_2, if_neg c_3, if_neg c_4, if_pos c_5]
      exact k_reti hx hb hr hK hP hD hS hlocks dX4_about_95 (by rw [ef])
    by_cases c_6 : i2 = 4
    ·
      refine lv_tableIn (off := 82) (tgt := 96) hx hb dX4_about_14 (by rw [c_6]; decide) (by rw [c_6]; decide) (by rw [c_6]; rfl) (by decide) ?_
      refine lv_aload_n hx hb dX4_about_96 rfl (lv_at hl 0 rfl) ?_
      refine va_get (D := k.1) (ci := 4) (v := .ref (af 0)) (C := RX4) (T := TX4) (N := 5) hx hb hts in_X4_about_X4 hown hK hP 0 rfl rfl 1 (by decide) (k_w hts 5 rfl) (fun _ h9 => h9) rfl dX4_about_97 ?_
      refine va_get (D := k.1) (ci := 0) (v := .ref (af 2)) (C := RX0) (T := TX0) (N := 8) hx hb hts in_X4_about_X0 hown hK hP 19 rfl rfl 4 (by decide) (k_w hts 7 rfl) (fun _ h9 => h9) rfl dX4_about_100 ?_
      refine lv_iload_n hx hb dX4_about_103 rfl (lv_at hl 1 rfl) ?_
      refine va_iald (f := sF 2) hx hb hK hP 21 0 rfl rfl (by first | assumption | exact k_hs hNs (by assumption) | exact k_hm hNm (by assumption) | exact (k_hb hNs hNm (by assumption)).1 | exact (k_hb hNs hNm (by assumption)).2) dX4_about_104 ?_
      have ef : f_X4_about tx sP sF sY sJ i1 i2 = (sF 2) i1.toNatClampNeg := by
        rw [f_X4_about, if_neg c_1, if_neg c_2, if_neg c_3, if_neg c_4, if_neg c_5, if_pos c_6]
      exact k_reti hx hb hr hK hP hD hS hlocks dX4_about_105 (by rw [ef])
    by_cases c_7 : i2 = 5
    ·
      refine lv_tableIn (off := 92) (tgt := 106) hx hb dX4_about_14 (by rw [c_7]; decide) (by rw [c_7]; decide) (by rw [c_7]; rfl) (by decide) ?_
      refine lv_aload_n hx hb dX4_about_106 rfl (lv_at hl 0 rfl) ?_
      refine va_get (D := k.1) (ci := 4) (v := .ref (af 0)) (C := RX4) (T := TX4) (N := 5) hx hb hts in_X4_about_X4 hown hK hP 0 rfl rfl 1 (by decide) (k_w hts 5 rfl) (fun _ h9 => h9) rfl dX4_about_107 ?_
      refine va_get (D := k.1) (ci := 0) (v := .ref (af 3)) (C := RX0) (T := TX0) (N := 8) hx hb hts in_X4_about_X0 hown hK hP 19 rfl rfl 5 (by decide) (k_w hts 8 rfl) (fun _ h9 => h9) rfl dX4_about_110 ?_
      refine lv_iload_n hx hb dX4_about_113 rfl (lv_at hl 1 rfl) ?_
      refine va_iald (f := sF 3) hx hb hK hP 22 0 rfl rfl (by first | assumption | exact k_hs hNs (by assumption) | exact k_hm hNm (by assumption) | exact (k_hb hNs hNm (by assumption)).1 | exact (k_hb hNs hNm (by assumption)).2) dX4_about_114 ?_
      have ef : f_X4_about tx sP sF sY sJ i1 i2 = (sF 3) i1.toNatClampNeg := by
        rw [f_X4_about, if_neg c_1, if_neg c_2, if_neg c_3, if_neg c_4, if_neg c_5, if_neg c_6, if_pos c_7]
      exact k_reti hx hb hr hK hP hD hS hlocks dX4_about_115 (by rw [ef])
    by_cases c_8 : i2 = 6
    ·
      refine lv_tableIn (off := 102) (tgt := 116) hx hb dX4_about_14 (by rw [c_8]; decide) (by rw [c_8]; decide) (by rw [c_8]; rfl) (by decide) ?_
      refine lv_aload_n hx hb dX4_about_116 rfl (lv_at hl 0 rfl) ?_
      refine va_get (D := k.1) (ci := 4) (v := .ref (ay 0)) (C := RX4) (T := TX4) (N := 5) hx hb hts in_X4_about_X4 hown hK hP 0 rfl rfl 3 (by decide) (k_w hts 9 rfl) (fun _ h9 => h9) rfl dX4_about_117 ?_
      refine lv_iload_n hx hb dX4_about_120 rfl (lv_at hl 1 rfl) ?_
      refine k_Vi (wr := (w_X ax (ap 0) (af 0) (g0) (ay 0) tx) ++ (w_P k ap sP)) (ws' := (w_X ax (ap 0) (af 0) (g0) (ay 0) tx) ++ (w_P k ap sP) ++ (w_F k af (ap 0) (l0) sF) ++ (w_Y k ay (af 0) sY sJ)) (Rv := (f_X3_endOf sF sY sJ i1)) (rest := []) ⟨hx, hb, hml, hown, hts⟩ hK hA hP hD hS (c_X3_endOf l k af ay (ap 0) (l0) sF sY sJ i1 (by first | assumption | exact k_hs hNs (by assumption) | exact k_hm hNm (by assumption) | exact (k_hb hNs hNm (by assumption)).1 | exact (k_hb hNs hNm (by assumption)).2)) (cwV 1 hts gX4_about_X3_endOf rfl rfl rfl (by decide +kernel) ⟨Nat.le_of_ble_eq_true rfl, Nat.le_of_ble_eq_true rfl⟩) (va_recv hK hP (ci := 3) (q0 := 25) rfl rfl) rfl hl.1 rfl (Nat.le_of_ble_eq_true rfl) dX4_about_121 (Nat.zero_le _) (Nat.zero_le _) [19, 20, 21, 22, 23, 24, 25, 26, 27, 28, 29] [0, 1, 2, 3, 4, 5, 6, 7, 8, 9, 10, 11, 12, 13, 14, 15, 16, 17, 18] [0, 1, 2, 3, 4, 5, 6, 7, 8, 9, 10, 11, 12, 13, 14, 15, 16, 17, 18, 19, 20, 21, 22, 23, 24, 25, 26, 27, 28, 29] rfl rfl rfl (by decide) rfl rfl rfl (fun H locs hP hD hS => ?_)
      have ef : f_X4_about tx sP sF sY sJ i1 i2 = f_X3_endOf sF sY sJ i1 := by
        rw [f_X4_about, if_neg c_1, if_neg c_2, if_neg c_3, if_neg c_4, if_neg c_5, if_neg c_6, if_neg c_7, if_pos c_8]
      exact k_reti hx hb hr hK hP hD hS hlocks dX4_about_124 (by rw [ef])
    refine lv_tableOut (tgt := 125) hx hb dX4_about_14 (by have q0 := lv_neT c_2 (a := 0) (by decide); have q1 := lv_neT c_3 (a := 1) (by decide); have q2 := lv_neT c_4 (a := 2) (by decide); have q3 := lv_neT c_5 (a := 3) (by decide); have q4 := lv_neT c_6 (a := 4) (by decide); have q5 := lv_neT c_7 (a := 5) (by decide); have q6 := lv_neT c_8 (a := 6) (by decide); omega) (by decide) ?_
    refine lv_bipush (v := (-2)) hx hb dX4_about_125 (by decide) ?_
    have ef : f_X4_about tx sP sF sY sJ i1 i2 = -2 := by
      rw [f_X4_about, if_neg c_1, if_neg c_2, if_neg c_3, if_neg c_4, if_neg c_5, if_neg c_6, if_neg c_7, if_neg c_8]
    exact k_reti hx hb hr hK hP hD hS hlocks dX4_about_127 (by rw [ef])
  ·
    refine lv_iconst (v := (-1)) hx hb dX4_about_11 (by decide) ?_
    have ef : f_X4_about tx sP sF sY sJ i1 i2 = -1 := by
      rw [f_X4_about, if_pos c_1]
    exact k_reti hx hb hr hK hP hD hS hlocks dX4_about_12 (by rw [ef])
theorem in_X4_house_X4 : ∀ w ∈ wsX40, w ∈ wsX4_house := fun _ h => List.mem_cons_of_mem _ (List.mem_append_left _ (List.mem_append_left _ (List.mem_append_right _ h)))
theorem in_X4_house_X2 : ∀ w ∈ wsX20, w ∈ wsX4_house := fun _ h => List.mem_cons_of_mem _ (List.mem_append_left _ (List.mem_append_right _ h))
theorem in_X4_house_X0 : ∀ w ∈ wsX00, w ∈ wsX4_house := fun _ h => List.mem_cons_of_mem _ (List.mem_append_right _ h)
def f_X4_house (tx : Int32) (sP : Nat → Nat → Int32) (sF : Nat → Nat → Int32) (i1 : Int32) (i2 : Int32) : Int32 :=
  if (f_X2_hasMaster sP i1) = 0 then -1
  else if i2 = 0 then (sP 4) i1.toNatClampNeg
  else if i2 = 1 then (sP 5) i1.toNatClampNeg
  else if i2 = 2 then (sF 4) i1.toNatClampNeg
  else if i2 = 3 then f_X0_countAsked sF i1
  else -2
set_option maxHeartbeats 4000000 in
set_option maxRecDepth 100000 in
theorem c_X4_house (l : Launch) (k : K_X) (ax : Nat) (ap : Nat → Nat) (af : Nat → Nat) (l0 : Nat) (g0 : Nat) (y0 : Nat) (tx : Int32) (sP : Nat → Nat → Int32) (sF : Nat → Nat → Int32) (i1 : Int32) (i2 : Int32) (hNm : k_n (sP 0 1) 10) : k_C l yX4_house wsX4_house (k_rm 2 41) k [.ref ax, .int i1, .int i2] ((w_X ax (ap 0) (af 0) (g0) (y0) tx) ++ (w_P k ap sP) ++ (w_F k af (ap 0) (l0) sF)) (k_qI k (f_X4_house tx sP sF i1 i2) ((w_X ax (ap 0) (af 0) (g0) (y0) tx) ++ (w_P k ap sP) ++ (w_F k af (ap 0) (l0) sF))) := by
  refine k_mk (cc := cX4_house) (maxL := 3) (ret := (some .int)) (by decide) rfl (Nat.le_of_ble_eq_true rfl) ?_
  intro p e s m below meth c A ls C0 hP hD hS hl
  obtain ⟨hx, hb, hr, hts, hown, hlocks, hml, hA, hK⟩ := id C0
  have hown : s.vm.findClass RX4 = some m.cls := hown
  have hl : lv_has ls 3 [(0, .ref ax), (1, .int i1), (2, .int i2)] := hl
  refine lv_aload_n hx hb dX4_house_0 rfl (lv_at hl 0 rfl) ?_
  refine va_get (D := k.1) (ci := 4) (v := .ref (ap 0)) (C := RX4) (T := TX4) (N := 5) hx hb hts in_X4_house_X4 hown hK hP 0 rfl rfl 0 (by decide) (k_w hts 1 rfl) (fun _ h9 => h9) rfl dX4_house_1 ?_
  refine lv_iload_n hx hb dX4_house_4 rfl (lv_at hl 1 rfl) ?_
  refine k_Vi (wr := (w_X ax (ap 0) (af 0) (g0) (y0) tx) ++ (w_F k af (ap 0) (l0) sF)) (ws' := (w_X ax (ap 0) (af 0) (g0) (y0) tx) ++ (w_P k ap sP) ++ (w_F k af (ap 0) (l0) sF)) (Rv := (f_X2_hasMaster sP i1)) (rest := []) ⟨hx, hb, hml, hown, hts⟩ hK hA hP hD hS (c_X2_hasMaster l k ap sP i1) (cwV 1 hts gX4_house_X2_hasMaster rfl rfl rfl (by decide +kernel) ⟨Nat.le_of_ble_eq_true rfl, Nat.le_of_ble_eq_true rfl⟩) (va_recv hK hP (ci := 2) (q0 := 1) rfl rfl) rfl hl.1 rfl (Nat.le_of_ble_eq_true rfl) dX4_house_5 (Nat.zero_le _) (Nat.zero_le _) [1, 2, 3, 4, 5, 6, 7, 8, 9, 10, 11, 12, 13, 14, 15, 16, 17, 18] [0, 19, 20, 21, 22, 23, 24] [0, 7, 8, 9, 10, 11, 12, 13, 14, 15, 16, 17, 18, 19, 20, 21, 22, 23, 24, 1, 2, 3, 4, 5, 6] rfl rfl rfl (by decide) rfl rfl rfl (fun H locs hP hD hS => ?_)
  refine lv_if_ne (tgt := 13) hx hb dX4_house_8 (by decide) (fun c_1 => ?_) (fun c_1 => ?_)
  ·
    refine lv_iload_n hx hb dX4_house_13 rfl (lv_at hl 2 rfl) ?_
    by_cases c_2 : i2 = 0
    ·
      refine lv_tableIn (off := 30) (tgt := 44) hx hb dX4_house_14 (by rw [c_2]; decide) (by rw [c_2]; decide) (by rw [c_2]; rfl) (by decide) ?_
      refine lv_aload_n hx hb dX4_house_44 rfl (lv_at hl 0 rfl) ?_
      refine va_get (D := k.1) (ci := 4) (v := .ref (ap 0)) (C := RX4) (T := TX4) (N := 5) hx hb hts in_X4_house_X4 hown hK hP 0 rfl rfl 0 (by decide) (k_w hts 1 rfl) (fun _ h9 => h9) rfl dX4_house_45 ?_
      refine va_get (D := k.1) (ci := 2) (v := .ref (ap 4)) (C := RX2) (T := TX2) (N := 9) hx hb hts in_X4_house_X2 hown hK hP 1 rfl rfl 5 (by decide) (k_w hts 2 rfl) (fun _ h9 => h9) rfl dX4_house_48 ?_
      refine lv_iload_n hx hb dX4_house_51 rfl (lv_at hl 1 rfl) ?_
      refine va_iald (f := sP 4) hx hb hK hP 5 0 rfl rfl (by first | assumption | exact k_hs hNs (by assumption) | exact k_hm hNm (by assumption) | exact (k_hb hNs hNm (by assumption)).1 | exact (k_hb hNs hNm (by assumption)).2) dX4_house_52 ?_
      have ef : f_X4_house tx sP sF i1 i2 = (sP 4) i1.toNatClampNeg := by
        rw [f_X4_house, if_neg c_1, if_pos c_2]
      exact k_reti hx hb hr hK hP hD hS hlocks dX4_house_53 (by rw [ef])
    by_cases c_3 : i2 = 1
    ·
      refine lv_tableIn (off := 40) (tgt := 54) hx hb dX4_house_14 (by rw [c_3]; decide) (by rw [c_3]; decide) (by rw [c_3]; rfl) (by decide) ?_
      refine lv_aload_n hx hb dX4_house_54 rfl (lv_at hl 0 rfl) ?_
      refine va_get (D := k.1) (ci := 4) (v := .ref (ap 0)) (C := RX4) (T := TX4) (N := 5) hx hb hts in_X4_house_X4 hown hK hP 0 rfl rfl 0 (by decide) (k_w hts 1 rfl) (fun _ h9 => h9) rfl dX4_house_55 ?_
      refine va_get (D := k.1) (ci := 2) (v := .ref (ap 5)) (C := RX2) (T := TX2) (N := 9) hx hb hts in_X4_house_X2 hown hK hP 1 rfl rfl 6 (by decide) (k_w hts 3 rfl) (fun _ h9 => h9) rfl dX4_house_58 ?_
      refine lv_iload_n hx hb dX4_house_61 rfl (lv_at hl 1 rfl) ?_
      refine va_iald (f := sP 5) hx hb hK hP 6 0 rfl rfl (by first | assumption | exact k_hs hNs (by assumption) | exact k_hm hNm (by assumption) | exact (k_hb hNs hNm (by assumption)).1 | exact (k_hb hNs hNm (by assumption)).2) dX4_house_62 ?_
      have ef : f_X4_house tx sP sF i1 i2 = (sP 5) i1.toNatClampNeg := by
        rw [f_X4_house, if_neg c_1, if_neg c_2, if_pos c_3]
      exact k_reti hx hb hr hK hP hD hS hlocks dX4_house_63 (by rw [ef])
    by_cases c_4 : i2 = 2
    ·
      refine lv_tableIn (off := 50) (tgt := 64) hx hb dX4_house_14 (by rw [c_4]; decide) (by rw [c_4]; decide) (by rw [c_4]; rfl) (by decide) ?_
      refine lv_aload_n hx hb dX4_house_64 rfl (lv_at hl 0 rfl) ?_
      refine va_get (D := k.1) (ci := 4) (v := .ref (af 0)) (C := RX4) (T := TX4) (N := 5) hx hb hts in_X4_house_X4 hown hK hP 0 rfl rfl 1 (by decide) (k_w hts 4 rfl) (fun _ h9 => h9) rfl dX4_house_65 ?_
      refine va_get (D := k.1) (ci := 0) (v := .ref (af 4)) (C := RX0) (T := TX0) (N := 8) hx hb hts in_X4_house_X0 hown hK hP 19 rfl rfl 6 (by decide) (k_w hts 5 rfl) (fun _ h9 => h9) rfl dX4_house_68 ?_
      refine lv_iload_n hx hb dX4_house_71 rfl (lv_at hl 1 rfl) ?_
      refine va_iald (f := sF 4) hx hb hK hP 23 0 rfl rfl (by first | assumption | exact k_hs hNs (by assumption) | exact k_hm hNm (by assumption) | exact (k_hb hNs hNm (by assumption)).1 | exact (k_hb hNs hNm (by assumption)).2) dX4_house_72 ?_
      have ef : f_X4_house tx sP sF i1 i2 = (sF 4) i1.toNatClampNeg := by
        rw [f_X4_house, if_neg c_1, if_neg c_2, if_neg c_3, if_pos c_4]
      exact k_reti hx hb hr hK hP hD hS hlocks dX4_house_73 (by rw [ef])
    by_cases c_5 : i2 = 3
    ·
      refine lv_tableIn (off := 60) (tgt := 74) hx hb dX4_house_14 (by rw [c_5]; decide) (by rw [c_5]; decide) (by rw [c_5]; rfl) (by decide) ?_
      refine lv_aload_n hx hb dX4_house_74 rfl (lv_at hl 0 rfl) ?_
      refine va_get (D := k.1) (ci := 4) (v := .ref (af 0)) (C := RX4) (T := TX4) (N := 5) hx hb hts in_X4_house_X4 hown hK hP 0 rfl rfl 1 (by decide) (k_w hts 4 rfl) (fun _ h9 => h9) rfl dX4_house_75 ?_
      refine lv_iload_n hx hb dX4_house_78 rfl (lv_at hl 1 rfl) ?_
      refine k_Vi (wr := (w_X ax (ap 0) (af 0) (g0) (y0) tx) ++ (w_P k ap sP)) (ws' := (w_X ax (ap 0) (af 0) (g0) (y0) tx) ++ (w_P k ap sP) ++ (w_F k af (ap 0) (l0) sF)) (Rv := (f_X0_countAsked sF i1)) (rest := []) ⟨hx, hb, hml, hown, hts⟩ hK hA hP hD hS (c_X0_countAsked l k af (ap 0) (l0) sF i1 (by first | assumption | exact k_hs hNs (by assumption) | exact k_hm hNm (by assumption) | exact (k_hb hNs hNm (by assumption)).1 | exact (k_hb hNs hNm (by assumption)).2)) (cwV 1 hts gX4_house_X0_countAsked rfl rfl rfl (by decide +kernel) ⟨Nat.le_of_ble_eq_true rfl, Nat.le_of_ble_eq_true rfl⟩) (va_recv hK hP (ci := 0) (q0 := 19) rfl rfl) rfl hl.1 rfl (Nat.le_of_ble_eq_true rfl) dX4_house_79 (Nat.zero_le _) (Nat.zero_le _) [19, 20, 21, 22, 23, 24] [0, 1, 2, 3, 4, 5, 6, 7, 8, 9, 10, 11, 12, 13, 14, 15, 16, 17, 18] [0, 1, 2, 3, 4, 5, 6, 7, 8, 9, 10, 11, 12, 13, 14, 15, 16, 17, 18, 19, 20, 21, 22, 23, 24] rfl rfl rfl (by decide) rfl rfl rfl (fun H locs hP hD hS => ?_)
      have ef : f_X4_house tx sP sF i1 i2 = f_X0_countAsked sF i1 := by
        rw [f_X4_house, if_neg c_1, if_neg c_2, if_neg c_3, if_neg c_4, if_pos c_5]
      exact k_reti hx hb hr hK hP hD hS hlocks dX4_house_82 (by rw [ef])
    refine lv_tableOut (tgt := 83) hx hb dX4_house_14 (by have q0 := lv_neT c_2 (a := 0) (by decide); have q1 := lv_neT c_3 (a := 1) (by decide); have q2 := lv_neT c_4 (a := 2) (by decide); have q3 := lv_neT c_5 (a := 3) (by decide); omega) (by decide) ?_
    refine lv_bipush (v := (-2)) hx hb dX4_house_83 (by decide) ?_
    have ef : f_X4_house tx sP sF i1 i2 = -2 := by
      rw [f_X4_house, if_neg c_1, if_neg c_2, if_neg c_3, if_neg c_4, if_neg c_5]
    exact k_reti hx hb hr hK hP hD hS hlocks dX4_house_85 (by rw [ef])
  ·
    refine lv_iconst (v := (-1)) hx hb dX4_house_11 (by decide) ?_
    have ef : f_X4_house tx sP sF i1 i2 = -1 := by
      rw [f_X4_house, if_pos c_1]
    exact k_reti hx hb hr hK hP hD hS hlocks dX4_house_12 (by rw [ef])
theorem in_X4_holds_X4 : ∀ w ∈ wsX40, w ∈ wsX4_holds := fun _ h => List.mem_cons_of_mem _ (List.mem_append_left _ (List.mem_append_right _ h))
theorem in_X4_holds_X2 : ∀ w ∈ wsX20, w ∈ wsX4_holds := fun _ h => List.mem_cons_of_mem _ (List.mem_append_right _ h)
def f_X4_holds (tx : Int32) (sP : Nat → Nat → Int32) (i1 : Int32) (i2 : Int32) : Int32 :=
  if (f_X2_hasBoth sP i1 i2) = 0 then -1
  else f_X2_heldFor sP i1 i2
set_option maxHeartbeats 4000000 in
set_option maxRecDepth 100000 in
theorem c_X4_holds (l : Launch) (k : K_X) (ax : Nat) (ap : Nat → Nat) (f0 : Nat) (g0 : Nat) (y0 : Nat) (tx : Int32) (sP : Nat → Nat → Int32) (i1 : Int32) (i2 : Int32) (hNs : k_n (sP 0 0) 10) (hNm : k_n (sP 0 1) 10) : k_C l yX4_holds wsX4_holds (k_rm 2 43) k [.ref ax, .int i1, .int i2] ((w_X ax (ap 0) (f0) (g0) (y0) tx) ++ (w_P k ap sP)) (k_qI k (f_X4_holds tx sP i1 i2) ((w_X ax (ap 0) (f0) (g0) (y0) tx) ++ (w_P k ap sP))) := by
  refine k_mk (cc := cX4_holds) (maxL := 3) (ret := (some .int)) (by decide) rfl (Nat.le_of_ble_eq_true rfl) ?_
  intro p e s m below meth c A ls C0 hP hD hS hl
  obtain ⟨hx, hb, hr, hts, hown, hlocks, hml, hA, hK⟩ := id C0
  have hown : s.vm.findClass RX4 = some m.cls := hown
  have hl : lv_has ls 3 [(0, .ref ax), (1, .int i1), (2, .int i2)] := hl
  refine lv_aload_n hx hb dX4_holds_0 rfl (lv_at hl 0 rfl) ?_
  refine va_get (D := k.1) (ci := 4) (v := .ref (ap 0)) (C := RX4) (T := TX4) (N := 5) hx hb hts in_X4_holds_X4 hown hK hP 0 rfl rfl 0 (by decide) (k_w hts 1 rfl) (fun _ h9 => h9) rfl dX4_holds_1 ?_
  refine lv_iload_n hx hb dX4_holds_4 rfl (lv_at hl 1 rfl) ?_
  refine lv_iload_n hx hb dX4_holds_5 rfl (lv_at hl 2 rfl) ?_
  refine k_Vi (wr := w_X ax (ap 0) (f0) (g0) (y0) tx) (ws' := (w_X ax (ap 0) (f0) (g0) (y0) tx) ++ (w_P k ap sP)) (Rv := (f_X2_hasBoth sP i1 i2)) (rest := []) ⟨hx, hb, hml, hown, hts⟩ hK hA hP hD hS (c_X2_hasBoth l k ap sP i1 i2) (cwV 2 hts gX4_holds_X2_hasBoth rfl rfl rfl (by decide +kernel) ⟨Nat.le_of_ble_eq_true rfl, Nat.le_of_ble_eq_true rfl⟩) (va_recv hK hP (ci := 2) (q0 := 1) rfl rfl) rfl hl.1 rfl (Nat.le_of_ble_eq_true rfl) dX4_holds_6 (Nat.zero_le _) (Nat.zero_le _) [1, 2, 3, 4, 5, 6, 7, 8, 9, 10, 11, 12, 13, 14, 15, 16, 17, 18] [0] [0, 1, 2, 3, 4, 5, 6, 7, 8, 9, 10, 11, 12, 13, 14, 15, 16, 17, 18] rfl rfl rfl (by decide) rfl rfl rfl (fun H locs hP hD hS => ?_)
  refine lv_if_eq (tgt := 24) hx hb dX4_holds_9 (by decide) (fun c_1 => ?_) (fun c_1 => ?_)
  ·
    refine lv_iconst (v := (-1)) hx hb dX4_holds_24 (by decide) ?_
    have ef : f_X4_holds tx sP i1 i2 = -1 := by
      rw [f_X4_holds, if_pos c_1]
    exact k_reti hx hb hr hK hP hD hS hlocks dX4_holds_25 (by rw [ef])
  ·
    refine lv_aload_n hx hb dX4_holds_12 rfl (lv_at hl 0 rfl) ?_
    refine va_get (D := k.1) (ci := 4) (v := .ref (ap 0)) (C := RX4) (T := TX4) (N := 5) hx hb hts in_X4_holds_X4 hown hK hP 0 rfl rfl 0 (by decide) (k_w hts 1 rfl) (fun _ h9 => h9) rfl dX4_holds_13 ?_
    refine lv_iload_n hx hb dX4_holds_16 rfl (lv_at hl 1 rfl) ?_
    refine lv_iload_n hx hb dX4_holds_17 rfl (lv_at hl 2 rfl) ?_
    refine k_Vi (wr := w_X ax (ap 0) (f0) (g0) (y0) tx) (ws' := (w_X ax (ap 0) (f0) (g0) (y0) tx) ++ (w_P k ap sP)) (Rv := (f_X2_heldFor sP i1 i2)) (rest := []) ⟨hx, hb, hml, hown, hts⟩ hK hA hP hD hS (c_X2_heldFor l k ap sP i1 i2 (by first | assumption | exact k_hs hNs (by assumption) | exact k_hm hNm (by assumption) | exact (k_hb hNs hNm (by assumption)).1 | exact (k_hb hNs hNm (by assumption)).2) (by first | assumption | exact k_hs hNs (by assumption) | exact k_hm hNm (by assumption) | exact (k_hb hNs hNm (by assumption)).1 | exact (k_hb hNs hNm (by assumption)).2)) (cwV 2 hts gX4_holds_X2_heldFor rfl rfl rfl (by decide +kernel) ⟨Nat.le_of_ble_eq_true rfl, Nat.le_of_ble_eq_true rfl⟩) (va_recv hK hP (ci := 2) (q0 := 1) rfl rfl) rfl hl.1 rfl (Nat.le_of_ble_eq_true rfl) dX4_holds_18 (Nat.zero_le _) (Nat.zero_le _) [1, 2, 3, 4, 5, 6, 7, 8, 9, 10, 11, 12, 13, 14, 15, 16, 17, 18] [0] [0, 1, 2, 3, 4, 5, 6, 7, 8, 9, 10, 11, 12, 13, 14, 15, 16, 17, 18] rfl rfl rfl (by decide) rfl rfl rfl (fun H locs hP hD hS => ?_)
    refine lv_goto (tgt := 25) hx hb dX4_holds_21 (by decide) ?_
    have ef : f_X4_holds tx sP i1 i2 = f_X2_heldFor sP i1 i2 := by
      rw [f_X4_holds, if_neg c_1]
    exact k_reti hx hb hr hK hP hD hS hlocks dX4_holds_25 (by rw [ef])
theorem in_X4_offer_X4 : ∀ w ∈ wsX40, w ∈ wsX4_offer := fun _ h => List.mem_cons_of_mem _ (List.mem_append_left _ (List.mem_append_right _ h))
theorem in_X4_offer_X2 : ∀ w ∈ wsX20, w ∈ wsX4_offer := fun _ h => List.mem_cons_of_mem _ (List.mem_append_right _ h)
def f_X4_offer (tx : Int32) (sP : Nat → Nat → Int32) (i1 : Int32) (i2 : Int32) : Int32 :=
  if (f_X2_hasBoth sP i1 i2) = 0 then -1
  else f_X2_offerTo sP i1 i2
set_option maxHeartbeats 4000000 in
set_option maxRecDepth 100000 in
theorem c_X4_offer (l : Launch) (k : K_X) (ax : Nat) (ap : Nat → Nat) (f0 : Nat) (g0 : Nat) (y0 : Nat) (tx : Int32) (sP : Nat → Nat → Int32) (i1 : Int32) (i2 : Int32) (hNs : k_n (sP 0 0) 10) (hNm : k_n (sP 0 1) 10) : k_C l yX4_offer wsX4_offer (k_rm 2 46) k [.ref ax, .int i1, .int i2] ((w_X ax (ap 0) (f0) (g0) (y0) tx) ++ (w_P k ap sP)) (k_qI k (f_X4_offer tx sP i1 i2) ((w_X ax (ap 0) (f0) (g0) (y0) tx) ++ (w_P k ap sP))) := by
  refine k_mk (cc := cX4_offer) (maxL := 3) (ret := (some .int)) (by decide) rfl (Nat.le_of_ble_eq_true rfl) ?_
  intro p e s m below meth c A ls C0 hP hD hS hl
  obtain ⟨hx, hb, hr, hts, hown, hlocks, hml, hA, hK⟩ := id C0
  have hown : s.vm.findClass RX4 = some m.cls := hown
  have hl : lv_has ls 3 [(0, .ref ax), (1, .int i1), (2, .int i2)] := hl
  refine lv_aload_n hx hb dX4_offer_0 rfl (lv_at hl 0 rfl) ?_
  refine va_get (D := k.1) (ci := 4) (v := .ref (ap 0)) (C := RX4) (T := TX4) (N := 5) hx hb hts in_X4_offer_X4 hown hK hP 0 rfl rfl 0 (by decide) (k_w hts 1 rfl) (fun _ h9 => h9) rfl dX4_offer_1 ?_
  refine lv_iload_n hx hb dX4_offer_4 rfl (lv_at hl 1 rfl) ?_
  refine lv_iload_n hx hb dX4_offer_5 rfl (lv_at hl 2 rfl) ?_
  refine k_Vi (wr := w_X ax (ap 0) (f0) (g0) (y0) tx) (ws' := (w_X ax (ap 0) (f0) (g0) (y0) tx) ++ (w_P k ap sP)) (Rv := (f_X2_hasBoth sP i1 i2)) (rest := []) ⟨hx, hb, hml, hown, hts⟩ hK hA hP hD hS (c_X2_hasBoth l k ap sP i1 i2) (cwV 2 hts gX4_offer_X2_hasBoth rfl rfl rfl (by decide +kernel) ⟨Nat.le_of_ble_eq_true rfl, Nat.le_of_ble_eq_true rfl⟩) (va_recv hK hP (ci := 2) (q0 := 1) rfl rfl) rfl hl.1 rfl (Nat.le_of_ble_eq_true rfl) dX4_offer_6 (Nat.zero_le _) (Nat.zero_le _) [1, 2, 3, 4, 5, 6, 7, 8, 9, 10, 11, 12, 13, 14, 15, 16, 17, 18] [0] [0, 1, 2, 3, 4, 5, 6, 7, 8, 9, 10, 11, 12, 13, 14, 15, 16, 17, 18] rfl rfl rfl (by decide) rfl rfl rfl (fun H locs hP hD hS => ?_)
  refine lv_if_eq (tgt := 24) hx hb dX4_offer_9 (by decide) (fun c_1 => ?_) (fun c_1 => ?_)
  ·
    refine lv_iconst (v := (-1)) hx hb dX4_offer_24 (by decide) ?_
    have ef : f_X4_offer tx sP i1 i2 = -1 := by
      rw [f_X4_offer, if_pos c_1]
    exact k_reti hx hb hr hK hP hD hS hlocks dX4_offer_25 (by rw [ef])
  ·
    refine lv_aload_n hx hb dX4_offer_12 rfl (lv_at hl 0 rfl) ?_
    refine va_get (D := k.1) (ci := 4) (v := .ref (ap 0)) (C := RX4) (T := TX4) (N := 5) hx hb hts in_X4_offer_X4 hown hK hP 0 rfl rfl 0 (by decide) (k_w hts 1 rfl) (fun _ h9 => h9) rfl dX4_offer_13 ?_
    refine lv_iload_n hx hb dX4_offer_16 rfl (lv_at hl 1 rfl) ?_
    refine lv_iload_n hx hb dX4_offer_17 rfl (lv_at hl 2 rfl) ?_
    refine k_Vi (wr := w_X ax (ap 0) (f0) (g0) (y0) tx) (ws' := (w_X ax (ap 0) (f0) (g0) (y0) tx) ++ (w_P k ap sP)) (Rv := (f_X2_offerTo sP i1 i2)) (rest := []) ⟨hx, hb, hml, hown, hts⟩ hK hA hP hD hS (c_X2_offerTo l k ap sP i1 i2 (by first | assumption | exact k_hs hNs (by assumption) | exact k_hm hNm (by assumption) | exact (k_hb hNs hNm (by assumption)).1 | exact (k_hb hNs hNm (by assumption)).2) (by first | assumption | exact k_hs hNs (by assumption) | exact k_hm hNm (by assumption) | exact (k_hb hNs hNm (by assumption)).1 | exact (k_hb hNs hNm (by assumption)).2)) (cwV 2 hts gX4_offer_X2_offerTo rfl rfl rfl (by decide +kernel) ⟨Nat.le_of_ble_eq_true rfl, Nat.le_of_ble_eq_true rfl⟩) (va_recv hK hP (ci := 2) (q0 := 1) rfl rfl) rfl hl.1 rfl (Nat.le_of_ble_eq_true rfl) dX4_offer_18 (Nat.zero_le _) (Nat.zero_le _) [1, 2, 3, 4, 5, 6, 7, 8, 9, 10, 11, 12, 13, 14, 15, 16, 17, 18] [0] [0, 1, 2, 3, 4, 5, 6, 7, 8, 9, 10, 11, 12, 13, 14, 15, 16, 17, 18] rfl rfl rfl (by decide) rfl rfl rfl (fun H locs hP hD hS => ?_)
    refine lv_goto (tgt := 25) hx hb dX4_offer_21 (by decide) ?_
    have ef : f_X4_offer tx sP i1 i2 = f_X2_offerTo sP i1 i2 := by
      rw [f_X4_offer, if_neg c_1]
    exact k_reti hx hb hr hK hP hD hS hlocks dX4_offer_25 (by rw [ef])
theorem in_X4_next_X4 : ∀ w ∈ wsX40, w ∈ wsX4_next := fun _ h => List.mem_cons_of_mem _ (List.mem_append_left _ (List.mem_append_left _ (List.mem_append_right _ h)))
theorem in_X4_next_X2 : ∀ w ∈ wsX20, w ∈ wsX4_next := fun _ h => List.mem_cons_of_mem _ (List.mem_append_left _ (List.mem_append_right _ h))
theorem in_X4_next_X0 : ∀ w ∈ wsX00, w ∈ wsX4_next := fun _ h => List.mem_cons_of_mem _ (List.mem_append_right _ h)
def f_X4_next (tx : Int32) (sP : Nat → Nat → Int32) (sF : Nat → Nat → Int32) (i1 : Int32) : Int32 :=
  if (f_X2_hasMaster sP i1) = 0 then -1
  else f_X0_choiceOf sP sF i1
set_option maxHeartbeats 4000000 in
set_option maxRecDepth 100000 in
theorem c_X4_next (l : Launch) (k : K_X) (ax : Nat) (ap : Nat → Nat) (af : Nat → Nat) (l0 : Nat) (g0 : Nat) (y0 : Nat) (tx : Int32) (sP : Nat → Nat → Int32) (sF : Nat → Nat → Int32) (i1 : Int32) (hNs : k_n (sP 0 0) 10) (hNm : k_n (sP 0 1) 10) : k_C l yX4_next wsX4_next (k_rm 3 72) k [.ref ax, .int i1] ((w_X ax (ap 0) (af 0) (g0) (y0) tx) ++ (w_P k ap sP) ++ (w_F k af (ap 0) (l0) sF)) (k_qI k (f_X4_next tx sP sF i1) ((w_X ax (ap 0) (af 0) (g0) (y0) tx) ++ (w_P k ap sP) ++ (w_F k af (ap 0) (l0) sF))) := by
  refine k_mk (cc := cX4_next) (maxL := 2) (ret := (some .int)) (by decide) rfl (Nat.le_of_ble_eq_true rfl) ?_
  intro p e s m below meth c A ls C0 hP hD hS hl
  obtain ⟨hx, hb, hr, hts, hown, hlocks, hml, hA, hK⟩ := id C0
  have hown : s.vm.findClass RX4 = some m.cls := hown
  have hl : lv_has ls 2 [(0, .ref ax), (1, .int i1)] := hl
  refine lv_aload_n hx hb dX4_next_0 rfl (lv_at hl 0 rfl) ?_
  refine va_get (D := k.1) (ci := 4) (v := .ref (ap 0)) (C := RX4) (T := TX4) (N := 5) hx hb hts in_X4_next_X4 hown hK hP 0 rfl rfl 0 (by decide) (k_w hts 1 rfl) (fun _ h9 => h9) rfl dX4_next_1 ?_
  refine lv_iload_n hx hb dX4_next_4 rfl (lv_at hl 1 rfl) ?_
  refine k_Vi (wr := (w_X ax (ap 0) (af 0) (g0) (y0) tx) ++ (w_F k af (ap 0) (l0) sF)) (ws' := (w_X ax (ap 0) (af 0) (g0) (y0) tx) ++ (w_P k ap sP) ++ (w_F k af (ap 0) (l0) sF)) (Rv := (f_X2_hasMaster sP i1)) (rest := []) ⟨hx, hb, hml, hown, hts⟩ hK hA hP hD hS (c_X2_hasMaster l k ap sP i1) (cwV 1 hts gX4_next_X2_hasMaster rfl rfl rfl (by decide +kernel) ⟨Nat.le_of_ble_eq_true rfl, Nat.le_of_ble_eq_true rfl⟩) (va_recv hK hP (ci := 2) (q0 := 1) rfl rfl) rfl hl.1 rfl (Nat.le_of_ble_eq_true rfl) dX4_next_5 (Nat.zero_le _) (Nat.zero_le _) [1, 2, 3, 4, 5, 6, 7, 8, 9, 10, 11, 12, 13, 14, 15, 16, 17, 18] [0, 19, 20, 21, 22, 23, 24] [0, 7, 8, 9, 10, 11, 12, 13, 14, 15, 16, 17, 18, 19, 20, 21, 22, 23, 24, 1, 2, 3, 4, 5, 6] rfl rfl rfl (by decide) rfl rfl rfl (fun H locs hP hD hS => ?_)
  refine lv_if_eq (tgt := 22) hx hb dX4_next_8 (by decide) (fun c_1 => ?_) (fun c_1 => ?_)
  ·
    refine lv_iconst (v := (-1)) hx hb dX4_next_22 (by decide) ?_
    have ef : f_X4_next tx sP sF i1 = -1 := by
      rw [f_X4_next, if_pos c_1]
    exact k_reti hx hb hr hK hP hD hS hlocks dX4_next_23 (by rw [ef])
  ·
    refine lv_aload_n hx hb dX4_next_11 rfl (lv_at hl 0 rfl) ?_
    refine va_get (D := k.1) (ci := 4) (v := .ref (af 0)) (C := RX4) (T := TX4) (N := 5) hx hb hts in_X4_next_X4 hown hK hP 0 rfl rfl 1 (by decide) (k_w hts 2 rfl) (fun _ h9 => h9) rfl dX4_next_12 ?_
    refine lv_iload_n hx hb dX4_next_15 rfl (lv_at hl 1 rfl) ?_
    refine k_Vi (wr := w_X ax (ap 0) (af 0) (g0) (y0) tx) (ws' := (w_X ax (ap 0) (af 0) (g0) (y0) tx) ++ (w_P k ap sP) ++ (w_F k af (ap 0) (l0) sF)) (Rv := (f_X0_choiceOf sP sF i1)) (rest := []) ⟨hx, hb, hml, hown, hts⟩ hK hA hP hD hS (c_X0_choiceOf l k ap af (l0) sP sF i1 (by first | assumption | exact k_hs hNs (by assumption) | exact k_hm hNm (by assumption) | exact (k_hb hNs hNm (by assumption)).1 | exact (k_hb hNs hNm (by assumption)).2) (hNs)) (cwV 1 hts gX4_next_X0_choiceOf rfl rfl rfl (by decide +kernel) ⟨Nat.le_of_ble_eq_true rfl, Nat.le_of_ble_eq_true rfl⟩) (va_recv hK hP (ci := 0) (q0 := 19) rfl rfl) rfl hl.1 rfl (Nat.le_of_ble_eq_true rfl) dX4_next_16 (Nat.zero_le _) (Nat.zero_le _) [1, 2, 3, 4, 5, 6, 7, 8, 9, 10, 11, 12, 13, 14, 15, 16, 17, 18, 19, 20, 21, 22, 23, 24] [0] [0, 1, 2, 3, 4, 5, 6, 7, 8, 9, 10, 11, 12, 13, 14, 15, 16, 17, 18, 19, 20, 21, 22, 23, 24] rfl rfl rfl (by decide) rfl rfl rfl (fun H locs hP hD hS => ?_)
    refine lv_goto (tgt := 23) hx hb dX4_next_19 (by decide) ?_
    have ef : f_X4_next tx sP sF i1 = f_X0_choiceOf sP sF i1 := by
      rw [f_X4_next, if_neg c_1]
    exact k_reti hx hb hr hK hP hD hS hlocks dX4_next_23 (by rw [ef])
theorem in_X4_go_X4 : ∀ w ∈ wsX40, w ∈ wsX4_go := fun _ h => List.mem_cons_of_mem _ (List.mem_append_left _ (List.mem_append_left _ (List.mem_append_left _ (List.mem_append_left _ (List.mem_append_right _ h)))))
theorem in_X4_go_X0 : ∀ w ∈ wsX00, w ∈ wsX4_go := fun _ h => List.mem_cons_of_mem _ (List.mem_append_left _ (List.mem_append_left _ (List.mem_append_left _ (List.mem_append_right _ h))))
theorem in_X4_go_X3 : ∀ w ∈ wsX30, w ∈ wsX4_go := fun _ h => List.mem_cons_of_mem _ (List.mem_append_left _ (List.mem_append_left _ (List.mem_append_right _ h)))
theorem in_X4_go_X2 : ∀ w ∈ wsX20, w ∈ wsX4_go := fun _ h => List.mem_cons_of_mem _ (List.mem_append_left _ (List.mem_append_right _ h))
theorem in_X4_go_X1 : ∀ w ∈ wsX10, w ∈ wsX4_go := fun _ h => List.mem_cons_of_mem _ (List.mem_append_right _ h)
def f_X4_go (tx : Int32) (sP : Nat → Nat → Int32) (sF : Nat → Nat → Int32) (sL : Nat → Nat → Int32) (sY : Nat → Nat → Int32) (sJ : Nat → Int64) (i1 : Int32) : Int32 × (Nat → Nat → Int32) × (Nat → Nat → Int32) × (Nat → Nat → Int32) :=
  if (f_X4_isWithin i1 1 240) = 0 then ((-2), sF, sL, sY)
  else if (f_X3_hasBegun sY sJ) = 0 then (if ((((f_X0_goOn 100 sP sF sL i1 0)).1) 0 0) = 240 then (((((f_X0_goOn 100 sP sF sL i1 0)).1) 0 0), (((f_X0_goOn 100 sP sF sL i1 0)).1), (((f_X0_goOn 100 sP sF sL i1 0)).2), ((f_X3_begin sY sJ)))
    else (((((f_X0_goOn 100 sP sF sL i1 0)).1) 0 0), (((f_X0_goOn 100 sP sF sL i1 0)).1), (((f_X0_goOn 100 sP sF sL i1 0)).2), sY))
  else ((-3), sF, sL, sY)
set_option maxHeartbeats 4000000 in
set_option maxRecDepth 100000 in
theorem c_X4_go (l : Launch) (k : K_X) (ax : Nat) (ap : Nat → Nat) (af : Nat → Nat) (al : Nat → Nat) (ay : Nat → Nat) (n : Nat) (g0 : Nat) (tx : Int32) (sP : Nat → Nat → Int32) (sF : Nat → Nat → Int32) (sL : Nat → Nat → Int32) (sY : Nat → Nat → Int32) (sJ : Nat → Int64) (i1 : Int32) (hNs : k_n (sP 0 0) 10) (hNm : k_n (sP 0 1) 10) (hI : k_I 100 sF sL) (hF0 : k_n (sF 0 0) 240) : k_C l yX4_go wsX4_go (k_rm 6 148) k [.ref ax, .int i1] ((w_X ax (ap 0) (af 0) (g0) (ay 0) tx) ++ (w_P k ap sP) ++ (w_F k af (ap 0) (al 0) sF) ++ (w_L k al 100 sL) ++ (w_Y k ay (af 0) sY sJ)) (k_qI k ((f_X4_go tx sP sF sL sY sJ i1).1) ((w_X ax (ap 0) (af 0) (g0) (ay 0) tx) ++ (w_P k ap sP) ++ (w_F k af (ap 0) (al 0) ((f_X4_go tx sP sF sL sY sJ i1).2.1)) ++ (w_L k al 100 ((f_X4_go tx sP sF sL sY sJ i1).2.2.1)) ++ (w_Y k ay (af 0) ((f_X4_go tx sP sF sL sY sJ i1).2.2.2) sJ))) := by
  refine k_mk (cc := cX4_go) (maxL := 2) (ret := (some .int)) (by decide) rfl (Nat.le_of_ble_eq_true rfl) ?_
  intro p e s m below meth c A ls C0 hP hD hS hl
  obtain ⟨hx, hb, hr, hts, hown, hlocks, hml, hA, hK⟩ := id C0
  have hown : s.vm.findClass RX4 = some m.cls := hown
  have hl : lv_has ls 2 [(0, .ref ax), (1, .int i1)] := hl
  refine lv_iload_n hx hb dX4_go_0 rfl (lv_at hl 1 rfl) ?_
  refine lv_iconst (v := 1) hx hb dX4_go_1 (by decide) ?_
  refine lv_sipush (v := 240) hx hb dX4_go_2 (by decide) ?_
  refine k_Si (wr := (w_X ax (ap 0) (af 0) (g0) (ay 0) tx) ++ (w_P k ap sP) ++ (w_F k af (ap 0) (al 0) sF) ++ (w_L k al 100 sL) ++ (w_Y k ay (af 0) sY sJ)) (ws' := (w_X ax (ap 0) (af 0) (g0) (ay 0) tx) ++ (w_P k ap sP) ++ (w_F k af (ap 0) (al 0) sF) ++ (w_L k al 100 sL) ++ (w_Y k ay (af 0) sY sJ)) (Rv := (f_X4_isWithin i1 1 240)) (rest := []) ⟨hx, hb, hml, hown, hts⟩ hK hA hP hD hS (c_X4_isWithin l k i1 1 240) (va_cwS 3 hts gX4_go_X4_isWithin rfl rfl rfl (by decide +kernel) ⟨Nat.le_of_ble_eq_true rfl, Nat.le_of_ble_eq_true rfl⟩) rfl hl.1 rfl (Nat.le_of_ble_eq_true rfl) dX4_go_5 (Nat.zero_le _) (Nat.zero_le _) [] [0, 1, 2, 3, 4, 5, 6, 7, 8, 9, 10, 11, 12, 13, 14, 15, 16, 17, 18, 19, 20, 21, 22, 23, 24, 25, 26, 27, 28, 29, 30, 31] [0, 1, 2, 3, 4, 5, 6, 7, 8, 9, 10, 11, 12, 13, 14, 15, 16, 17, 18, 19, 20, 21, 22, 23, 24, 25, 26, 27, 28, 29, 30, 31] rfl rfl rfl (by decide) rfl rfl rfl (fun H locs hP hD hS => ?_)
  refine lv_if_ne (tgt := 14) hx hb dX4_go_8 (by decide) (fun c_1 => ?_) (fun c_1 => ?_)
  ·
    refine lv_aload_n hx hb dX4_go_14 rfl (lv_at hl 0 rfl) ?_
    refine va_get (D := k.1) (ci := 4) (v := .ref (ay 0)) (C := RX4) (T := TX4) (N := 5) hx hb hts in_X4_go_X4 hown hK hP 0 rfl rfl 3 (by decide) (k_w hts 1 rfl) (fun _ h9 => h9) rfl dX4_go_15 ?_
    refine k_Vi (wr := (w_X ax (ap 0) (af 0) (g0) (ay 0) tx) ++ (w_P k ap sP) ++ (w_F k af (ap 0) (al 0) sF) ++ (w_L k al 100 sL)) (ws' := (w_X ax (ap 0) (af 0) (g0) (ay 0) tx) ++ (w_P k ap sP) ++ (w_F k af (ap 0) (al 0) sF) ++ (w_L k al 100 sL) ++ (w_Y k ay (af 0) sY sJ)) (Rv := (f_X3_hasBegun sY sJ)) (rest := []) ⟨hx, hb, hml, hown, hts⟩ hK hA hP hD hS (c_X3_hasBegun l k ay (af 0) sY sJ) (cwV 0 hts gX4_go_X3_hasBegun rfl rfl rfl (by decide +kernel) ⟨Nat.le_of_ble_eq_true rfl, Nat.le_of_ble_eq_true rfl⟩) (va_recv hK hP (ci := 3) (q0 := 27) rfl rfl) rfl hl.1 rfl (Nat.le_of_ble_eq_true rfl) dX4_go_18 (Nat.zero_le _) (Nat.zero_le _) [27, 28, 29, 30, 31] [0, 1, 2, 3, 4, 5, 6, 7, 8, 9, 10, 11, 12, 13, 14, 15, 16, 17, 18, 19, 20, 21, 22, 23, 24, 25, 26] [0, 1, 2, 3, 4, 5, 6, 7, 8, 9, 10, 11, 12, 13, 14, 15, 16, 17, 18, 19, 20, 21, 22, 23, 24, 25, 26, 27, 28, 29, 30, 31] rfl rfl rfl (by decide) rfl rfl rfl (fun H locs hP hD hS => ?_)
    refine lv_if_eq (tgt := 27) hx hb dX4_go_21 (by decide) (fun c_2 => ?_) (fun c_2 => ?_)
    ·
      refine lv_aload_n hx hb dX4_go_27 rfl (lv_at hl 0 rfl) ?_
      refine va_get (D := k.1) (ci := 4) (v := .ref (af 0)) (C := RX4) (T := TX4) (N := 5) hx hb hts in_X4_go_X4 hown hK hP 0 rfl rfl 1 (by decide) (k_w hts 2 rfl) (fun _ h9 => h9) rfl dX4_go_28 ?_
      refine lv_iload_n hx hb dX4_go_31 rfl (lv_at hl 1 rfl) ?_
      refine lv_iconst (v := 0) hx hb dX4_go_32 (by decide) ?_
      refine k_Vv (wr := (w_X ax (ap 0) (af 0) (g0) (ay 0) tx) ++ (w_Y k ay (af 0) sY sJ)) (ws' := (w_X ax (ap 0) (af 0) (g0) (ay 0) tx) ++ (w_P k ap sP) ++ (w_F k af (ap 0) (al 0) ((f_X0_goOn 100 sP sF sL i1 0).1)) ++ (w_L k al 100 ((f_X0_goOn 100 sP sF sL i1 0).2)) ++ (w_Y k ay (af 0) sY sJ)) (rest := []) ⟨hx, hb, hml, hown, hts⟩ hK hA hP hD hS (c_X0_goOn l k ap af al 100 sP sF sL i1 0 (hNs) (hNm) (by decide) (hI) (hF0) ((k_iw (a := 1) (b := 240) rfl rfl (by decide) (by decide) (by assumption)).1)) (cwV 2 hts gX4_go_X0_goOn rfl rfl rfl (by decide +kernel) ⟨Nat.le_of_ble_eq_true rfl, Nat.le_of_ble_eq_true rfl⟩) (va_recv hK hP (ci := 0) (q0 := 19) rfl rfl) rfl hl.1 rfl (Nat.le_of_ble_eq_true rfl) dX4_go_33 (Nat.zero_le _) (Nat.zero_le _) [1, 2, 3, 4, 5, 6, 7, 8, 9, 10, 11, 12, 13, 14, 15, 16, 17, 18, 19, 20, 21, 22, 23, 24, 25, 26] [0, 27, 28, 29, 30, 31] [0, 6, 7, 8, 9, 10, 11, 12, 13, 14, 15, 16, 17, 18, 19, 20, 21, 22, 23, 24, 25, 26, 27, 28, 29, 30, 31, 1, 2, 3, 4, 5] rfl rfl rfl (by decide) rfl rfl rfl (fun H locs hP hD hS => ?_)
      obtain ⟨z_3, ez_3⟩ : ∃ z, z = f_X0_goOn 100 sP sF sL i1 0 := ⟨_, rfl⟩
      rw [← ez_3] at hP hD
      refine lv_aload_n hx hb dX4_go_36 rfl (lv_at hl 0 rfl) ?_
      refine va_get (D := k.1) (ci := 4) (v := .ref (af 0)) (C := RX4) (T := TX4) (N := 5) hx hb hts in_X4_go_X4 hown hK hP 0 rfl rfl 1 (by decide) (k_w hts 2 rfl) (fun _ h9 => h9) rfl dX4_go_37 ?_
      refine va_get (D := k.1) (ci := 0) (v := .int (((z_3).1) 0 0)) (C := RX0) (T := TX0) (N := 8) hx hb hts in_X4_go_X0 hown hK hP 19 rfl rfl 2 (by decide) (k_w hts 3 rfl) (fun _ h9 => h9) rfl dX4_go_40 ?_
      refine lv_sipush (v := 240) hx hb dX4_go_43 (by decide) ?_
      refine lv_icmp_ne (tgt := 56) hx hb dX4_go_46 (by decide) (fun c_4 => ?_) (fun c_4 => ?_)
      ·
        refine lv_aload_n hx hb dX4_go_56 rfl (lv_at hl 0 rfl) ?_
        refine va_get (D := k.1) (ci := 4) (v := .ref (af 0)) (C := RX4) (T := TX4) (N := 5) hx hb hts in_X4_go_X4 hown hK hP 0 rfl rfl 1 (by decide) (k_w hts 2 rfl) (fun _ h9 => h9) rfl dX4_go_57 ?_
        refine va_get (D := k.1) (ci := 0) (v := .int (((z_3).1) 0 0)) (C := RX0) (T := TX0) (N := 8) hx hb hts in_X4_go_X0 hown hK hP 19 rfl rfl 2 (by decide) (k_w hts 3 rfl) (fun _ h9 => h9) rfl dX4_go_60 ?_
        have ef : f_X4_go tx sP sF sL sY sJ i1 = ((((z_3).1) 0 0), ((z_3).1), ((z_3).2), sY) := by
          rw [f_X4_go, ← ez_3, if_neg c_1, if_pos c_2, if_neg c_4]
        exact k_reti hx hb hr hK (by rw [ef]; exact hP) (by rw [ef]; exact hD) hS hlocks dX4_go_63 (by rw [ef])
      ·
        refine lv_aload_n hx hb dX4_go_49 rfl (lv_at hl 0 rfl) ?_
        refine va_get (D := k.1) (ci := 4) (v := .ref (ay 0)) (C := RX4) (T := TX4) (N := 5) hx hb hts in_X4_go_X4 hown hK hP 0 rfl rfl 3 (by decide) (k_w hts 1 rfl) (fun _ h9 => h9) rfl dX4_go_50 ?_
        refine k_Vv (wr := (w_X ax (ap 0) (af 0) (g0) (ay 0) tx) ++ (w_P k ap sP) ++ (w_F k af (ap 0) (al 0) ((z_3).1)) ++ (w_L k al 100 ((z_3).2))) (ws' := (w_X ax (ap 0) (af 0) (g0) (ay 0) tx) ++ (w_P k ap sP) ++ (w_F k af (ap 0) (al 0) ((z_3).1)) ++ (w_L k al 100 ((z_3).2)) ++ (w_Y k ay (af 0) (f_X3_begin sY sJ) sJ)) (rest := []) ⟨hx, hb, hml, hown, hts⟩ hK hA hP hD hS (c_X3_begin l k ay (af 0) sY sJ) (cwV 0 hts gX4_go_X3_begin rfl rfl rfl (by decide +kernel) ⟨Nat.le_of_ble_eq_true rfl, Nat.le_of_ble_eq_true rfl⟩) (va_recv hK hP (ci := 3) (q0 := 27) rfl rfl) rfl hl.1 rfl (Nat.le_of_ble_eq_true rfl) dX4_go_53 (Nat.zero_le _) (Nat.zero_le _) [27, 28, 29, 30, 31] [0, 1, 2, 3, 4, 5, 6, 7, 8, 9, 10, 11, 12, 13, 14, 15, 16, 17, 18, 19, 20, 21, 22, 23, 24, 25, 26] [0, 1, 2, 3, 4, 5, 6, 7, 8, 9, 10, 11, 12, 13, 14, 15, 16, 17, 18, 19, 20, 21, 22, 23, 24, 25, 26, 27, 28, 29, 30, 31] rfl rfl rfl (by decide) rfl rfl rfl (fun H locs hP hD hS => ?_)
        obtain ⟨z_5, ez_5⟩ : ∃ z, z = f_X3_begin sY sJ := ⟨_, rfl⟩
        rw [← ez_5] at hP hD
        refine lv_aload_n hx hb dX4_go_56 rfl (lv_at hl 0 rfl) ?_
        refine va_get (D := k.1) (ci := 4) (v := .ref (af 0)) (C := RX4) (T := TX4) (N := 5) hx hb hts in_X4_go_X4 hown hK hP 0 rfl rfl 1 (by decide) (k_w hts 2 rfl) (fun _ h9 => h9) rfl dX4_go_57 ?_
        refine va_get (D := k.1) (ci := 0) (v := .int (((z_3).1) 0 0)) (C := RX0) (T := TX0) (N := 8) hx hb hts in_X4_go_X0 hown hK hP 19 rfl rfl 2 (by decide) (k_w hts 3 rfl) (fun _ h9 => h9) rfl dX4_go_60 ?_
        have ef : f_X4_go tx sP sF sL sY sJ i1 = ((((z_3).1) 0 0), ((z_3).1), ((z_3).2), (z_5)) := by
          rw [f_X4_go, ← ez_3, ← ez_5, if_neg c_1, if_pos c_2, if_pos c_4]
        exact k_reti hx hb hr hK (by rw [ef]; exact hP) (by rw [ef]; exact hD) hS hlocks dX4_go_63 (by rw [ef])
    ·
      refine lv_bipush (v := (-3)) hx hb dX4_go_24 (by decide) ?_
      have ef : f_X4_go tx sP sF sL sY sJ i1 = ((-3), sF, sL, sY) := by
        rw [f_X4_go, if_neg c_1, if_neg c_2]
      exact k_reti hx hb hr hK (by rw [ef]; exact hP) (by rw [ef]; exact hD) hS hlocks dX4_go_26 (by rw [ef])
  ·
    refine lv_bipush (v := (-2)) hx hb dX4_go_11 (by decide) ?_
    have ef : f_X4_go tx sP sF sL sY sJ i1 = ((-2), sF, sL, sY) := by
      rw [f_X4_go, if_pos c_1]
    exact k_reti hx hb hr hK (by rw [ef]; exact hP) (by rw [ef]; exact hD) hS hlocks dX4_go_13 (by rw [ef])
theorem in_X4_bargains_X4 : ∀ w ∈ wsX40, w ∈ wsX4_bargains := fun _ h => List.mem_cons_of_mem _ (List.mem_append_left _ (List.mem_append_left _ (List.mem_append_right _ h)))
theorem in_X4_bargains_X0 : ∀ w ∈ wsX00, w ∈ wsX4_bargains := fun _ h => List.mem_cons_of_mem _ (List.mem_append_left _ (List.mem_append_right _ h))
theorem in_X4_bargains_X1 : ∀ w ∈ wsX10, w ∈ wsX4_bargains := fun _ h => List.mem_cons_of_mem _ (List.mem_append_right _ h)
def f_X4_bargains (tx : Int32) (sF : Nat → Nat → Int32) (sL : Nat → Nat → Int32) : Int32 :=
  sL 0 0
set_option maxHeartbeats 4000000 in
set_option maxRecDepth 100000 in
theorem c_X4_bargains (l : Launch) (k : K_X) (ax : Nat) (af : Nat → Nat) (al : Nat → Nat) (p0 : Nat) (n : Nat) (g0 : Nat) (y0 : Nat) (tx : Int32) (sF : Nat → Nat → Int32) (sL : Nat → Nat → Int32) : k_C l yX4_bargains wsX4_bargains (k_rm 0 0) k [.ref ax] ((w_X ax (p0) (af 0) (g0) (y0) tx) ++ (w_F k af (p0) (al 0) sF) ++ (w_L k al 100 sL)) (k_qI k (f_X4_bargains tx sF sL) ((w_X ax (p0) (af 0) (g0) (y0) tx) ++ (w_F k af (p0) (al 0) sF) ++ (w_L k al 100 sL))) := by
  refine k_mk (cc := cX4_bargains) (maxL := 1) (ret := (some .int)) (by decide) rfl (Nat.le_of_ble_eq_true rfl) ?_
  intro p e s m below meth c A ls C0 hP hD hS hl
  obtain ⟨hx, hb, hr, hts, hown, hlocks, hml, hA, hK⟩ := id C0
  have hown : s.vm.findClass RX4 = some m.cls := hown
  have hl : lv_has ls 1 [(0, .ref ax)] := hl
  refine lv_aload_n hx hb dX4_bargains_0 rfl (lv_at hl 0 rfl) ?_
  refine va_get (D := k.1) (ci := 4) (v := .ref (af 0)) (C := RX4) (T := TX4) (N := 5) hx hb hts in_X4_bargains_X4 hown hK hP 0 rfl rfl 1 (by decide) (k_w hts 1 rfl) (fun _ h9 => h9) rfl dX4_bargains_1 ?_
  refine va_get (D := k.1) (ci := 0) (v := .ref (al 0)) (C := RX0) (T := TX0) (N := 8) hx hb hts in_X4_bargains_X0 hown hK hP 1 rfl rfl 1 (by decide) (k_w hts 2 rfl) (fun _ h9 => h9) rfl dX4_bargains_4 ?_
  refine va_get (D := k.1) (ci := 1) (v := .int (sL 0 0)) (C := RX1) (T := TX1) (N := 3) hx hb hts in_X4_bargains_X1 hown hK hP 7 rfl rfl 2 (by decide) (k_w hts 3 rfl) (fun _ h9 => h9) rfl dX4_bargains_7 ?_
  have ef : f_X4_bargains tx sF sL = sL 0 0 := by
    rw [f_X4_bargains]
  exact k_reti hx hb hr hK hP hD hS hlocks dX4_bargains_10 (by rw [ef])
theorem in_X4_bargain_X4 : ∀ w ∈ wsX40, w ∈ wsX4_bargain := fun _ h => List.mem_cons_of_mem _ (List.mem_append_left _ (List.mem_append_left _ (List.mem_append_right _ h)))
theorem in_X4_bargain_X0 : ∀ w ∈ wsX00, w ∈ wsX4_bargain := fun _ h => List.mem_cons_of_mem _ (List.mem_append_left _ (List.mem_append_right _ h))
theorem in_X4_bargain_X1 : ∀ w ∈ wsX10, w ∈ wsX4_bargain := fun _ h => List.mem_cons_of_mem _ (List.mem_append_right _ h)
def f_X4_bargain (tx : Int32) (sF : Nat → Nat → Int32) (sL : Nat → Nat → Int32) (i1 : Int32) (i2 : Int32) : Int32 :=
  if (f_X1_has sL i1) = 0 then -1
  else if (f_X4_isWithin i2 0 5) = 0 then -2
  else f_X1_read sL i1 i2
set_option maxHeartbeats 4000000 in
set_option maxRecDepth 100000 in
theorem c_X4_bargain (l : Launch) (k : K_X) (ax : Nat) (af : Nat → Nat) (al : Nat → Nat) (p0 : Nat) (n : Nat) (g0 : Nat) (y0 : Nat) (tx : Int32) (sF : Nat → Nat → Int32) (sL : Nat → Nat → Int32) (i1 : Int32) (i2 : Int32) (hc : k_n (sL 0 0) 100) : k_C l yX4_bargain wsX4_bargain (k_rm 1 22) k [.ref ax, .int i1, .int i2] ((w_X ax (p0) (af 0) (g0) (y0) tx) ++ (w_F k af (p0) (al 0) sF) ++ (w_L k al 100 sL)) (k_qI k (f_X4_bargain tx sF sL i1 i2) ((w_X ax (p0) (af 0) (g0) (y0) tx) ++ (w_F k af (p0) (al 0) sF) ++ (w_L k al 100 sL))) := by
  refine k_mk (cc := cX4_bargain) (maxL := 3) (ret := (some .int)) (by decide) rfl (Nat.le_of_ble_eq_true rfl) ?_
  intro p e s m below meth c A ls C0 hP hD hS hl
  obtain ⟨hx, hb, hr, hts, hown, hlocks, hml, hA, hK⟩ := id C0
  have hown : s.vm.findClass RX4 = some m.cls := hown
  have hl : lv_has ls 3 [(0, .ref ax), (1, .int i1), (2, .int i2)] := hl
  refine lv_aload_n hx hb dX4_bargain_0 rfl (lv_at hl 0 rfl) ?_
  refine va_get (D := k.1) (ci := 4) (v := .ref (af 0)) (C := RX4) (T := TX4) (N := 5) hx hb hts in_X4_bargain_X4 hown hK hP 0 rfl rfl 1 (by decide) (k_w hts 1 rfl) (fun _ h9 => h9) rfl dX4_bargain_1 ?_
  refine va_get (D := k.1) (ci := 0) (v := .ref (al 0)) (C := RX0) (T := TX0) (N := 8) hx hb hts in_X4_bargain_X0 hown hK hP 1 rfl rfl 1 (by decide) (k_w hts 2 rfl) (fun _ h9 => h9) rfl dX4_bargain_4 ?_
  refine lv_iload_n hx hb dX4_bargain_7 rfl (lv_at hl 1 rfl) ?_
  refine k_Vi (wr := (w_X ax (p0) (af 0) (g0) (y0) tx) ++ (w_F k af (p0) (al 0) sF)) (ws' := (w_X ax (p0) (af 0) (g0) (y0) tx) ++ (w_F k af (p0) (al 0) sF) ++ (w_L k al 100 sL)) (Rv := (f_X1_has sL i1)) (rest := []) ⟨hx, hb, hml, hown, hts⟩ hK hA hP hD hS (c_X1_has l k al 100 sL i1) (cwV 1 hts gX4_bargain_X1_has rfl rfl rfl (by decide +kernel) ⟨Nat.le_of_ble_eq_true rfl, Nat.le_of_ble_eq_true rfl⟩) (va_recv hK hP (ci := 1) (q0 := 7) rfl rfl) rfl hl.1 rfl (Nat.le_of_ble_eq_true rfl) dX4_bargain_8 (Nat.zero_le _) (Nat.zero_le _) [7, 8] [0, 1, 2, 3, 4, 5, 6] [0, 1, 2, 3, 4, 5, 6, 7, 8] rfl rfl rfl (by decide) rfl rfl rfl (fun H locs hP hD hS => ?_)
  refine lv_if_ne (tgt := 16) hx hb dX4_bargain_11 (by decide) (fun c_1 => ?_) (fun c_1 => ?_)
  ·
    refine lv_iload_n hx hb dX4_bargain_16 rfl (lv_at hl 2 rfl) ?_
    refine lv_iconst (v := 0) hx hb dX4_bargain_17 (by decide) ?_
    refine lv_iconst (v := 5) hx hb dX4_bargain_18 (by decide) ?_
    refine k_Si (wr := (w_X ax (p0) (af 0) (g0) (y0) tx) ++ (w_F k af (p0) (al 0) sF) ++ (w_L k al 100 sL)) (ws' := (w_X ax (p0) (af 0) (g0) (y0) tx) ++ (w_F k af (p0) (al 0) sF) ++ (w_L k al 100 sL)) (Rv := (f_X4_isWithin i2 0 5)) (rest := []) ⟨hx, hb, hml, hown, hts⟩ hK hA hP hD hS (c_X4_isWithin l k i2 0 5) (va_cwS 3 hts gX4_bargain_X4_isWithin rfl rfl rfl (by decide +kernel) ⟨Nat.le_of_ble_eq_true rfl, Nat.le_of_ble_eq_true rfl⟩) rfl hl.1 rfl (Nat.le_of_ble_eq_true rfl) dX4_bargain_19 (Nat.zero_le _) (Nat.zero_le _) [] [0, 1, 2, 3, 4, 5, 6, 7, 8] [0, 1, 2, 3, 4, 5, 6, 7, 8] rfl rfl rfl (by decide) rfl rfl rfl (fun H locs hP hD hS => ?_)
    refine lv_if_ne (tgt := 28) hx hb dX4_bargain_22 (by decide) (fun c_2 => ?_) (fun c_2 => ?_)
    ·
      refine lv_aload_n hx hb dX4_bargain_28 rfl (lv_at hl 0 rfl) ?_
      refine va_get (D := k.1) (ci := 4) (v := .ref (af 0)) (C := RX4) (T := TX4) (N := 5) hx hb hts in_X4_bargain_X4 hown hK hP 0 rfl rfl 1 (by decide) (k_w hts 1 rfl) (fun _ h9 => h9) rfl dX4_bargain_29 ?_
      refine va_get (D := k.1) (ci := 0) (v := .ref (al 0)) (C := RX0) (T := TX0) (N := 8) hx hb hts in_X4_bargain_X0 hown hK hP 1 rfl rfl 1 (by decide) (k_w hts 2 rfl) (fun _ h9 => h9) rfl dX4_bargain_32 ?_
      refine lv_iload_n hx hb dX4_bargain_35 rfl (lv_at hl 1 rfl) ?_
      refine lv_iload_n hx hb dX4_bargain_36 rfl (lv_at hl 2 rfl) ?_
      refine k_Vi (wr := (w_X ax (p0) (af 0) (g0) (y0) tx) ++ (w_F k af (p0) (al 0) sF)) (ws' := (w_X ax (p0) (af 0) (g0) (y0) tx) ++ (w_F k af (p0) (al 0) sF) ++ (w_L k al 100 sL)) (Rv := (f_X1_read sL i1 i2)) (rest := []) ⟨hx, hb, hml, hown, hts⟩ hK hA hP hD hS (c_X1_read l k al 100 sL i1 i2 (k_rd hc (by assumption) (by assumption))) (cwV 2 hts gX4_bargain_X1_read rfl rfl rfl (by decide +kernel) ⟨Nat.le_of_ble_eq_true rfl, Nat.le_of_ble_eq_true rfl⟩) (va_recv hK hP (ci := 1) (q0 := 7) rfl rfl) rfl hl.1 rfl (Nat.le_of_ble_eq_true rfl) dX4_bargain_37 (Nat.zero_le _) (Nat.zero_le _) [7, 8] [0, 1, 2, 3, 4, 5, 6] [0, 1, 2, 3, 4, 5, 6, 7, 8] rfl rfl rfl (by decide) rfl rfl rfl (fun H locs hP hD hS => ?_)
      have ef : f_X4_bargain tx sF sL i1 i2 = f_X1_read sL i1 i2 := by
        rw [f_X4_bargain, if_neg c_1, if_neg c_2]
      exact k_reti hx hb hr hK hP hD hS hlocks dX4_bargain_40 (by rw [ef])
    ·
      refine lv_bipush (v := (-2)) hx hb dX4_bargain_25 (by decide) ?_
      have ef : f_X4_bargain tx sF sL i1 i2 = -2 := by
        rw [f_X4_bargain, if_neg c_1, if_pos c_2]
      exact k_reti hx hb hr hK hP hD hS hlocks dX4_bargain_27 (by rw [ef])
  ·
    refine lv_iconst (v := (-1)) hx hb dX4_bargain_14 (by decide) ?_
    have ef : f_X4_bargain tx sF sL i1 i2 = -1 := by
      rw [f_X4_bargain, if_pos c_1]
    exact k_reti hx hb hr hK hP hD hS hlocks dX4_bargain_15 (by rw [ef])
theorem in_X4_torn_X4 : ∀ w ∈ wsX40, w ∈ wsX4_torn := fun _ h => List.mem_cons_of_mem _ (List.mem_append_left _ (List.mem_append_left _ (List.mem_append_right _ h)))
theorem in_X4_torn_X0 : ∀ w ∈ wsX00, w ∈ wsX4_torn := fun _ h => List.mem_cons_of_mem _ (List.mem_append_left _ (List.mem_append_right _ h))
theorem in_X4_torn_X2 : ∀ w ∈ wsX20, w ∈ wsX4_torn := fun _ h => List.mem_cons_of_mem _ (List.mem_append_right _ h)
def f_X4_torn (tx : Int32) (sP : Nat → Nat → Int32) (sF : Nat → Nat → Int32) : Int32 :=
  f_X0_countTorn sP sF
set_option maxHeartbeats 4000000 in
set_option maxRecDepth 100000 in
theorem c_X4_torn (l : Launch) (k : K_X) (ax : Nat) (ap : Nat → Nat) (af : Nat → Nat) (l0 : Nat) (g0 : Nat) (y0 : Nat) (tx : Int32) (sP : Nat → Nat → Int32) (sF : Nat → Nat → Int32) (hNs : k_n (sP 0 0) 10) (hNm : k_n (sP 0 1) 10) (hO : ∀ j, j < 10 → k_o (sF 4 j) 10) : k_C l yX4_torn wsX4_torn (k_rm 5 117) k [.ref ax] ((w_X ax (ap 0) (af 0) (g0) (y0) tx) ++ (w_P k ap sP) ++ (w_F k af (ap 0) (l0) sF)) (k_qI k (f_X4_torn tx sP sF) ((w_X ax (ap 0) (af 0) (g0) (y0) tx) ++ (w_P k ap sP) ++ (w_F k af (ap 0) (l0) sF))) := by
  refine k_mk (cc := cX4_torn) (maxL := 1) (ret := (some .int)) (by decide) rfl (Nat.le_of_ble_eq_true rfl) ?_
  intro p e s m below meth c A ls C0 hP hD hS hl
  obtain ⟨hx, hb, hr, hts, hown, hlocks, hml, hA, hK⟩ := id C0
  have hown : s.vm.findClass RX4 = some m.cls := hown
  have hl : lv_has ls 1 [(0, .ref ax)] := hl
  refine lv_aload_n hx hb dX4_torn_0 rfl (lv_at hl 0 rfl) ?_
  refine va_get (D := k.1) (ci := 4) (v := .ref (af 0)) (C := RX4) (T := TX4) (N := 5) hx hb hts in_X4_torn_X4 hown hK hP 0 rfl rfl 1 (by decide) (k_w hts 1 rfl) (fun _ h9 => h9) rfl dX4_torn_1 ?_
  refine k_Vi (wr := w_X ax (ap 0) (af 0) (g0) (y0) tx) (ws' := (w_X ax (ap 0) (af 0) (g0) (y0) tx) ++ (w_P k ap sP) ++ (w_F k af (ap 0) (l0) sF)) (Rv := (f_X0_countTorn sP sF)) (rest := []) ⟨hx, hb, hml, hown, hts⟩ hK hA hP hD hS (c_X0_countTorn l k ap af (l0) sP sF (hNs) (hNm) (hO)) (cwV 0 hts gX4_torn_X0_countTorn rfl rfl rfl (by decide +kernel) ⟨Nat.le_of_ble_eq_true rfl, Nat.le_of_ble_eq_true rfl⟩) (va_recv hK hP (ci := 0) (q0 := 19) rfl rfl) rfl hl.1 rfl (Nat.le_of_ble_eq_true rfl) dX4_torn_4 (Nat.zero_le _) (Nat.zero_le _) [1, 2, 3, 4, 5, 6, 7, 8, 9, 10, 11, 12, 13, 14, 15, 16, 17, 18, 19, 20, 21, 22, 23, 24] [0] [0, 1, 2, 3, 4, 5, 6, 7, 8, 9, 10, 11, 12, 13, 14, 15, 16, 17, 18, 19, 20, 21, 22, 23, 24] rfl rfl rfl (by decide) rfl rfl rfl (fun H locs hP hD hS => ?_)
  have ef : f_X4_torn tx sP sF = f_X0_countTorn sP sF := by
    rw [f_X4_torn]
  exact k_reti hx hb hr hK hP hD hS hlocks dX4_torn_7 (by rw [ef])
theorem in_X4_pair_X4 : ∀ w ∈ wsX40, w ∈ wsX4_pair := fun _ h => List.mem_cons_of_mem _ (List.mem_append_left _ (List.mem_append_left _ (List.mem_append_right _ h)))
theorem in_X4_pair_X0 : ∀ w ∈ wsX00, w ∈ wsX4_pair := fun _ h => List.mem_cons_of_mem _ (List.mem_append_left _ (List.mem_append_right _ h))
theorem in_X4_pair_X2 : ∀ w ∈ wsX20, w ∈ wsX4_pair := fun _ h => List.mem_cons_of_mem _ (List.mem_append_right _ h)
def f_X4_pair (tx : Int32) (sP : Nat → Nat → Int32) (sF : Nat → Nat → Int32) (i1 : Int32) : Int32 :=
  f_X0_findTorn sP sF i1
set_option maxHeartbeats 4000000 in
set_option maxRecDepth 100000 in
theorem c_X4_pair (l : Launch) (k : K_X) (ax : Nat) (ap : Nat → Nat) (af : Nat → Nat) (l0 : Nat) (g0 : Nat) (y0 : Nat) (tx : Int32) (sP : Nat → Nat → Int32) (sF : Nat → Nat → Int32) (i1 : Int32) (hNs : k_n (sP 0 0) 10) (hNm : k_n (sP 0 1) 10) (hO : ∀ j, j < 10 → k_o (sF 4 j) 10) : k_C l yX4_pair wsX4_pair (k_rm 5 118) k [.ref ax, .int i1] ((w_X ax (ap 0) (af 0) (g0) (y0) tx) ++ (w_P k ap sP) ++ (w_F k af (ap 0) (l0) sF)) (k_qI k (f_X4_pair tx sP sF i1) ((w_X ax (ap 0) (af 0) (g0) (y0) tx) ++ (w_P k ap sP) ++ (w_F k af (ap 0) (l0) sF))) := by
  refine k_mk (cc := cX4_pair) (maxL := 2) (ret := (some .int)) (by decide) rfl (Nat.le_of_ble_eq_true rfl) ?_
  intro p e s m below meth c A ls C0 hP hD hS hl
  obtain ⟨hx, hb, hr, hts, hown, hlocks, hml, hA, hK⟩ := id C0
  have hown : s.vm.findClass RX4 = some m.cls := hown
  have hl : lv_has ls 2 [(0, .ref ax), (1, .int i1)] := hl
  refine lv_aload_n hx hb dX4_pair_0 rfl (lv_at hl 0 rfl) ?_
  refine va_get (D := k.1) (ci := 4) (v := .ref (af 0)) (C := RX4) (T := TX4) (N := 5) hx hb hts in_X4_pair_X4 hown hK hP 0 rfl rfl 1 (by decide) (k_w hts 1 rfl) (fun _ h9 => h9) rfl dX4_pair_1 ?_
  refine lv_iload_n hx hb dX4_pair_4 rfl (lv_at hl 1 rfl) ?_
  refine k_Vi (wr := w_X ax (ap 0) (af 0) (g0) (y0) tx) (ws' := (w_X ax (ap 0) (af 0) (g0) (y0) tx) ++ (w_P k ap sP) ++ (w_F k af (ap 0) (l0) sF)) (Rv := (f_X0_findTorn sP sF i1)) (rest := []) ⟨hx, hb, hml, hown, hts⟩ hK hA hP hD hS (c_X0_findTorn l k ap af (l0) sP sF i1 (hNs) (hNm) (hO)) (cwV 1 hts gX4_pair_X0_findTorn rfl rfl rfl (by decide +kernel) ⟨Nat.le_of_ble_eq_true rfl, Nat.le_of_ble_eq_true rfl⟩) (va_recv hK hP (ci := 0) (q0 := 19) rfl rfl) rfl hl.1 rfl (Nat.le_of_ble_eq_true rfl) dX4_pair_5 (Nat.zero_le _) (Nat.zero_le _) [1, 2, 3, 4, 5, 6, 7, 8, 9, 10, 11, 12, 13, 14, 15, 16, 17, 18, 19, 20, 21, 22, 23, 24] [0] [0, 1, 2, 3, 4, 5, 6, 7, 8, 9, 10, 11, 12, 13, 14, 15, 16, 17, 18, 19, 20, 21, 22, 23, 24] rfl rfl rfl (by decide) rfl rfl rfl (fun H locs hP hD hS => ?_)
  have ef : f_X4_pair tx sP sF i1 = f_X0_findTorn sP sF i1 := by
    rw [f_X4_pair]
  exact k_reti hx hb hr hK hP hD hS hlocks dX4_pair_8 (by rw [ef])
theorem in_X4_foretold_X4 : ∀ w ∈ wsX40, w ∈ wsX4_foretold := fun _ h => List.mem_cons_of_mem _ (List.mem_append_left _ (List.mem_append_left _ (List.mem_append_left _ (List.mem_append_right _ h))))
theorem in_X4_foretold_X0 : ∀ w ∈ wsX00, w ∈ wsX4_foretold := fun _ h => List.mem_cons_of_mem _ (List.mem_append_left _ (List.mem_append_left _ (List.mem_append_right _ h)))
theorem in_X4_foretold_X1 : ∀ w ∈ wsX10, w ∈ wsX4_foretold := fun _ h => List.mem_cons_of_mem _ (List.mem_append_left _ (List.mem_append_right _ h))
theorem in_X4_foretold_X2 : ∀ w ∈ wsX20, w ∈ wsX4_foretold := fun _ h => List.mem_cons_of_mem _ (List.mem_append_right _ h)
def f_X4_foretold (tx : Int32) (sP : Nat → Nat → Int32) (sG : Nat → Nat → Int32) (sH : Nat → Nat → Int32) (i1 : Int32) (i2 : Int32) : Int32 × (Nat → Nat → Int32) × (Nat → Nat → Int32) :=
  if (f_X4_isWithin i1 0 1) = 0 then ((-2), sG, sH)
  else if (f_X4_isWithin i2 0 2) = 0 then ((-2), sG, sH)
  else if i1 = 1 then (if i2 = 0 then ((f_X0_countBound sP (((f_X0_goOn 0 sP (((f_X0_startAnew sG sH)).1) (((f_X0_startAnew sG sH)).2) 240 1)).1)), (((f_X0_goOn 0 sP (((f_X0_startAnew sG sH)).1) (((f_X0_startAnew sG sH)).2) 240 1)).1), (((f_X0_goOn 0 sP (((f_X0_startAnew sG sH)).1) (((f_X0_startAnew sG sH)).2) 240 1)).2))
    else if i2 = 1 then ((f_X0_countTorn sP (((f_X0_goOn 0 sP (((f_X0_startAnew sG sH)).1) (((f_X0_startAnew sG sH)).2) 240 1)).1)), (((f_X0_goOn 0 sP (((f_X0_startAnew sG sH)).1) (((f_X0_startAnew sG sH)).2) 240 1)).1), (((f_X0_goOn 0 sP (((f_X0_startAnew sG sH)).1) (((f_X0_startAnew sG sH)).2) 240 1)).2))
    else ((f_X0_sumWages sP (((f_X0_goOn 0 sP (((f_X0_startAnew sG sH)).1) (((f_X0_startAnew sG sH)).2) 240 1)).1)), (((f_X0_goOn 0 sP (((f_X0_startAnew sG sH)).1) (((f_X0_startAnew sG sH)).2) 240 1)).1), (((f_X0_goOn 0 sP (((f_X0_startAnew sG sH)).1) (((f_X0_startAnew sG sH)).2) 240 1)).2)))
  else if i2 = 0 then ((f_X0_countBound sP (((f_X0_goOn 0 sP (((f_X0_startAnew sG sH)).1) (((f_X0_startAnew sG sH)).2) 240 0)).1)), (((f_X0_goOn 0 sP (((f_X0_startAnew sG sH)).1) (((f_X0_startAnew sG sH)).2) 240 0)).1), (((f_X0_goOn 0 sP (((f_X0_startAnew sG sH)).1) (((f_X0_startAnew sG sH)).2) 240 0)).2))
  else if i2 = 1 then ((f_X0_countTorn sP (((f_X0_goOn 0 sP (((f_X0_startAnew sG sH)).1) (((f_X0_startAnew sG sH)).2) 240 0)).1)), (((f_X0_goOn 0 sP (((f_X0_startAnew sG sH)).1) (((f_X0_startAnew sG sH)).2) 240 0)).1), (((f_X0_goOn 0 sP (((f_X0_startAnew sG sH)).1) (((f_X0_startAnew sG sH)).2) 240 0)).2))
  else ((f_X0_sumWages sP (((f_X0_goOn 0 sP (((f_X0_startAnew sG sH)).1) (((f_X0_startAnew sG sH)).2) 240 0)).1)), (((f_X0_goOn 0 sP (((f_X0_startAnew sG sH)).1) (((f_X0_startAnew sG sH)).2) 240 0)).1), (((f_X0_goOn 0 sP (((f_X0_startAnew sG sH)).1) (((f_X0_startAnew sG sH)).2) 240 0)).2))
set_option maxHeartbeats 4000000 in
set_option maxRecDepth 100000 in
theorem c_X4_foretold (l : Launch) (k : K_X) (ax : Nat) (ap : Nat → Nat) (ag : Nat → Nat) (ah : Nat → Nat) (f0 : Nat) (y0 : Nat) (tx : Int32) (sP : Nat → Nat → Int32) (sG : Nat → Nat → Int32) (sH : Nat → Nat → Int32) (i1 : Int32) (i2 : Int32) (hNs : k_n (sP 0 0) 10) (hNm : k_n (sP 0 1) 10) : k_C l yX4_foretold wsX4_foretold (k_rm 6 148) k [.ref ax, .int i1, .int i2] ((w_X ax (ap 0) (f0) (ag 0) (y0) tx) ++ (w_P k ap sP) ++ (w_F k ag (ap 0) (ah 0) sG) ++ (w_L k ah 0 sH)) (k_qI k ((f_X4_foretold tx sP sG sH i1 i2).1) ((w_X ax (ap 0) (f0) (ag 0) (y0) tx) ++ (w_P k ap sP) ++ (w_F k ag (ap 0) (ah 0) ((f_X4_foretold tx sP sG sH i1 i2).2.1)) ++ (w_L k ah 0 ((f_X4_foretold tx sP sG sH i1 i2).2.2)))) := by
  refine k_mk (cc := cX4_foretold) (maxL := 3) (ret := (some .int)) (by decide) rfl (Nat.le_of_ble_eq_true rfl) ?_
  intro p e s m below meth c A ls C0 hP hD hS hl
  obtain ⟨hx, hb, hr, hts, hown, hlocks, hml, hA, hK⟩ := id C0
  have hown : s.vm.findClass RX4 = some m.cls := hown
  have hl : lv_has ls 3 [(0, .ref ax), (1, .int i1), (2, .int i2)] := hl
  refine lv_iload_n hx hb dX4_foretold_0 rfl (lv_at hl 1 rfl) ?_
  refine lv_iconst (v := 0) hx hb dX4_foretold_1 (by decide) ?_
  refine lv_iconst (v := 1) hx hb dX4_foretold_2 (by decide) ?_
  refine k_Si (wr := (w_X ax (ap 0) (f0) (ag 0) (y0) tx) ++ (w_P k ap sP) ++ (w_F k ag (ap 0) (ah 0) sG) ++ (w_L k ah 0 sH)) (ws' := (w_X ax (ap 0) (f0) (ag 0) (y0) tx) ++ (w_P k ap sP) ++ (w_F k ag (ap 0) (ah 0) sG) ++ (w_L k ah 0 sH)) (Rv := (f_X4_isWithin i1 0 1)) (rest := []) ⟨hx, hb, hml, hown, hts⟩ hK hA hP hD hS (c_X4_isWithin l k i1 0 1) (va_cwS 3 hts gX4_foretold_X4_isWithin rfl rfl rfl (by decide +kernel) ⟨Nat.le_of_ble_eq_true rfl, Nat.le_of_ble_eq_true rfl⟩) rfl hl.1 rfl (Nat.le_of_ble_eq_true rfl) dX4_foretold_3 (Nat.zero_le _) (Nat.zero_le _) [] [0, 1, 2, 3, 4, 5, 6, 7, 8, 9, 10, 11, 12, 13, 14, 15, 16, 17, 18, 19, 20, 21, 22, 23, 24, 25, 26] [0, 1, 2, 3, 4, 5, 6, 7, 8, 9, 10, 11, 12, 13, 14, 15, 16, 17, 18, 19, 20, 21, 22, 23, 24, 25, 26] rfl rfl rfl (by decide) rfl rfl rfl (fun H locs hP hD hS => ?_)
  refine lv_if_eq (tgt := 18) hx hb dX4_foretold_6 (by decide) (fun c_1 => ?_) (fun c_1 => ?_)
  ·
    refine lv_bipush (v := (-2)) hx hb dX4_foretold_18 (by decide) ?_
    have ef : f_X4_foretold tx sP sG sH i1 i2 = ((-2), sG, sH) := by
      rw [f_X4_foretold, if_pos c_1]
    exact k_reti hx hb hr hK (by rw [ef]; exact hP) (by rw [ef]; exact hD) hS hlocks dX4_foretold_20 (by rw [ef])
  ·
    refine lv_iload_n hx hb dX4_foretold_9 rfl (lv_at hl 2 rfl) ?_
    refine lv_iconst (v := 0) hx hb dX4_foretold_10 (by decide) ?_
    refine lv_iconst (v := 2) hx hb dX4_foretold_11 (by decide) ?_
    refine k_Si (wr := (w_X ax (ap 0) (f0) (ag 0) (y0) tx) ++ (w_P k ap sP) ++ (w_F k ag (ap 0) (ah 0) sG) ++ (w_L k ah 0 sH)) (ws' := (w_X ax (ap 0) (f0) (ag 0) (y0) tx) ++ (w_P k ap sP) ++ (w_F k ag (ap 0) (ah 0) sG) ++ (w_L k ah 0 sH)) (Rv := (f_X4_isWithin i2 0 2)) (rest := []) ⟨hx, hb, hml, hown, hts⟩ hK hA hP hD hS (c_X4_isWithin l k i2 0 2) (va_cwS 3 hts gX4_foretold_X4_isWithin rfl rfl rfl (by decide +kernel) ⟨Nat.le_of_ble_eq_true rfl, Nat.le_of_ble_eq_true rfl⟩) rfl hl.1 rfl (Nat.le_of_ble_eq_true rfl) dX4_foretold_12 (Nat.zero_le _) (Nat.zero_le _) [] [0, 1, 2, 3, 4, 5, 6, 7, 8, 9, 10, 11, 12, 13, 14, 15, 16, 17, 18, 19, 20, 21, 22, 23, 24, 25, 26] [0, 1, 2, 3, 4, 5, 6, 7, 8, 9, 10, 11, 12, 13, 14, 15, 16, 17, 18, 19, 20, 21, 22, 23, 24, 25, 26] rfl rfl rfl (by decide) rfl rfl rfl (fun H locs hP hD hS => ?_)
    refine lv_if_ne (tgt := 21) hx hb dX4_foretold_15 (by decide) (fun c_2 => ?_) (fun c_2 => ?_)
    ·
      refine lv_aload_n hx hb dX4_foretold_21 rfl (lv_at hl 0 rfl) ?_
      refine va_get (D := k.1) (ci := 4) (v := .ref (ag 0)) (C := RX4) (T := TX4) (N := 5) hx hb hts in_X4_foretold_X4 hown hK hP 0 rfl rfl 2 (by decide) (k_w hts 1 rfl) (fun _ h9 => h9) rfl dX4_foretold_22 ?_
      refine k_Vv (wr := (w_X ax (ap 0) (f0) (ag 0) (y0) tx) ++ (w_P k ap sP)) (ws' := (w_X ax (ap 0) (f0) (ag 0) (y0) tx) ++ (w_P k ap sP) ++ (w_F k ag (ap 0) (ah 0) ((f_X0_startAnew sG sH).1)) ++ (w_L k ah 0 ((f_X0_startAnew sG sH).2))) (rest := []) ⟨hx, hb, hml, hown, hts⟩ hK hA hP hD hS (c_X0_startAnew l k ag ah (ap 0) 0 sG sH) (cwV 0 hts gX4_foretold_X0_startAnew rfl rfl rfl (by decide +kernel) ⟨Nat.le_of_ble_eq_true rfl, Nat.le_of_ble_eq_true rfl⟩) (va_recv hK hP (ci := 0) (q0 := 19) rfl rfl) rfl hl.1 rfl (Nat.le_of_ble_eq_true rfl) dX4_foretold_25 (Nat.zero_le _) (Nat.zero_le _) [19, 20, 21, 22, 23, 24, 25, 26] [0, 1, 2, 3, 4, 5, 6, 7, 8, 9, 10, 11, 12, 13, 14, 15, 16, 17, 18] [0, 1, 2, 3, 4, 5, 6, 7, 8, 9, 10, 11, 12, 13, 14, 15, 16, 17, 18, 19, 20, 21, 22, 23, 24, 25, 26] rfl rfl rfl (by decide) rfl rfl rfl (fun H locs hP hD hS => ?_)
      obtain ⟨z_3, ez_3⟩ : ∃ z, z = f_X0_startAnew sG sH := ⟨_, rfl⟩
      rw [← ez_3] at hP hD
      refine lv_aload_n hx hb dX4_foretold_28 rfl (lv_at hl 0 rfl) ?_
      refine va_get (D := k.1) (ci := 4) (v := .ref (ag 0)) (C := RX4) (T := TX4) (N := 5) hx hb hts in_X4_foretold_X4 hown hK hP 0 rfl rfl 2 (by decide) (k_w hts 1 rfl) (fun _ h9 => h9) rfl dX4_foretold_29 ?_
      refine lv_sipush (v := 240) hx hb dX4_foretold_32 (by decide) ?_
      refine lv_iload_n hx hb dX4_foretold_35 rfl (lv_at hl 1 rfl) ?_
      refine lv_iconst (v := 1) hx hb dX4_foretold_36 (by decide) ?_
      refine lv_icmp_ne (tgt := 44) hx hb dX4_foretold_37 (by decide) (fun c_4 => ?_) (fun c_4 => ?_)
      ·
        refine lv_iconst (v := 0) hx hb dX4_foretold_44 (by decide) ?_
        refine k_Vv (wr := w_X ax (ap 0) (f0) (ag 0) (y0) tx) (ws' := (w_X ax (ap 0) (f0) (ag 0) (y0) tx) ++ (w_P k ap sP) ++ (w_F k ag (ap 0) (ah 0) ((f_X0_goOn 0 sP ((z_3).1) ((z_3).2) 240 0).1)) ++ (w_L k ah 0 ((f_X0_goOn 0 sP ((z_3).1) ((z_3).2) 240 0).2))) (rest := []) ⟨hx, hb, hml, hown, hts⟩ hK hA hP hD hS (c_X0_goOn l k ap ag ah 0 sP ((z_3).1) ((z_3).2) 240 0 (hNs) (hNm) (by decide) (by subst_vars; exact k_I_start 0 sG sH) (by subst_vars; exact k_n.mk (j := 0) (b := 240) (by omega)) (k_n.mk (j := 240) (b := 240) (by omega))) (cwV 2 hts gX4_foretold_X0_goOn rfl rfl rfl (by decide +kernel) ⟨Nat.le_of_ble_eq_true rfl, Nat.le_of_ble_eq_true rfl⟩) (va_recv hK hP (ci := 0) (q0 := 19) rfl rfl) rfl hl.1 rfl (Nat.le_of_ble_eq_true rfl) dX4_foretold_45 (Nat.zero_le _) (Nat.zero_le _) [1, 2, 3, 4, 5, 6, 7, 8, 9, 10, 11, 12, 13, 14, 15, 16, 17, 18, 19, 20, 21, 22, 23, 24, 25, 26] [0] [0, 1, 2, 3, 4, 5, 6, 7, 8, 9, 10, 11, 12, 13, 14, 15, 16, 17, 18, 19, 20, 21, 22, 23, 24, 25, 26] rfl rfl rfl (by decide) rfl rfl rfl (fun H locs hP hD hS => ?_)
        obtain ⟨z_5, ez_5⟩ : ∃ z, z = f_X0_goOn 0 sP ((z_3).1) ((z_3).2) 240 0 := ⟨_, rfl⟩
        rw [← ez_5] at hP hD
        refine lv_iload_n hx hb dX4_foretold_48 rfl (lv_at hl 2 rfl) ?_
        refine lv_if_ne (tgt := 60) hx hb dX4_foretold_49 (by decide) (fun c_6 => ?_) (fun c_6 => ?_)
        ·
          refine lv_iload_n hx hb dX4_foretold_60 rfl (lv_at hl 2 rfl) ?_
          refine lv_iconst (v := 1) hx hb dX4_foretold_61 (by decide) ?_
          refine lv_icmp_ne (tgt := 75) hx hb dX4_foretold_62 (by decide) (fun c_7 => ?_) (fun c_7 => ?_)
          ·
            refine lv_aload_n hx hb dX4_foretold_75 rfl (lv_at hl 0 rfl) ?_
            refine va_get (D := k.1) (ci := 4) (v := .ref (ag 0)) (C := RX4) (T := TX4) (N := 5) hx hb hts in_X4_foretold_X4 hown hK hP 0 rfl rfl 2 (by decide) (k_w hts 1 rfl) (fun _ h9 => h9) rfl dX4_foretold_76 ?_
            refine k_Vi (wr := (w_X ax (ap 0) (f0) (ag 0) (y0) tx) ++ (w_L k ah 0 ((z_5).2))) (ws' := (w_X ax (ap 0) (f0) (ag 0) (y0) tx) ++ (w_P k ap sP) ++ (w_F k ag (ap 0) (ah 0) ((z_5).1)) ++ (w_L k ah 0 ((z_5).2))) (Rv := (f_X0_sumWages sP ((z_5).1))) (rest := []) ⟨hx, hb, hml, hown, hts⟩ hK hA hP hD hS (c_X0_sumWages l k ap ag (ah 0) sP ((z_5).1) (hNs)) (cwV 0 hts gX4_foretold_X0_sumWages rfl rfl rfl (by decide +kernel) ⟨Nat.le_of_ble_eq_true rfl, Nat.le_of_ble_eq_true rfl⟩) (va_recv hK hP (ci := 0) (q0 := 19) rfl rfl) rfl hl.1 rfl (Nat.le_of_ble_eq_true rfl) dX4_foretold_79 (Nat.zero_le _) (Nat.zero_le _) [1, 2, 3, 4, 5, 6, 7, 8, 9, 10, 11, 12, 13, 14, 15, 16, 17, 18, 19, 20, 21, 22, 23, 24] [0, 25, 26] [0, 3, 4, 5, 6, 7, 8, 9, 10, 11, 12, 13, 14, 15, 16, 17, 18, 19, 20, 21, 22, 23, 24, 25, 26, 1, 2] rfl rfl rfl (by decide) rfl rfl rfl (fun H locs hP hD hS => ?_)
            have ef : f_X4_foretold tx sP sG sH i1 i2 = ((f_X0_sumWages sP ((z_5).1)), ((z_5).1), ((z_5).2)) := by
              rw [f_X4_foretold, ← ez_3, ← ez_5, if_neg c_1, if_neg c_2, if_neg c_4, if_neg c_6, if_neg c_7]
            exact k_reti hx hb hr hK (by rw [ef]; exact hP) (by rw [ef]; exact hD) hS hlocks dX4_foretold_82 (by rw [ef])
          ·
            refine lv_aload_n hx hb dX4_foretold_65 rfl (lv_at hl 0 rfl) ?_
            refine va_get (D := k.1) (ci := 4) (v := .ref (ag 0)) (C := RX4) (T := TX4) (N := 5) hx hb hts in_X4_foretold_X4 hown hK hP 0 rfl rfl 2 (by decide) (k_w hts 1 rfl) (fun _ h9 => h9) rfl dX4_foretold_66 ?_
            refine k_Vi (wr := (w_X ax (ap 0) (f0) (ag 0) (y0) tx) ++ (w_L k ah 0 ((z_5).2))) (ws' := (w_X ax (ap 0) (f0) (ag 0) (y0) tx) ++ (w_P k ap sP) ++ (w_F k ag (ap 0) (ah 0) ((z_5).1)) ++ (w_L k ah 0 ((z_5).2))) (Rv := (f_X0_countTorn sP ((z_5).1))) (rest := []) ⟨hx, hb, hml, hown, hts⟩ hK hA hP hD hS (c_X0_countTorn l k ap ag (ah 0) sP ((z_5).1) (hNs) (hNm) (by subst_vars; exact (k_I_go hNs hNm (by decide) (k_I_start 0 sG sH)).2.1)) (cwV 0 hts gX4_foretold_X0_countTorn rfl rfl rfl (by decide +kernel) ⟨Nat.le_of_ble_eq_true rfl, Nat.le_of_ble_eq_true rfl⟩) (va_recv hK hP (ci := 0) (q0 := 19) rfl rfl) rfl hl.1 rfl (Nat.le_of_ble_eq_true rfl) dX4_foretold_69 (Nat.zero_le _) (Nat.zero_le _) [1, 2, 3, 4, 5, 6, 7, 8, 9, 10, 11, 12, 13, 14, 15, 16, 17, 18, 19, 20, 21, 22, 23, 24] [0, 25, 26] [0, 3, 4, 5, 6, 7, 8, 9, 10, 11, 12, 13, 14, 15, 16, 17, 18, 19, 20, 21, 22, 23, 24, 25, 26, 1, 2] rfl rfl rfl (by decide) rfl rfl rfl (fun H locs hP hD hS => ?_)
            refine lv_goto (tgt := 82) hx hb dX4_foretold_72 (by decide) ?_
            have ef : f_X4_foretold tx sP sG sH i1 i2 = ((f_X0_countTorn sP ((z_5).1)), ((z_5).1), ((z_5).2)) := by
              rw [f_X4_foretold, ← ez_3, ← ez_5, if_neg c_1, if_neg c_2, if_neg c_4, if_neg c_6, if_pos c_7]
            exact k_reti hx hb hr hK (by rw [ef]; exact hP) (by rw [ef]; exact hD) hS hlocks dX4_foretold_82 (by rw [ef])
        ·
          refine lv_aload_n hx hb dX4_foretold_52 rfl (lv_at hl 0 rfl) ?_
          refine va_get (D := k.1) (ci := 4) (v := .ref (ag 0)) (C := RX4) (T := TX4) (N := 5) hx hb hts in_X4_foretold_X4 hown hK hP 0 rfl rfl 2 (by decide) (k_w hts 1 rfl) (fun _ h9 => h9) rfl dX4_foretold_53 ?_
          refine k_Vi (wr := (w_X ax (ap 0) (f0) (ag 0) (y0) tx) ++ (w_L k ah 0 ((z_5).2))) (ws' := (w_X ax (ap 0) (f0) (ag 0) (y0) tx) ++ (w_P k ap sP) ++ (w_F k ag (ap 0) (ah 0) ((z_5).1)) ++ (w_L k ah 0 ((z_5).2))) (Rv := (f_X0_countBound sP ((z_5).1))) (rest := []) ⟨hx, hb, hml, hown, hts⟩ hK hA hP hD hS (c_X0_countBound l k ap ag (ah 0) sP ((z_5).1) (hNs)) (cwV 0 hts gX4_foretold_X0_countBound rfl rfl rfl (by decide +kernel) ⟨Nat.le_of_ble_eq_true rfl, Nat.le_of_ble_eq_true rfl⟩) (va_recv hK hP (ci := 0) (q0 := 19) rfl rfl) rfl hl.1 rfl (Nat.le_of_ble_eq_true rfl) dX4_foretold_56 (Nat.zero_le _) (Nat.zero_le _) [1, 2, 3, 4, 5, 6, 7, 8, 9, 10, 11, 12, 13, 14, 15, 16, 17, 18, 19, 20, 21, 22, 23, 24] [0, 25, 26] [0, 3, 4, 5, 6, 7, 8, 9, 10, 11, 12, 13, 14, 15, 16, 17, 18, 19, 20, 21, 22, 23, 24, 25, 26, 1, 2] rfl rfl rfl (by decide) rfl rfl rfl (fun H locs hP hD hS => ?_)
          have ef : f_X4_foretold tx sP sG sH i1 i2 = ((f_X0_countBound sP ((z_5).1)), ((z_5).1), ((z_5).2)) := by
            rw [f_X4_foretold, ← ez_3, ← ez_5, if_neg c_1, if_neg c_2, if_neg c_4, if_pos c_6]
          exact k_reti hx hb hr hK (by rw [ef]; exact hP) (by rw [ef]; exact hD) hS hlocks dX4_foretold_59 (by rw [ef])
      ·
        refine lv_iconst (v := 1) hx hb dX4_foretold_40 (by decide) ?_
        refine lv_goto (tgt := 45) hx hb dX4_foretold_41 (by decide) ?_
        refine k_Vv (wr := w_X ax (ap 0) (f0) (ag 0) (y0) tx) (ws' := (w_X ax (ap 0) (f0) (ag 0) (y0) tx) ++ (w_P k ap sP) ++ (w_F k ag (ap 0) (ah 0) ((f_X0_goOn 0 sP ((z_3).1) ((z_3).2) 240 1).1)) ++ (w_L k ah 0 ((f_X0_goOn 0 sP ((z_3).1) ((z_3).2) 240 1).2))) (rest := []) ⟨hx, hb, hml, hown, hts⟩ hK hA hP hD hS (c_X0_goOn l k ap ag ah 0 sP ((z_3).1) ((z_3).2) 240 1 (hNs) (hNm) (by decide) (by subst_vars; exact k_I_start 0 sG sH) (by subst_vars; exact k_n.mk (j := 0) (b := 240) (by omega)) (k_n.mk (j := 240) (b := 240) (by omega))) (cwV 2 hts gX4_foretold_X0_goOn rfl rfl rfl (by decide +kernel) ⟨Nat.le_of_ble_eq_true rfl, Nat.le_of_ble_eq_true rfl⟩) (va_recv hK hP (ci := 0) (q0 := 19) rfl rfl) rfl hl.1 rfl (Nat.le_of_ble_eq_true rfl) dX4_foretold_45 (Nat.zero_le _) (Nat.zero_le _) [1, 2, 3, 4, 5, 6, 7, 8, 9, 10, 11, 12, 13, 14, 15, 16, 17, 18, 19, 20, 21, 22, 23, 24, 25, 26] [0] [0, 1, 2, 3, 4, 5, 6, 7, 8, 9, 10, 11, 12, 13, 14, 15, 16, 17, 18, 19, 20, 21, 22, 23, 24, 25, 26] rfl rfl rfl (by decide) rfl rfl rfl (fun H locs hP hD hS => ?_)
        obtain ⟨z_8, ez_8⟩ : ∃ z, z = f_X0_goOn 0 sP ((z_3).1) ((z_3).2) 240 1 := ⟨_, rfl⟩
        rw [← ez_8] at hP hD
        refine lv_iload_n hx hb dX4_foretold_48 rfl (lv_at hl 2 rfl) ?_
        refine lv_if_ne (tgt := 60) hx hb dX4_foretold_49 (by decide) (fun c_9 => ?_) (fun c_9 => ?_)
        ·
          refine lv_iload_n hx hb dX4_foretold_60 rfl (lv_at hl 2 rfl) ?_
          refine lv_iconst (v := 1) hx hb dX4_foretold_61 (by decide) ?_
          refine lv_icmp_ne (tgt := 75) hx hb dX4_foretold_62 (by decide) (fun c_10 => ?_) (fun c_10 => ?_)
          ·
            refine lv_aload_n hx hb dX4_foretold_75 rfl (lv_at hl 0 rfl) ?_
            refine va_get (D := k.1) (ci := 4) (v := .ref (ag 0)) (C := RX4) (T := TX4) (N := 5) hx hb hts in_X4_foretold_X4 hown hK hP 0 rfl rfl 2 (by decide) (k_w hts 1 rfl) (fun _ h9 => h9) rfl dX4_foretold_76 ?_
            refine k_Vi (wr := (w_X ax (ap 0) (f0) (ag 0) (y0) tx) ++ (w_L k ah 0 ((z_8).2))) (ws' := (w_X ax (ap 0) (f0) (ag 0) (y0) tx) ++ (w_P k ap sP) ++ (w_F k ag (ap 0) (ah 0) ((z_8).1)) ++ (w_L k ah 0 ((z_8).2))) (Rv := (f_X0_sumWages sP ((z_8).1))) (rest := []) ⟨hx, hb, hml, hown, hts⟩ hK hA hP hD hS (c_X0_sumWages l k ap ag (ah 0) sP ((z_8).1) (hNs)) (cwV 0 hts gX4_foretold_X0_sumWages rfl rfl rfl (by decide +kernel) ⟨Nat.le_of_ble_eq_true rfl, Nat.le_of_ble_eq_true rfl⟩) (va_recv hK hP (ci := 0) (q0 := 19) rfl rfl) rfl hl.1 rfl (Nat.le_of_ble_eq_true rfl) dX4_foretold_79 (Nat.zero_le _) (Nat.zero_le _) [1, 2, 3, 4, 5, 6, 7, 8, 9, 10, 11, 12, 13, 14, 15, 16, 17, 18, 19, 20, 21, 22, 23, 24] [0, 25, 26] [0, 3, 4, 5, 6, 7, 8, 9, 10, 11, 12, 13, 14, 15, 16, 17, 18, 19, 20, 21, 22, 23, 24, 25, 26, 1, 2] rfl rfl rfl (by decide) rfl rfl rfl (fun H locs hP hD hS => ?_)
            have ef : f_X4_foretold tx sP sG sH i1 i2 = ((f_X0_sumWages sP ((z_8).1)), ((z_8).1), ((z_8).2)) := by
              rw [f_X4_foretold, ← ez_3, ← ez_8, if_neg c_1, if_neg c_2, if_pos c_4, if_neg c_9, if_neg c_10]
            exact k_reti hx hb hr hK (by rw [ef]; exact hP) (by rw [ef]; exact hD) hS hlocks dX4_foretold_82 (by rw [ef])
          ·
            refine lv_aload_n hx hb dX4_foretold_65 rfl (lv_at hl 0 rfl) ?_
            refine va_get (D := k.1) (ci := 4) (v := .ref (ag 0)) (C := RX4) (T := TX4) (N := 5) hx hb hts in_X4_foretold_X4 hown hK hP 0 rfl rfl 2 (by decide) (k_w hts 1 rfl) (fun _ h9 => h9) rfl dX4_foretold_66 ?_
            refine k_Vi (wr := (w_X ax (ap 0) (f0) (ag 0) (y0) tx) ++ (w_L k ah 0 ((z_8).2))) (ws' := (w_X ax (ap 0) (f0) (ag 0) (y0) tx) ++ (w_P k ap sP) ++ (w_F k ag (ap 0) (ah 0) ((z_8).1)) ++ (w_L k ah 0 ((z_8).2))) (Rv := (f_X0_countTorn sP ((z_8).1))) (rest := []) ⟨hx, hb, hml, hown, hts⟩ hK hA hP hD hS (c_X0_countTorn l k ap ag (ah 0) sP ((z_8).1) (hNs) (hNm) (by subst_vars; exact (k_I_go hNs hNm (by decide) (k_I_start 0 sG sH)).2.1)) (cwV 0 hts gX4_foretold_X0_countTorn rfl rfl rfl (by decide +kernel) ⟨Nat.le_of_ble_eq_true rfl, Nat.le_of_ble_eq_true rfl⟩) (va_recv hK hP (ci := 0) (q0 := 19) rfl rfl) rfl hl.1 rfl (Nat.le_of_ble_eq_true rfl) dX4_foretold_69 (Nat.zero_le _) (Nat.zero_le _) [1, 2, 3, 4, 5, 6, 7, 8, 9, 10, 11, 12, 13, 14, 15, 16, 17, 18, 19, 20, 21, 22, 23, 24] [0, 25, 26] [0, 3, 4, 5, 6, 7, 8, 9, 10, 11, 12, 13, 14, 15, 16, 17, 18, 19, 20, 21, 22, 23, 24, 25, 26, 1, 2] rfl rfl rfl (by decide) rfl rfl rfl (fun H locs hP hD hS => ?_)
            refine lv_goto (tgt := 82) hx hb dX4_foretold_72 (by decide) ?_
            have ef : f_X4_foretold tx sP sG sH i1 i2 = ((f_X0_countTorn sP ((z_8).1)), ((z_8).1), ((z_8).2)) := by
              rw [f_X4_foretold, ← ez_3, ← ez_8, if_neg c_1, if_neg c_2, if_pos c_4, if_neg c_9, if_pos c_10]
            exact k_reti hx hb hr hK (by rw [ef]; exact hP) (by rw [ef]; exact hD) hS hlocks dX4_foretold_82 (by rw [ef])
        ·
          refine lv_aload_n hx hb dX4_foretold_52 rfl (lv_at hl 0 rfl) ?_
          refine va_get (D := k.1) (ci := 4) (v := .ref (ag 0)) (C := RX4) (T := TX4) (N := 5) hx hb hts in_X4_foretold_X4 hown hK hP 0 rfl rfl 2 (by decide) (k_w hts 1 rfl) (fun _ h9 => h9) rfl dX4_foretold_53 ?_
          refine k_Vi (wr := (w_X ax (ap 0) (f0) (ag 0) (y0) tx) ++ (w_L k ah 0 ((z_8).2))) (ws' := (w_X ax (ap 0) (f0) (ag 0) (y0) tx) ++ (w_P k ap sP) ++ (w_F k ag (ap 0) (ah 0) ((z_8).1)) ++ (w_L k ah 0 ((z_8).2))) (Rv := (f_X0_countBound sP ((z_8).1))) (rest := []) ⟨hx, hb, hml, hown, hts⟩ hK hA hP hD hS (c_X0_countBound l k ap ag (ah 0) sP ((z_8).1) (hNs)) (cwV 0 hts gX4_foretold_X0_countBound rfl rfl rfl (by decide +kernel) ⟨Nat.le_of_ble_eq_true rfl, Nat.le_of_ble_eq_true rfl⟩) (va_recv hK hP (ci := 0) (q0 := 19) rfl rfl) rfl hl.1 rfl (Nat.le_of_ble_eq_true rfl) dX4_foretold_56 (Nat.zero_le _) (Nat.zero_le _) [1, 2, 3, 4, 5, 6, 7, 8, 9, 10, 11, 12, 13, 14, 15, 16, 17, 18, 19, 20, 21, 22, 23, 24] [0, 25, 26] [0, 3, 4, 5, 6, 7, 8, 9, 10, 11, 12, 13, 14, 15, 16, 17, 18, 19, 20, 21, 22, 23, 24, 25, 26, 1, 2] rfl rfl rfl (by decide) rfl rfl rfl (fun H locs hP hD hS => ?_)
          have ef : f_X4_foretold tx sP sG sH i1 i2 = ((f_X0_countBound sP ((z_8).1)), ((z_8).1), ((z_8).2)) := by
            rw [f_X4_foretold, ← ez_3, ← ez_8, if_neg c_1, if_neg c_2, if_pos c_4, if_pos c_9]
          exact k_reti hx hb hr hK (by rw [ef]; exact hP) (by rw [ef]; exact hD) hS hlocks dX4_foretold_59 (by rw [ef])
    ·
      refine lv_bipush (v := (-2)) hx hb dX4_foretold_18 (by decide) ?_
      have ef : f_X4_foretold tx sP sG sH i1 i2 = ((-2), sG, sH) := by
        rw [f_X4_foretold, if_neg c_1, if_pos c_2]
      exact k_reti hx hb hr hK (by rw [ef]; exact hP) (by rw [ef]; exact hD) hS hlocks dX4_foretold_20 (by rw [ef])
