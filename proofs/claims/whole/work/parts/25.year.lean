theorem in_X3_begin_X3 : ∀ w ∈ wsX30, w ∈ wsX3_begin := fun _ h => List.mem_cons_of_mem _ (List.mem_append_right _ h)
def f_X3_begin (sY : Nat → Nat → Int32) (sJ : Nat → Int64) : (Nat → Nat → Int32) :=
  k_st sY 0 (k_st (sY 0) 0 0)
set_option maxHeartbeats 4000000 in
set_option maxRecDepth 100000 in
theorem c_X3_begin (l : Launch) (k : K_X) (ay : Nat → Nat) (f0 : Nat) (sY : Nat → Nat → Int32) (sJ : Nat → Int64) : k_C l yX3_begin wsX3_begin (k_rm 0 0) k [.ref (ay 0)] (w_Y k ay (f0) sY sJ) (k_qV k (w_Y k ay (f0) (f_X3_begin sY sJ) sJ)) := by
  refine k_mk (cc := cX3_begin) (maxL := 1) (ret := none) (by decide) rfl (Nat.le_of_ble_eq_true rfl) ?_
  intro p e s m below meth c A ls C0 hP hD hS hl
  obtain ⟨hx, hb, hr, hts, hown, hlocks, hml, hA, hK⟩ := id C0
  have hown : s.vm.findClass RX3 = some m.cls := hown
  have hl : lv_has ls 1 [(0, .ref (ay 0))] := hl
  refine lv_aload_n hx hb dX3_begin_0 rfl (lv_at hl 0 rfl) ?_
  refine lv_iconst (v := 0) hx hb dX3_begin_1 (by decide) ?_
  refine va_put (D := k.1) (ci := 3) (v := .int 0) (ty := .int) (C := RX3) (T := TX3) (N := 6) hx hb hts in_X3_begin_X3 tyX3 tyX3_ok nmX3 hown hK hP hD hS 0 rfl rfl 1 (by decide) (k_w hts 1 rfl) (fun _ h9 => h9) rfl (by decide +kernel) rfl rfl (Nat.le_of_ble_eq_true rfl) dX3_begin_2 (fun H locs hP hD hS => ?_)
  have hP := k_cP (w_Y_s0 k ay (f0) sY sJ 0) hP
  have hD := k_cD (w_Y_s0 k ay (f0) sY sJ 0) hD
  have ef : f_X3_begin sY sJ = k_st sY 0 (k_st (sY 0) 0 0) := by
    rw [f_X3_begin]
  exact k_retv hx hb hr hK (by rw [ef]; exact hP) (by rw [ef]; exact hD) hS hlocks dX3_begin_5
theorem in_X3_hasBegun_X3 : ∀ w ∈ wsX30, w ∈ wsX3_hasBegun := fun _ h => List.mem_cons_of_mem _ (List.mem_append_right _ h)
def f_X3_hasBegun (sY : Nat → Nat → Int32) (sJ : Nat → Int64) : Int32 :=
  if (sY 0 0) = (-9) then 0
  else 1
set_option maxHeartbeats 4000000 in
set_option maxRecDepth 100000 in
theorem c_X3_hasBegun (l : Launch) (k : K_X) (ay : Nat → Nat) (f0 : Nat) (sY : Nat → Nat → Int32) (sJ : Nat → Int64) : k_C l yX3_hasBegun wsX3_hasBegun (k_rm 0 0) k [.ref (ay 0)] (w_Y k ay (f0) sY sJ) (k_qI k (f_X3_hasBegun sY sJ) (w_Y k ay (f0) sY sJ)) := by
  refine k_mk (cc := cX3_hasBegun) (maxL := 1) (ret := (some .boolean)) (by decide) rfl (Nat.le_of_ble_eq_true rfl) ?_
  intro p e s m below meth c A ls C0 hP hD hS hl
  obtain ⟨hx, hb, hr, hts, hown, hlocks, hml, hA, hK⟩ := id C0
  have hown : s.vm.findClass RX3 = some m.cls := hown
  have hl : lv_has ls 1 [(0, .ref (ay 0))] := hl
  refine lv_aload_n hx hb dX3_hasBegun_0 rfl (lv_at hl 0 rfl) ?_
  refine va_get (D := k.1) (ci := 3) (v := .int (sY 0 0)) (C := RX3) (T := TX3) (N := 6) hx hb hts in_X3_hasBegun_X3 hown hK hP 0 rfl rfl 1 (by decide) (k_w hts 1 rfl) (fun _ h9 => h9) rfl dX3_hasBegun_1 ?_
  refine lv_bipush (v := (-9)) hx hb dX3_hasBegun_4 (by decide) ?_
  refine lv_icmp_eq (tgt := 13) hx hb dX3_hasBegun_6 (by decide) (fun c_1 => ?_) (fun c_1 => ?_)
  ·
    refine lv_iconst (v := 0) hx hb dX3_hasBegun_13 (by decide) ?_
    have ef : f_X3_hasBegun sY sJ = 0 := by
      rw [f_X3_hasBegun, if_pos c_1]
    exact k_retz hx hb hr (by decide) hK hP hD hS hlocks dX3_hasBegun_14 (by rw [ef])
  ·
    refine lv_iconst (v := 1) hx hb dX3_hasBegun_9 (by decide) ?_
    refine lv_goto (tgt := 14) hx hb dX3_hasBegun_10 (by decide) ?_
    have ef : f_X3_hasBegun sY sJ = 1 := by
      rw [f_X3_hasBegun, if_neg c_1]
    exact k_retz hx hb hr (by decide) hK hP hD hS hlocks dX3_hasBegun_14 (by rw [ef])
theorem in_X3_servesOn_X3 : ∀ w ∈ wsX30, w ∈ wsX3_servesOn := fun _ h => List.mem_cons_of_mem _ (List.mem_append_left _ (List.mem_append_right _ h))
theorem in_X3_servesOn_X0 : ∀ w ∈ wsX00, w ∈ wsX3_servesOn := fun _ h => List.mem_cons_of_mem _ (List.mem_append_right _ h)
def f_X3_servesOn (sF : Nat → Nat → Int32) (sY : Nat → Nat → Int32) (sJ : Nat → Int64) (i1 : Int32) (i2 : Int32) : Int32 :=
  if (f_X0_isBound sF i1) = 0 then 0
  else if ((sY 1) i1.toNatClampNeg) < i2 then 0
  else 1
set_option maxHeartbeats 4000000 in
set_option maxRecDepth 100000 in
theorem c_X3_servesOn (l : Launch) (k : K_X) (af : Nat → Nat) (ay : Nat → Nat) (p0 : Nat) (l0 : Nat) (sF : Nat → Nat → Int32) (sY : Nat → Nat → Int32) (sJ : Nat → Int64) (i1 : Int32) (i2 : Int32) (h1 : vp_in i1 10) : k_C l yX3_servesOn wsX3_servesOn (k_rm 1 21) k [.ref (ay 0), .int i1, .int i2] ((w_F k af (p0) (l0) sF) ++ (w_Y k ay (af 0) sY sJ)) (k_qI k (f_X3_servesOn sF sY sJ i1 i2) ((w_F k af (p0) (l0) sF) ++ (w_Y k ay (af 0) sY sJ))) := by
  refine k_mk (cc := cX3_servesOn) (maxL := 3) (ret := (some .boolean)) (by decide) rfl (Nat.le_of_ble_eq_true rfl) ?_
  intro p e s m below meth c A ls C0 hP hD hS hl
  obtain ⟨hx, hb, hr, hts, hown, hlocks, hml, hA, hK⟩ := id C0
  have hown : s.vm.findClass RX3 = some m.cls := hown
  have hl : lv_has ls 3 [(0, .ref (ay 0)), (1, .int i1), (2, .int i2)] := hl
  refine lv_aload_n hx hb dX3_servesOn_0 rfl (lv_at hl 0 rfl) ?_
  refine va_get (D := k.1) (ci := 3) (v := .ref (af 0)) (C := RX3) (T := TX3) (N := 6) hx hb hts in_X3_servesOn_X3 hown hK hP 6 rfl rfl 0 (by decide) (k_w hts 1 rfl) (fun _ h9 => h9) rfl dX3_servesOn_1 ?_
  refine lv_iload_n hx hb dX3_servesOn_4 rfl (lv_at hl 1 rfl) ?_
  refine k_Vi (wr := w_Y k ay (af 0) sY sJ) (ws' := (w_F k af (p0) (l0) sF) ++ (w_Y k ay (af 0) sY sJ)) (Rv := (f_X0_isBound sF i1)) (rest := []) ⟨hx, hb, hml, hown, hts⟩ hK hA hP hD hS (c_X0_isBound l k af (p0) (l0) sF i1 (by assumption)) (cwV 1 hts gX3_servesOn_X0_isBound rfl rfl rfl (by decide +kernel) ⟨Nat.le_of_ble_eq_true rfl, Nat.le_of_ble_eq_true rfl⟩) (va_recv hK hP (ci := 0) (q0 := 0) rfl rfl) rfl hl.1 rfl (Nat.le_of_ble_eq_true rfl) dX3_servesOn_5 (Nat.zero_le _) (Nat.zero_le _) [0, 1, 2, 3, 4, 5] [6, 7, 8, 9, 10] [5, 6, 7, 8, 9, 10, 0, 1, 2, 3, 4] rfl rfl rfl (by decide) rfl rfl rfl (fun H locs hP hD hS => ?_)
  refine lv_if_eq (tgt := 25) hx hb dX3_servesOn_8 (by decide) (fun c_1 => ?_) (fun c_1 => ?_)
  ·
    refine lv_iconst (v := 0) hx hb dX3_servesOn_25 (by decide) ?_
    have ef : f_X3_servesOn sF sY sJ i1 i2 = 0 := by
      rw [f_X3_servesOn, if_pos c_1]
    exact k_retz hx hb hr (by decide) hK hP hD hS hlocks dX3_servesOn_26 (by rw [ef])
  ·
    refine lv_iload_n hx hb dX3_servesOn_11 rfl (lv_at hl 2 rfl) ?_
    refine lv_aload_n hx hb dX3_servesOn_12 rfl (lv_at hl 0 rfl) ?_
    refine va_get (D := k.1) (ci := 3) (v := .ref (ay 1)) (C := RX3) (T := TX3) (N := 6) hx hb hts in_X3_servesOn_X3 hown hK hP 6 rfl rfl 2 (by decide) (k_w hts 2 rfl) (fun _ h9 => h9) rfl dX3_servesOn_13 ?_
    refine lv_iload_n hx hb dX3_servesOn_16 rfl (lv_at hl 1 rfl) ?_
    refine va_iald (f := sY 1) hx hb hK hP 7 0 rfl rfl (by assumption) dX3_servesOn_17 ?_
    refine lv_icmp_gt (tgt := 25) hx hb dX3_servesOn_18 (by decide) (fun c_2 => ?_) (fun c_2 => ?_)
    ·
      refine lv_iconst (v := 0) hx hb dX3_servesOn_25 (by decide) ?_
      have ef : f_X3_servesOn sF sY sJ i1 i2 = 0 := by
        rw [f_X3_servesOn, if_neg c_1, if_pos c_2]
      exact k_retz hx hb hr (by decide) hK hP hD hS hlocks dX3_servesOn_26 (by rw [ef])
    ·
      refine lv_iconst (v := 1) hx hb dX3_servesOn_21 (by decide) ?_
      refine lv_goto (tgt := 26) hx hb dX3_servesOn_22 (by decide) ?_
      have ef : f_X3_servesOn sF sY sJ i1 i2 = 1 := by
        rw [f_X3_servesOn, if_neg c_1, if_neg c_2]
      exact k_retz hx hb hr (by decide) hK hP hD hS hlocks dX3_servesOn_26 (by rw [ef])
theorem in_X3_servesNow_X3 : ∀ w ∈ wsX30, w ∈ wsX3_servesNow := fun _ h => List.mem_cons_of_mem _ (List.mem_append_left _ (List.mem_append_right _ h))
theorem in_X3_servesNow_X0 : ∀ w ∈ wsX00, w ∈ wsX3_servesNow := fun _ h => List.mem_cons_of_mem _ (List.mem_append_right _ h)
def f_X3_servesNow (sF : Nat → Nat → Int32) (sY : Nat → Nat → Int32) (sJ : Nat → Int64) (i1 : Int32) : Int32 :=
  if (f_X3_hasBegun sY sJ) = 0 then 0
  else if (f_X3_servesOn sF sY sJ i1 (sY 0 0)) = 0 then 0
  else 1
set_option maxHeartbeats 4000000 in
set_option maxRecDepth 100000 in
theorem c_X3_servesNow (l : Launch) (k : K_X) (af : Nat → Nat) (ay : Nat → Nat) (p0 : Nat) (l0 : Nat) (sF : Nat → Nat → Int32) (sY : Nat → Nat → Int32) (sJ : Nat → Int64) (i1 : Int32) (h1 : vp_in i1 10) : k_C l yX3_servesNow wsX3_servesNow (k_rm 2 43) k [.ref (ay 0), .int i1] ((w_F k af (p0) (l0) sF) ++ (w_Y k ay (af 0) sY sJ)) (k_qI k (f_X3_servesNow sF sY sJ i1) ((w_F k af (p0) (l0) sF) ++ (w_Y k ay (af 0) sY sJ))) := by
  refine k_mk (cc := cX3_servesNow) (maxL := 2) (ret := (some .boolean)) (by decide) rfl (Nat.le_of_ble_eq_true rfl) ?_
  intro p e s m below meth c A ls C0 hP hD hS hl
  obtain ⟨hx, hb, hr, hts, hown, hlocks, hml, hA, hK⟩ := id C0
  have hown : s.vm.findClass RX3 = some m.cls := hown
  have hl : lv_has ls 2 [(0, .ref (ay 0)), (1, .int i1)] := hl
  refine lv_aload_n hx hb dX3_servesNow_0 rfl (lv_at hl 0 rfl) ?_
  refine k_Vi (wr := w_F k af (p0) (l0) sF) (ws' := (w_F k af (p0) (l0) sF) ++ (w_Y k ay (af 0) sY sJ)) (Rv := (f_X3_hasBegun sY sJ)) (rest := []) ⟨hx, hb, hml, hown, hts⟩ hK hA hP hD hS (c_X3_hasBegun l k ay (af 0) sY sJ) (cwV 0 hts gX3_servesNow_X3_hasBegun rfl rfl rfl (by decide +kernel) ⟨Nat.le_of_ble_eq_true rfl, Nat.le_of_ble_eq_true rfl⟩) (va_recv hK hP (ci := 3) (q0 := 6) rfl rfl) rfl hl.1 rfl (Nat.le_of_ble_eq_true rfl) dX3_servesNow_1 (Nat.zero_le _) (Nat.zero_le _) [6, 7, 8, 9, 10] [0, 1, 2, 3, 4, 5] [0, 1, 2, 3, 4, 5, 6, 7, 8, 9, 10] rfl rfl rfl (by decide) rfl rfl rfl (fun H locs hP hD hS => ?_)
  refine lv_if_eq (tgt := 23) hx hb dX3_servesNow_4 (by decide) (fun c_1 => ?_) (fun c_1 => ?_)
  ·
    refine lv_iconst (v := 0) hx hb dX3_servesNow_23 (by decide) ?_
    have ef : f_X3_servesNow sF sY sJ i1 = 0 := by
      rw [f_X3_servesNow, if_pos c_1]
    exact k_retz hx hb hr (by decide) hK hP hD hS hlocks dX3_servesNow_24 (by rw [ef])
  ·
    refine lv_aload_n hx hb dX3_servesNow_7 rfl (lv_at hl 0 rfl) ?_
    refine lv_iload_n hx hb dX3_servesNow_8 rfl (lv_at hl 1 rfl) ?_
    refine lv_aload_n hx hb dX3_servesNow_9 rfl (lv_at hl 0 rfl) ?_
    refine va_get (D := k.1) (ci := 3) (v := .int (sY 0 0)) (C := RX3) (T := TX3) (N := 6) hx hb hts in_X3_servesNow_X3 hown hK hP 6 rfl rfl 1 (by decide) (k_w hts 1 rfl) (fun _ h9 => h9) rfl dX3_servesNow_10 ?_
    refine k_Vi (wr := ([] : va_W)) (ws' := (w_F k af (p0) (l0) sF) ++ (w_Y k ay (af 0) sY sJ)) (Rv := (f_X3_servesOn sF sY sJ i1 (sY 0 0))) (rest := []) ⟨hx, hb, hml, hown, hts⟩ hK hA hP hD hS (c_X3_servesOn l k af ay (p0) (l0) sF sY sJ i1 (sY 0 0) (by assumption)) (cwV 2 hts gX3_servesNow_X3_servesOn rfl rfl rfl (by decide +kernel) ⟨Nat.le_of_ble_eq_true rfl, Nat.le_of_ble_eq_true rfl⟩) (va_recv hK hP (ci := 3) (q0 := 6) rfl rfl) rfl hl.1 rfl (Nat.le_of_ble_eq_true rfl) dX3_servesNow_13 (Nat.zero_le _) (Nat.zero_le _) [0, 1, 2, 3, 4, 5, 6, 7, 8, 9, 10] [] [0, 1, 2, 3, 4, 5, 6, 7, 8, 9, 10] rfl rfl rfl (by decide) rfl rfl rfl (fun H locs hP hD hS => ?_)
    refine lv_if_eq (tgt := 23) hx hb dX3_servesNow_16 (by decide) (fun c_2 => ?_) (fun c_2 => ?_)
    ·
      refine lv_iconst (v := 0) hx hb dX3_servesNow_23 (by decide) ?_
      have ef : f_X3_servesNow sF sY sJ i1 = 0 := by
        rw [f_X3_servesNow, if_neg c_1, if_pos c_2]
      exact k_retz hx hb hr (by decide) hK hP hD hS hlocks dX3_servesNow_24 (by rw [ef])
    ·
      refine lv_iconst (v := 1) hx hb dX3_servesNow_19 (by decide) ?_
      refine lv_goto (tgt := 24) hx hb dX3_servesNow_20 (by decide) ?_
      have ef : f_X3_servesNow sF sY sJ i1 = 1 := by
        rw [f_X3_servesNow, if_neg c_1, if_neg c_2]
      exact k_retz hx hb hr (by decide) hK hP hD hS hlocks dX3_servesNow_24 (by rw [ef])
theorem in_X3_endOf_X3 : ∀ w ∈ wsX30, w ∈ wsX3_endOf := fun _ h => List.mem_cons_of_mem _ (List.mem_append_left _ (List.mem_append_right _ h))
theorem in_X3_endOf_X0 : ∀ w ∈ wsX00, w ∈ wsX3_endOf := fun _ h => List.mem_cons_of_mem _ (List.mem_append_right _ h)
def f_X3_endOf (sF : Nat → Nat → Int32) (sY : Nat → Nat → Int32) (sJ : Nat → Int64) (i1 : Int32) : Int32 :=
  if (f_X3_hasBegun sY sJ) = 0 then -9
  else if (f_X0_isBound sF i1) = 0 then -9
  else (sY 1) i1.toNatClampNeg
set_option maxHeartbeats 4000000 in
set_option maxRecDepth 100000 in
theorem c_X3_endOf (l : Launch) (k : K_X) (af : Nat → Nat) (ay : Nat → Nat) (p0 : Nat) (l0 : Nat) (sF : Nat → Nat → Int32) (sY : Nat → Nat → Int32) (sJ : Nat → Int64) (i1 : Int32) (h1 : vp_in i1 10) : k_C l yX3_endOf wsX3_endOf (k_rm 1 21) k [.ref (ay 0), .int i1] ((w_F k af (p0) (l0) sF) ++ (w_Y k ay (af 0) sY sJ)) (k_qI k (f_X3_endOf sF sY sJ i1) ((w_F k af (p0) (l0) sF) ++ (w_Y k ay (af 0) sY sJ))) := by
  refine k_mk (cc := cX3_endOf) (maxL := 2) (ret := (some .int)) (by decide) rfl (Nat.le_of_ble_eq_true rfl) ?_
  intro p e s m below meth c A ls C0 hP hD hS hl
  obtain ⟨hx, hb, hr, hts, hown, hlocks, hml, hA, hK⟩ := id C0
  have hown : s.vm.findClass RX3 = some m.cls := hown
  have hl : lv_has ls 2 [(0, .ref (ay 0)), (1, .int i1)] := hl
  refine lv_aload_n hx hb dX3_endOf_0 rfl (lv_at hl 0 rfl) ?_
  refine k_Vi (wr := w_F k af (p0) (l0) sF) (ws' := (w_F k af (p0) (l0) sF) ++ (w_Y k ay (af 0) sY sJ)) (Rv := (f_X3_hasBegun sY sJ)) (rest := []) ⟨hx, hb, hml, hown, hts⟩ hK hA hP hD hS (c_X3_hasBegun l k ay (af 0) sY sJ) (cwV 0 hts gX3_endOf_X3_hasBegun rfl rfl rfl (by decide +kernel) ⟨Nat.le_of_ble_eq_true rfl, Nat.le_of_ble_eq_true rfl⟩) (va_recv hK hP (ci := 3) (q0 := 6) rfl rfl) rfl hl.1 rfl (Nat.le_of_ble_eq_true rfl) dX3_endOf_1 (Nat.zero_le _) (Nat.zero_le _) [6, 7, 8, 9, 10] [0, 1, 2, 3, 4, 5] [0, 1, 2, 3, 4, 5, 6, 7, 8, 9, 10] rfl rfl rfl (by decide) rfl rfl rfl (fun H locs hP hD hS => ?_)
  refine lv_if_eq (tgt := 27) hx hb dX3_endOf_4 (by decide) (fun c_1 => ?_) (fun c_1 => ?_)
  ·
    refine lv_bipush (v := (-9)) hx hb dX3_endOf_27 (by decide) ?_
    have ef : f_X3_endOf sF sY sJ i1 = -9 := by
      rw [f_X3_endOf, if_pos c_1]
    exact k_reti hx hb hr hK hP hD hS hlocks dX3_endOf_29 (by rw [ef])
  ·
    refine lv_aload_n hx hb dX3_endOf_7 rfl (lv_at hl 0 rfl) ?_
    refine va_get (D := k.1) (ci := 3) (v := .ref (af 0)) (C := RX3) (T := TX3) (N := 6) hx hb hts in_X3_endOf_X3 hown hK hP 6 rfl rfl 0 (by decide) (k_w hts 1 rfl) (fun _ h9 => h9) rfl dX3_endOf_8 ?_
    refine lv_iload_n hx hb dX3_endOf_11 rfl (lv_at hl 1 rfl) ?_
    refine k_Vi (wr := w_Y k ay (af 0) sY sJ) (ws' := (w_F k af (p0) (l0) sF) ++ (w_Y k ay (af 0) sY sJ)) (Rv := (f_X0_isBound sF i1)) (rest := []) ⟨hx, hb, hml, hown, hts⟩ hK hA hP hD hS (c_X0_isBound l k af (p0) (l0) sF i1 (by assumption)) (cwV 1 hts gX3_endOf_X0_isBound rfl rfl rfl (by decide +kernel) ⟨Nat.le_of_ble_eq_true rfl, Nat.le_of_ble_eq_true rfl⟩) (va_recv hK hP (ci := 0) (q0 := 0) rfl rfl) rfl hl.1 rfl (Nat.le_of_ble_eq_true rfl) dX3_endOf_12 (Nat.zero_le _) (Nat.zero_le _) [0, 1, 2, 3, 4, 5] [6, 7, 8, 9, 10] [5, 6, 7, 8, 9, 10, 0, 1, 2, 3, 4] rfl rfl rfl (by decide) rfl rfl rfl (fun H locs hP hD hS => ?_)
    refine lv_if_eq (tgt := 27) hx hb dX3_endOf_15 (by decide) (fun c_2 => ?_) (fun c_2 => ?_)
    ·
      refine lv_bipush (v := (-9)) hx hb dX3_endOf_27 (by decide) ?_
      have ef : f_X3_endOf sF sY sJ i1 = -9 := by
        rw [f_X3_endOf, if_neg c_1, if_pos c_2]
      exact k_reti hx hb hr hK hP hD hS hlocks dX3_endOf_29 (by rw [ef])
    ·
      refine lv_aload_n hx hb dX3_endOf_18 rfl (lv_at hl 0 rfl) ?_
      refine va_get (D := k.1) (ci := 3) (v := .ref (ay 1)) (C := RX3) (T := TX3) (N := 6) hx hb hts in_X3_endOf_X3 hown hK hP 6 rfl rfl 2 (by decide) (k_w hts 2 rfl) (fun _ h9 => h9) rfl dX3_endOf_19 ?_
      refine lv_iload_n hx hb dX3_endOf_22 rfl (lv_at hl 1 rfl) ?_
      refine va_iald (f := sY 1) hx hb hK hP 7 0 rfl rfl (by assumption) dX3_endOf_23 ?_
      refine lv_goto (tgt := 29) hx hb dX3_endOf_24 (by decide) ?_
      have ef : f_X3_endOf sF sY sJ i1 = (sY 1) i1.toNatClampNeg := by
        rw [f_X3_endOf, if_neg c_1, if_neg c_2]
      exact k_reti hx hb hr hK hP hD hS hlocks dX3_endOf_29 (by rw [ef])
def f_X3_wordOf (i1 : Int32) (i2 : Int32) : Int32 :=
  (i1 * 6) + (i2 / 64)
set_option maxHeartbeats 4000000 in
set_option maxRecDepth 100000 in
theorem c_X3_wordOf (l : Launch) (k : K_X) (i1 : Int32) (i2 : Int32) : k_C l yX3_wordOf wsX3_wordOf (k_rm 0 0) k [.int i1, .int i2] (([] : va_W)) (k_qI k (f_X3_wordOf i1 i2) (([] : va_W))) := by
  refine k_mk (cc := cX3_wordOf) (maxL := 2) (ret := (some .int)) (by decide) rfl (Nat.le_of_ble_eq_true rfl) ?_
  intro p e s m below meth c A ls C0 hP hD hS hl
  obtain ⟨hx, hb, hr, hts, hown, hlocks, hml, hA, hK⟩ := id C0
  have hown : s.vm.findClass RX3 = some m.cls := hown
  have hl : lv_has ls 2 [(0, .int i1), (1, .int i2)] := hl
  refine lv_iload_n hx hb dX3_wordOf_0 rfl (lv_at hl 0 rfl) ?_
  refine lv_bipush (v := 6) hx hb dX3_wordOf_1 (by decide) ?_
  refine lv_imul hx hb dX3_wordOf_3 ?_
  refine lv_iload_n hx hb dX3_wordOf_4 rfl (lv_at hl 1 rfl) ?_
  refine lv_bipush (v := 64) hx hb dX3_wordOf_5 (by decide) ?_
  refine lv_idiv hx hb dX3_wordOf_7 (by decide) ?_
  refine lv_iadd hx hb dX3_wordOf_8 ?_
  have ef : f_X3_wordOf i1 i2 = (i1 * 6) + (i2 / 64) := by
    rw [f_X3_wordOf]
  exact k_reti hx hb hr hK hP hD hS hlocks dX3_wordOf_9 (by rw [ef])
def f_X3_dayBit (i1 : Int32) : Int64 :=
  (1 : Int64) <<< ((i1 - i1 / 64 * 64).toInt64 &&& 63)
set_option maxHeartbeats 4000000 in
set_option maxRecDepth 100000 in
theorem c_X3_dayBit (l : Launch) (k : K_X) (i1 : Int32) : k_C l yX3_dayBit wsX3_dayBit (k_rm 0 0) k [.int i1] (([] : va_W)) (k_qJ k (f_X3_dayBit i1) (([] : va_W))) := by
  refine k_mk (cc := cX3_dayBit) (maxL := 1) (ret := (some .long)) (by decide) rfl (Nat.le_of_ble_eq_true rfl) ?_
  intro p e s m below meth c A ls C0 hP hD hS hl
  obtain ⟨hx, hb, hr, hts, hown, hlocks, hml, hA, hK⟩ := id C0
  have hown : s.vm.findClass RX3 = some m.cls := hown
  have hl : lv_has ls 1 [(0, .int i1)] := hl
  refine lv_lconst (v := 1) hx hb dX3_dayBit_0 (by decide) ?_
  refine lv_iload_n hx hb dX3_dayBit_1 rfl (lv_at hl 0 rfl) ?_
  refine lv_bipush (v := 64) hx hb dX3_dayBit_2 (by decide) ?_
  refine lv_irem hx hb dX3_dayBit_4 (by decide) ?_
  refine lv_lshl (v := ((1 : Int64) <<< ((i1 - i1 / 64 * 64).toInt64 &&& 63))) hx hb dX3_dayBit_5 rfl ?_
  have ef : f_X3_dayBit i1 = (1 : Int64) <<< ((i1 - i1 / 64 * 64).toInt64 &&& 63) := by
    rw [f_X3_dayBit]
  exact k_retj hx hb hr hK hP hD hS hlocks dX3_dayBit_6 (by rw [ef])
theorem k_word {s : Int32} {j : Nat} (hs : vp_in s 10) (hj : j < 364) : vp_in (f_X3_wordOf s (nI j)) 60 := by
  obtain ⟨a, ha, rfl⟩ := vp_in_of hs (by omega)
  unfold f_X3_wordOf
  rw [show (6 : Int32) = nI 6 from rfl, show (64 : Int32) = nI 64 from rfl, pk_mul, pk_div (by omega) (by omega) (by omega), nI_add]
  exact vp_in_nI (by omega) (by omega)
theorem k_gt {x : Int32} {b j : Nat} (h : k_n (x + 1) b) (hb : b ≤ 1000) (hj : (x + 1).toNatClampNeg ≤ j) (hj2 : j ≤ 1000) : x < nI j := by
  obtain ⟨a, ha, e⟩ := h.get
  rw [e, nI_clamp (by omega)] at hj
  have e2 : x = nI a - nI 1 := by rw [← e]; simp [nI]
  rw [Int32.lt_iff_toInt_lt, e2, pk_sub_toInt (by omega) (by omega), nI_toInt (by omega)]
  omega
theorem k_ngt {x : Int32} {b j : Nat} (h : k_n (x + 1) b) (hb : b ≤ 1000) (hj : j < (x + 1).toNatClampNeg) : ¬ x < nI j := by
  obtain ⟨a, ha, e⟩ := h.get
  rw [e, nI_clamp (by omega)] at hj
  have e2 : x = nI a - nI 1 := by rw [← e]; simp [nI]
  rw [Int32.lt_iff_toInt_lt, e2, pk_sub_toInt (by omega) (by omega), nI_toInt (by omega)]
  omega
theorem in_X3_countSick_X3 : ∀ w ∈ wsX30, w ∈ wsX3_countSick := fun _ h => List.mem_cons_of_mem _ (List.mem_append_right _ h)
def g_X3_countSick_lp (sY : Nat → Nat → Int32) (sJ : Nat → Int64) (i1 : Int32) (i2 : Int32) : Nat → Nat → Int32 → Int32
  | 0, j, a1 => a1
  | r + 1, j, a1 => if (lg_cmp ((sJ (f_X3_wordOf i1 (nI j)).toNatClampNeg) &&& (f_X3_dayBit (nI j))) 0) = 0 then g_X3_countSick_lp sY sJ i1 i2 r (j + 1) a1
    else g_X3_countSick_lp sY sJ i1 i2 r (j + 1) (a1 + 1)
set_option maxHeartbeats 4000000 in
set_option maxRecDepth 100000 in
theorem lp_X3_countSick_lp {p : Program} {l : Launch} {e : Env} {s : State} {m : MethodId} {below : List Frame} {meth : Method} {c : Code} {A : Nat → Prop} {Q : State → Prop} {av : Array Value} (k : K_X) (ay : Nat → Nat) (f0 : Nat) (sY : Nat → Nat → Int32) (sJ : Nat → Int64) (i1 : Int32) (i2 : Int32) (C0 : k_Cx p s m meth c k cX3_countSick (some .int) wsX3_countSick RX3 5 av A) (h1 : vp_in i1 10) (hla : k_n (i2 + 1) 364) : ∀ (r j : Nat) (a1 : Int32) (H : Heap) (locs : List Loc) (ls : Array Slot), j + r = (i2 + 1).toNatClampNeg → va_P k.1 vwCl (w_Y k ay (f0) sY sJ) H → va_D A (w_Y k ay (f0) sY sJ) → va_S A s.heap H locs → lv_has ls 5 [(0, .ref (ay 0)), (1, .int i1), (2, .int i2), (3, .int a1), (4, .int (nI j))] → (∀ (H : Heap) (locs : List Loc) (ls : Array Slot), va_P k.1 vwCl (w_Y k ay (f0) sY sJ) H → va_D A (w_Y k ay (f0) sY sJ) → va_S A s.heap H locs → lv_has ls 5 [(0, .ref (ay 0)), (1, .int i1), (2, .int i2), (3, .int (g_X3_countSick_lp sY sJ i1 i2 r j a1))] → W p l e (k_rm 1 21) s m av below meth c H locs 0 0 Q (F0 m 42 ls [])) → W p l e (k_rm 1 21) s m av below meth c H locs 0 0 Q (F0 m 5 ls []) := by
  obtain ⟨hx, hb, hr, hts, hown, hlocks, hml, hA, hK⟩ := id C0
  have hq := hla.2
  intro r
  induction r with
  | zero =>
    intro j a1 H locs ls hj hP hD hS hl hQ
    refine lv_iload hx hb dX3_countSick_5 (lv_at hl 4 rfl) ?_
    refine lv_iload_n hx hb dX3_countSick_7 rfl (lv_at hl 2 rfl) ?_
    refine lv_icmp_gt (tgt := 42) hx hb dX3_countSick_8 (by decide) (fun c_1 => ?_) (fun c_1 => ?_)
    rotate_left
    · exact absurd (k_gt hla (by omega) (by omega) (by omega)) c_1
    have eg : g_X3_countSick_lp sY sJ i1 i2 0 j a1 = a1 := by
      rw [g_X3_countSick_lp]
    rw [eg] at hQ
    exact hQ _ _ _ hP hD hS (lv_sub hl [0, 1, 2, 3] rfl)
  | succ r ih =>
    intro j a1 H locs ls hj hP hD hS hl hQ
    refine lv_iload hx hb dX3_countSick_5 (lv_at hl 4 rfl) ?_
    refine lv_iload_n hx hb dX3_countSick_7 rfl (lv_at hl 2 rfl) ?_
    refine lv_icmp_gt (tgt := 42) hx hb dX3_countSick_8 (by decide) (fun c_1 => ?_) (fun c_1 => ?_)
    · exact absurd c_1 (k_ngt hla (by omega) (by omega))
    refine lv_aload_n hx hb dX3_countSick_11 rfl (lv_at hl 0 rfl) ?_
    refine va_get (D := k.1) (ci := 3) (v := .ref (ay 4)) (C := RX3) (T := TX3) (N := 6) hx hb hts in_X3_countSick_X3 hown hK hP 0 rfl rfl 5 (by decide) (k_w hts 1 rfl) (fun _ h9 => h9) rfl dX3_countSick_12 ?_
    refine lv_iload_n hx hb dX3_countSick_15 rfl (lv_at hl 1 rfl) ?_
    refine lv_iload hx hb dX3_countSick_16 (lv_at hl 4 rfl) ?_
    refine k_Si (wr := w_Y k ay (f0) sY sJ) (ws' := w_Y k ay (f0) sY sJ) (Rv := (f_X3_wordOf i1 (nI j))) (rest := [.ref (ay 4)]) ⟨hx, hb, hml, hown, hts⟩ hK hA hP hD hS (c_X3_wordOf l k i1 (nI j)) (va_cwS 2 hts gX3_countSick_X3_wordOf rfl rfl rfl (by decide +kernel) ⟨Nat.le_of_ble_eq_true rfl, Nat.le_of_ble_eq_true rfl⟩) rfl hl.1 rfl (Nat.le_of_ble_eq_true rfl) dX3_countSick_18 (Nat.zero_le _) (Nat.zero_le _) [] [0, 1, 2, 3, 4] [0, 1, 2, 3, 4] rfl rfl rfl (by decide) rfl rfl rfl (fun H locs hP hD hS => ?_)
    refine va_lald (f := sJ) hx hb hK hP 4 2 rfl rfl (k_word h1 (by omega)) dX3_countSick_21 ?_
    refine lv_iload hx hb dX3_countSick_22 (lv_at hl 4 rfl) ?_
    refine k_Sj (wr := w_Y k ay (f0) sY sJ) (ws' := w_Y k ay (f0) sY sJ) (Rv := (f_X3_dayBit (nI j))) (rest := [.long (sJ (f_X3_wordOf i1 (nI j)).toNatClampNeg)]) ⟨hx, hb, hml, hown, hts⟩ hK hA hP hD hS (c_X3_dayBit l k (nI j)) (va_cwS 1 hts gX3_countSick_X3_dayBit rfl rfl rfl (by decide +kernel) ⟨Nat.le_of_ble_eq_true rfl, Nat.le_of_ble_eq_true rfl⟩) rfl hl.1 rfl (Nat.le_of_ble_eq_true rfl) dX3_countSick_24 (Nat.zero_le _) (Nat.zero_le _) [] [0, 1, 2, 3, 4] [0, 1, 2, 3, 4] rfl rfl rfl (by decide) rfl rfl rfl (fun H locs hP hD hS => ?_)
    refine lv_land hx hb dX3_countSick_27 ?_
    refine lv_lconst (v := 0) hx hb dX3_countSick_28 (by decide) ?_
    refine W.lcmp hx hb dX3_countSick_29 ?_
    refine lv_if_eq (tgt := 36) hx hb dX3_countSick_30 (by decide) (fun c_2 => ?_) (fun c_2 => ?_)
    ·
      refine lv_iinc (v := nI (j + 1)) (lv' := [(4, .int (nI (j + 1))), (0, .ref (ay 0)), (1, .int i1), (2, .int i2), (3, .int a1)]) hx hb dX3_countSick_36 hl (k := 4) rfl (nI_1 j) (by decide) rfl (fun ls hl => ?_)
      refine lv_goto (tgt := 5) hx hb dX3_countSick_39 (by decide) ?_
      have eg : g_X3_countSick_lp sY sJ i1 i2 (r + 1) j a1 = g_X3_countSick_lp sY sJ i1 i2 r (j + 1) a1 := by
        rw [g_X3_countSick_lp, if_pos c_2]
      rw [eg] at hQ
      exact ih (j + 1) a1 _ _ _ (by omega) hP hD hS (lv_sub hl [1, 2, 3, 4, 0] rfl) hQ
    ·
      refine lv_iinc (v := a1 + 1) (lv' := [(3, .int (a1 + 1)), (0, .ref (ay 0)), (1, .int i1), (2, .int i2), (4, .int (nI j))]) hx hb dX3_countSick_33 hl (k := 3) rfl rfl (by decide) rfl (fun ls hl => ?_)
      refine lv_iinc (v := nI (j + 1)) (lv' := [(4, .int (nI (j + 1))), (3, .int (a1 + 1)), (0, .ref (ay 0)), (1, .int i1), (2, .int i2)]) hx hb dX3_countSick_36 hl (k := 4) rfl (nI_1 j) (by decide) rfl (fun ls hl => ?_)
      refine lv_goto (tgt := 5) hx hb dX3_countSick_39 (by decide) ?_
      have eg : g_X3_countSick_lp sY sJ i1 i2 (r + 1) j a1 = g_X3_countSick_lp sY sJ i1 i2 r (j + 1) (a1 + 1) := by
        rw [g_X3_countSick_lp, if_neg c_2]
      rw [eg] at hQ
      exact ih (j + 1) (a1 + 1) _ _ _ (by omega) hP hD hS (lv_sub hl [2, 3, 4, 1, 0] rfl) hQ
def f_X3_countSick (sY : Nat → Nat → Int32) (sJ : Nat → Int64) (i1 : Int32) (i2 : Int32) : Int32 :=
  g_X3_countSick_lp sY sJ i1 i2 ((i2 + 1).toNatClampNeg) 0 0
set_option maxHeartbeats 4000000 in
set_option maxRecDepth 100000 in
theorem c_X3_countSick (l : Launch) (k : K_X) (ay : Nat → Nat) (f0 : Nat) (sY : Nat → Nat → Int32) (sJ : Nat → Int64) (i1 : Int32) (i2 : Int32) (h1 : vp_in i1 10) (hla : k_n (i2 + 1) 364) : k_C l yX3_countSick wsX3_countSick (k_rm 1 21) k [.ref (ay 0), .int i1, .int i2] (w_Y k ay (f0) sY sJ) (k_qI k (f_X3_countSick sY sJ i1 i2) (w_Y k ay (f0) sY sJ)) := by
  refine k_mk (cc := cX3_countSick) (maxL := 5) (ret := (some .int)) (by decide) rfl (Nat.le_of_ble_eq_true rfl) ?_
  intro p e s m below meth c A ls C0 hP hD hS hl
  obtain ⟨hx, hb, hr, hts, hown, hlocks, hml, hA, hK⟩ := id C0
  have hown : s.vm.findClass RX3 = some m.cls := hown
  have hl : lv_has ls 5 [(0, .ref (ay 0)), (1, .int i1), (2, .int i2)] := hl
  refine lv_iconst (v := 0) hx hb dX3_countSick_0 (by decide) ?_
  refine lv_istore_n (lv' := [(3, .int 0), (0, .ref (ay 0)), (1, .int i1), (2, .int i2)]) hx hb dX3_countSick_1 rfl hl (by decide) rfl (fun ls hl => ?_)
  refine lv_iconst (v := 0) hx hb dX3_countSick_2 (by decide) ?_
  refine lv_istore (lv' := [(4, .int 0), (3, .int 0), (0, .ref (ay 0)), (1, .int i1), (2, .int i2)]) hx hb dX3_countSick_3 hl (by decide) rfl (fun ls hl => ?_)
  have hl : lv_has ls 5 [(0, .ref (ay 0)), (1, .int i1), (2, .int i2), (3, .int 0), (4, .int (nI 0))] := lv_sub hl [2, 3, 4, 1, 0] rfl
  refine lp_X3_countSick_lp k ay f0 sY sJ i1 i2 C0 (by first | assumption | omega) (by first | assumption | omega) ((i2 + 1).toNatClampNeg) 0 0 _ _ _ (by omega) hP hD hS hl (fun H locs ls hP hD hS hl => ?_)
  refine lv_iload_n hx hb dX3_countSick_42 rfl (lv_at hl 3 rfl) ?_
  have ef : f_X3_countSick sY sJ i1 i2 = g_X3_countSick_lp sY sJ i1 i2 ((i2 + 1).toNatClampNeg) 0 0 := by
    rw [f_X3_countSick]
  exact k_reti hx hb hr hK hP hD hS hlocks dX3_countSick_43 (by rw [ef])
theorem in_X3_fallSick_X3 : ∀ w ∈ wsX30, w ∈ wsX3_fallSick := fun _ h => List.mem_cons_of_mem _ (List.mem_append_right _ h)
def g_X3_fallSick_lp (sY : Nat → Nat → Int32) (i1 : Int32) (i2 : Int32) (la : Int32) : Nat → Nat → (Nat → Int64) → (Nat → Int64)
  | 0, j, sJ => sJ
  | r + 1, j, sJ => g_X3_fallSick_lp sY i1 i2 la r (j + 1) (vp_updL sJ (f_X3_wordOf i1 (nI j)).toNatClampNeg ((sJ (f_X3_wordOf i1 (nI j)).toNatClampNeg) ||| (f_X3_dayBit (nI j))))
set_option maxHeartbeats 4000000 in
set_option maxRecDepth 100000 in
theorem lp_X3_fallSick_lp {p : Program} {l : Launch} {e : Env} {s : State} {m : MethodId} {below : List Frame} {meth : Method} {c : Code} {A : Nat → Prop} {Q : State → Prop} {av : Array Value} (k : K_X) (ay : Nat → Nat) (f0 : Nat) (sY : Nat → Nat → Int32) (i1 : Int32) (i2 : Int32) (la : Int32) (C0 : k_Cx p s m meth c k cX3_fallSick none wsX3_fallSick RX3 5 av A) (h1 : vp_in i1 10) (hla : k_n (la + 1) 364) : ∀ (r j : Nat) (sJ : Nat → Int64) (H : Heap) (locs : List Loc) (ls : Array Slot), j + r = (la + 1).toNatClampNeg → va_P k.1 vwCl (w_Y k ay (f0) sY sJ) H → va_D A (w_Y k ay (f0) sY sJ) → va_S A s.heap H locs → lv_has ls 5 [(0, .ref (ay 0)), (1, .int i1), (2, .int i2), (3, .int la), (4, .int (nI j))] → (∀ (H : Heap) (locs : List Loc) (ls : Array Slot), va_P k.1 vwCl (w_Y k ay (f0) sY (g_X3_fallSick_lp sY i1 i2 la r j sJ)) H → va_D A (w_Y k ay (f0) sY (g_X3_fallSick_lp sY i1 i2 la r j sJ)) → va_S A s.heap H locs → lv_has ls 5 [(0, .ref (ay 0)), (1, .int i1), (2, .int i2), (3, .int la)] → W p l e (k_rm 1 21) s m av below meth c H locs 0 0 Q (F0 m 52 ls [])) → W p l e (k_rm 1 21) s m av below meth c H locs 0 0 Q (F0 m 21 ls []) := by
  obtain ⟨hx, hb, hr, hts, hown, hlocks, hml, hA, hK⟩ := id C0
  have hq := hla.2
  intro r
  induction r with
  | zero =>
    intro j sJ H locs ls hj hP hD hS hl hQ
    refine lv_iload hx hb dX3_fallSick_21 (lv_at hl 4 rfl) ?_
    refine lv_iload_n hx hb dX3_fallSick_23 rfl (lv_at hl 3 rfl) ?_
    refine lv_icmp_gt (tgt := 52) hx hb dX3_fallSick_24 (by decide) (fun c_1 => ?_) (fun c_1 => ?_)
    rotate_left
    · exact absurd (k_gt hla (by omega) (by omega) (by omega)) c_1
    have eg : g_X3_fallSick_lp sY i1 i2 la 0 j sJ = sJ := by
      rw [g_X3_fallSick_lp]
    rw [eg] at hQ
    exact hQ _ _ _ hP hD hS (lv_sub hl [0, 1, 2, 3] rfl)
  | succ r ih =>
    intro j sJ H locs ls hj hP hD hS hl hQ
    refine lv_iload hx hb dX3_fallSick_21 (lv_at hl 4 rfl) ?_
    refine lv_iload_n hx hb dX3_fallSick_23 rfl (lv_at hl 3 rfl) ?_
    refine lv_icmp_gt (tgt := 52) hx hb dX3_fallSick_24 (by decide) (fun c_1 => ?_) (fun c_1 => ?_)
    · exact absurd c_1 (k_ngt hla (by omega) (by omega))
    refine lv_aload_n hx hb dX3_fallSick_27 rfl (lv_at hl 0 rfl) ?_
    refine va_get (D := k.1) (ci := 3) (v := .ref (ay 4)) (C := RX3) (T := TX3) (N := 6) hx hb hts in_X3_fallSick_X3 hown hK hP 0 rfl rfl 5 (by decide) (k_w hts 6 rfl) (fun _ h9 => h9) rfl dX3_fallSick_28 ?_
    refine lv_iload_n hx hb dX3_fallSick_31 rfl (lv_at hl 1 rfl) ?_
    refine lv_iload hx hb dX3_fallSick_32 (lv_at hl 4 rfl) ?_
    refine k_Si (wr := w_Y k ay (f0) sY sJ) (ws' := w_Y k ay (f0) sY sJ) (Rv := (f_X3_wordOf i1 (nI j))) (rest := [.ref (ay 4)]) ⟨hx, hb, hml, hown, hts⟩ hK hA hP hD hS (c_X3_wordOf l k i1 (nI j)) (va_cwS 2 hts gX3_fallSick_X3_wordOf rfl rfl rfl (by decide +kernel) ⟨Nat.le_of_ble_eq_true rfl, Nat.le_of_ble_eq_true rfl⟩) rfl hl.1 rfl (Nat.le_of_ble_eq_true rfl) dX3_fallSick_34 (Nat.zero_le _) (Nat.zero_le _) [] [0, 1, 2, 3, 4] [0, 1, 2, 3, 4] rfl rfl rfl (by decide) rfl rfl rfl (fun H locs hP hD hS => ?_)
    refine lv_dup2_11 hx hb dX3_fallSick_37 rfl rfl ?_
    refine va_lald (f := sJ) hx hb hK hP 4 2 rfl rfl (k_word h1 (by omega)) dX3_fallSick_38 ?_
    refine lv_iload hx hb dX3_fallSick_39 (lv_at hl 4 rfl) ?_
    refine k_Sj (wr := w_Y k ay (f0) sY sJ) (ws' := w_Y k ay (f0) sY sJ) (Rv := (f_X3_dayBit (nI j))) (rest := [.long (sJ (f_X3_wordOf i1 (nI j)).toNatClampNeg), .int (f_X3_wordOf i1 (nI j)), .ref (ay 4)]) ⟨hx, hb, hml, hown, hts⟩ hK hA hP hD hS (c_X3_dayBit l k (nI j)) (va_cwS 1 hts gX3_fallSick_X3_dayBit rfl rfl rfl (by decide +kernel) ⟨Nat.le_of_ble_eq_true rfl, Nat.le_of_ble_eq_true rfl⟩) rfl hl.1 rfl (Nat.le_of_ble_eq_true rfl) dX3_fallSick_41 (Nat.zero_le _) (Nat.zero_le _) [] [0, 1, 2, 3, 4] [0, 1, 2, 3, 4] rfl rfl rfl (by decide) rfl rfl rfl (fun H locs hP hD hS => ?_)
    refine lv_lor hx hb dX3_fallSick_44 ?_
    refine va_last (f := sJ) hx hb hK hP hD hS 4 2 rfl rfl (k_word h1 (by omega)) dX3_fallSick_45 (fun H locs hP hD hS => ?_)
    have hP := k_cP (w_Y_J k ay (f0) sY sJ (vp_updL sJ (f_X3_wordOf i1 (nI j)).toNatClampNeg ((sJ (f_X3_wordOf i1 (nI j)).toNatClampNeg) ||| (f_X3_dayBit (nI j))))) hP
    have hD := k_cD (w_Y_J k ay (f0) sY sJ (vp_updL sJ (f_X3_wordOf i1 (nI j)).toNatClampNeg ((sJ (f_X3_wordOf i1 (nI j)).toNatClampNeg) ||| (f_X3_dayBit (nI j))))) hD
    refine lv_iinc (v := nI (j + 1)) (lv' := [(4, .int (nI (j + 1))), (0, .ref (ay 0)), (1, .int i1), (2, .int i2), (3, .int la)]) hx hb dX3_fallSick_46 hl (k := 4) rfl (nI_1 j) (by decide) rfl (fun ls hl => ?_)
    refine lv_goto (tgt := 21) hx hb dX3_fallSick_49 (by decide) ?_
    have eg : g_X3_fallSick_lp sY i1 i2 la (r + 1) j sJ = g_X3_fallSick_lp sY i1 i2 la r (j + 1) (vp_updL sJ (f_X3_wordOf i1 (nI j)).toNatClampNeg ((sJ (f_X3_wordOf i1 (nI j)).toNatClampNeg) ||| (f_X3_dayBit (nI j)))) := by
      rw [g_X3_fallSick_lp]
    rw [eg] at hQ
    exact ih (j + 1) (vp_updL sJ (f_X3_wordOf i1 (nI j)).toNatClampNeg ((sJ (f_X3_wordOf i1 (nI j)).toNatClampNeg) ||| (f_X3_dayBit (nI j)))) _ _ _ (by omega) hP hD hS (lv_sub hl [1, 2, 3, 4, 0] rfl) hQ
def f_X3_fallSick (sY : Nat → Nat → Int32) (sJ : Nat → Int64) (i1 : Int32) (i2 : Int32) : (Nat → Int64) :=
  (g_X3_fallSick_lp sY i1 i2 (if 363 < (((sY 0 0) + i2) - 1) then 363 else (((sY 0 0) + i2) - 1)) (((if 363 < (((sY 0 0) + i2) - 1) then 363 else (((sY 0 0) + i2) - 1)) + 1).toNatClampNeg - (sY 0 0).toNatClampNeg) ((sY 0 0).toNatClampNeg) sJ)
set_option maxHeartbeats 4000000 in
set_option maxRecDepth 100000 in
theorem c_X3_fallSick (l : Launch) (k : K_X) (ay : Nat → Nat) (f0 : Nat) (sY : Nat → Nat → Int32) (sJ : Nat → Int64) (i1 : Int32) (i2 : Int32) (h1 : vp_in i1 10) (hd0 : k_n (sY 0 0) 363) (hi : k_n i2 363) (hi1 : 1 ≤ i2.toNatClampNeg) : k_C l yX3_fallSick wsX3_fallSick (k_rm 1 21) k [.ref (ay 0), .int i1, .int i2] (w_Y k ay (f0) sY sJ) (k_qV k (w_Y k ay (f0) sY (f_X3_fallSick sY sJ i1 i2))) := by
  refine k_mk (cc := cX3_fallSick) (maxL := 5) (ret := none) (by decide) rfl (Nat.le_of_ble_eq_true rfl) ?_
  intro p e s m below meth c A ls C0 hP hD hS hl
  obtain ⟨hx, hb, hr, hts, hown, hlocks, hml, hA, hK⟩ := id C0
  have hown : s.vm.findClass RX3 = some m.cls := hown
  have hl : lv_has ls 5 [(0, .ref (ay 0)), (1, .int i1), (2, .int i2)] := hl
  refine lv_aload_n hx hb dX3_fallSick_0 rfl (lv_at hl 0 rfl) ?_
  refine va_get (D := k.1) (ci := 3) (v := .int (sY 0 0)) (C := RX3) (T := TX3) (N := 6) hx hb hts in_X3_fallSick_X3 hown hK hP 0 rfl rfl 1 (by decide) (k_w hts 1 rfl) (fun _ h9 => h9) rfl dX3_fallSick_1 ?_
  refine lv_iload_n hx hb dX3_fallSick_4 rfl (lv_at hl 2 rfl) ?_
  refine lv_iadd hx hb dX3_fallSick_5 ?_
  refine lv_iconst (v := 1) hx hb dX3_fallSick_6 (by decide) ?_
  refine lv_isub hx hb dX3_fallSick_7 ?_
  refine lv_sipush (v := 363) hx hb dX3_fallSick_8 (by decide) ?_
  refine va_mmin hx hb (hml.trans hl.1.symm) hown (k_w hts 2 rfl) (k_w hts 3 rfl) (k_w hts 4 rfl) (k_w hts 5 rfl) (Nat.le_of_ble_eq_true rfl) (Nat.le_of_ble_eq_true rfl) (Nat.zero_le _) (Nat.zero_le _) dX3_fallSick_11 ?_
  refine lv_istore_n (lv' := [(3, .int (if 363 < (((sY 0 0) + i2) - 1) then 363 else (((sY 0 0) + i2) - 1))), (0, .ref (ay 0)), (1, .int i1), (2, .int i2)]) hx hb dX3_fallSick_14 rfl hl (by decide) rfl (fun ls hl => ?_)
  refine lv_aload_n hx hb dX3_fallSick_15 rfl (lv_at hl 1 rfl) ?_
  refine va_get (D := k.1) (ci := 3) (v := .int (sY 0 0)) (C := RX3) (T := TX3) (N := 6) hx hb hts in_X3_fallSick_X3 hown hK hP 0 rfl rfl 1 (by decide) (k_w hts 1 rfl) (fun _ h9 => h9) rfl dX3_fallSick_16 ?_
  refine lv_istore (lv' := [(4, .int (sY 0 0)), (3, .int (if 363 < (((sY 0 0) + i2) - 1) then 363 else (((sY 0 0) + i2) - 1))), (0, .ref (ay 0)), (1, .int i1), (2, .int i2)]) hx hb dX3_fallSick_19 hl (by decide) rfl (fun ls hl => ?_)
  have hl : lv_has ls 5 [(0, .ref (ay 0)), (1, .int i1), (2, .int i2), (3, .int (if 363 < (((sY 0 0) + i2) - 1) then 363 else (((sY 0 0) + i2) - 1))), (4, .int (nI ((sY 0 0).toNatClampNeg)))] := by rw [← hd0.1]; exact lv_sub hl [2, 3, 4, 1, 0] rfl
  refine lp_X3_fallSick_lp k ay f0 sY i1 i2 (if 363 < (((sY 0 0) + i2) - 1) then 363 else (((sY 0 0) + i2) - 1)) C0 (h1) ((k_last hd0 hi hi1).1) (((if 363 < (((sY 0 0) + i2) - 1) then 363 else (((sY 0 0) + i2) - 1)) + 1).toNatClampNeg - (sY 0 0).toNatClampNeg) ((sY 0 0).toNatClampNeg) sJ _ _ _ (by have := (k_last hd0 hi hi1).2; omega) hP hD hS hl (fun H locs ls hP hD hS hl => ?_)
  obtain ⟨z_1, ez_1⟩ : ∃ z, z = g_X3_fallSick_lp sY i1 i2 (if 363 < (((sY 0 0) + i2) - 1) then 363 else (((sY 0 0) + i2) - 1)) (((if 363 < (((sY 0 0) + i2) - 1) then 363 else (((sY 0 0) + i2) - 1)) + 1).toNatClampNeg - (sY 0 0).toNatClampNeg) ((sY 0 0).toNatClampNeg) sJ := ⟨_, rfl⟩
  rw [← ez_1] at hP hD
  have ef : f_X3_fallSick sY sJ i1 i2 = z_1 := by
    rw [f_X3_fallSick, ← ez_1]
  exact k_retv hx hb hr hK (by rw [ef]; exact hP) (by rw [ef]; exact hD) hS hlocks dX3_fallSick_52
theorem in_X3_giveWarning_X3 : ∀ w ∈ wsX30, w ∈ wsX3_giveWarning := fun _ h => List.mem_cons_of_mem _ (List.mem_append_right _ h)
def f_X3_giveWarning (sY : Nat → Nat → Int32) (sJ : Nat → Int64) (i1 : Int32) : Int32 × (Nat → Nat → Int32) :=
  (((upd (sY 1) i1.toNatClampNeg (if 363 < ((sY 0 0) + 27) then 363 else ((sY 0 0) + 27))) i1.toNatClampNeg), k_st (k_st sY 2 (upd (sY 2) i1.toNatClampNeg (vp_nar .boolean 1))) 1 (upd (sY 1) i1.toNatClampNeg (if 363 < ((sY 0 0) + 27) then 363 else ((sY 0 0) + 27))))
set_option maxHeartbeats 4000000 in
set_option maxRecDepth 100000 in
theorem c_X3_giveWarning (l : Launch) (k : K_X) (ay : Nat → Nat) (f0 : Nat) (sY : Nat → Nat → Int32) (sJ : Nat → Int64) (i1 : Int32) (h1 : vp_in i1 10) : k_C l yX3_giveWarning wsX3_giveWarning (k_rm 1 21) k [.ref (ay 0), .int i1] (w_Y k ay (f0) sY sJ) (k_qI k ((f_X3_giveWarning sY sJ i1).1) (w_Y k ay (f0) ((f_X3_giveWarning sY sJ i1).2) sJ)) := by
  refine k_mk (cc := cX3_giveWarning) (maxL := 2) (ret := (some .int)) (by decide) rfl (Nat.le_of_ble_eq_true rfl) ?_
  intro p e s m below meth c A ls C0 hP hD hS hl
  obtain ⟨hx, hb, hr, hts, hown, hlocks, hml, hA, hK⟩ := id C0
  have hown : s.vm.findClass RX3 = some m.cls := hown
  have hl : lv_has ls 2 [(0, .ref (ay 0)), (1, .int i1)] := hl
  refine lv_aload_n hx hb dX3_giveWarning_0 rfl (lv_at hl 0 rfl) ?_
  refine va_get (D := k.1) (ci := 3) (v := .ref (ay 2)) (C := RX3) (T := TX3) (N := 6) hx hb hts in_X3_giveWarning_X3 hown hK hP 0 rfl rfl 3 (by decide) (k_w hts 1 rfl) (fun _ h9 => h9) rfl dX3_giveWarning_1 ?_
  refine lv_iload_n hx hb dX3_giveWarning_4 rfl (lv_at hl 1 rfl) ?_
  refine lv_iconst (v := 1) hx hb dX3_giveWarning_5 (by decide) ?_
  refine va_zast (f := sY 2) hx hb hK hP hD hS 2 1 rfl rfl (by assumption) dX3_giveWarning_6 (fun H locs hP hD hS => ?_)
  have hP := k_cP (w_Y_2 k ay (f0) sY sJ (upd (sY 2) i1.toNatClampNeg (vp_nar .boolean 1))) hP
  have hD := k_cD (w_Y_2 k ay (f0) sY sJ (upd (sY 2) i1.toNatClampNeg (vp_nar .boolean 1))) hD
  refine lv_aload_n hx hb dX3_giveWarning_7 rfl (lv_at hl 0 rfl) ?_
  refine va_get (D := k.1) (ci := 3) (v := .ref (ay 1)) (C := RX3) (T := TX3) (N := 6) hx hb hts in_X3_giveWarning_X3 hown hK hP 0 rfl rfl 2 (by decide) (k_w hts 2 rfl) (fun _ h9 => h9) rfl dX3_giveWarning_8 ?_
  refine lv_iload_n hx hb dX3_giveWarning_11 rfl (lv_at hl 1 rfl) ?_
  refine lv_aload_n hx hb dX3_giveWarning_12 rfl (lv_at hl 0 rfl) ?_
  refine va_get (D := k.1) (ci := 3) (v := .int (sY 0 0)) (C := RX3) (T := TX3) (N := 6) hx hb hts in_X3_giveWarning_X3 hown hK hP 0 rfl rfl 1 (by decide) (k_w hts 3 rfl) (fun _ h9 => h9) rfl dX3_giveWarning_13 ?_
  refine lv_bipush (v := 27) hx hb dX3_giveWarning_16 (by decide) ?_
  refine lv_iadd hx hb dX3_giveWarning_18 ?_
  refine lv_sipush (v := 363) hx hb dX3_giveWarning_19 (by decide) ?_
  refine va_mmin hx hb (hml.trans hl.1.symm) hown (k_w hts 4 rfl) (k_w hts 5 rfl) (k_w hts 6 rfl) (k_w hts 7 rfl) (Nat.le_of_ble_eq_true rfl) (Nat.le_of_ble_eq_true rfl) (Nat.zero_le _) (Nat.zero_le _) dX3_giveWarning_22 ?_
  refine va_iast (f := sY 1) hx hb hK hP hD hS 1 0 rfl rfl (by assumption) dX3_giveWarning_25 (fun H locs hP hD hS => ?_)
  have hP := k_cP (w_Y_1 k ay (f0) (k_st sY 2 (upd (sY 2) i1.toNatClampNeg (vp_nar .boolean 1))) sJ (upd (sY 1) i1.toNatClampNeg (if 363 < ((sY 0 0) + 27) then 363 else ((sY 0 0) + 27)))) hP
  have hD := k_cD (w_Y_1 k ay (f0) (k_st sY 2 (upd (sY 2) i1.toNatClampNeg (vp_nar .boolean 1))) sJ (upd (sY 1) i1.toNatClampNeg (if 363 < ((sY 0 0) + 27) then 363 else ((sY 0 0) + 27)))) hD
  refine lv_aload_n hx hb dX3_giveWarning_26 rfl (lv_at hl 0 rfl) ?_
  refine va_get (D := k.1) (ci := 3) (v := .ref (ay 1)) (C := RX3) (T := TX3) (N := 6) hx hb hts in_X3_giveWarning_X3 hown hK hP 0 rfl rfl 2 (by decide) (k_w hts 2 rfl) (fun _ h9 => h9) rfl dX3_giveWarning_27 ?_
  refine lv_iload_n hx hb dX3_giveWarning_30 rfl (lv_at hl 1 rfl) ?_
  refine va_iald (f := upd (sY 1) i1.toNatClampNeg (if 363 < ((sY 0 0) + 27) then 363 else ((sY 0 0) + 27))) hx hb hK hP 1 0 rfl rfl (by assumption) dX3_giveWarning_31 ?_
  have ef : f_X3_giveWarning sY sJ i1 = (((upd (sY 1) i1.toNatClampNeg (if 363 < ((sY 0 0) + 27) then 363 else ((sY 0 0) + 27))) i1.toNatClampNeg), k_st (k_st sY 2 (upd (sY 2) i1.toNatClampNeg (vp_nar .boolean 1))) 1 (upd (sY 1) i1.toNatClampNeg (if 363 < ((sY 0 0) + 27) then 363 else ((sY 0 0) + 27)))) := by
    rw [f_X3_giveWarning]
  exact k_reti hx hb hr hK (by rw [ef]; exact hP) (by rw [ef]; exact hD) hS hlocks dX3_giveWarning_32 (by rw [ef])
theorem in_X3_leave_X3 : ∀ w ∈ wsX30, w ∈ wsX3_leave := fun _ h => List.mem_cons_of_mem _ (List.mem_append_right _ h)
def f_X3_leave (sY : Nat → Nat → Int32) (sJ : Nat → Int64) (i1 : Int32) : Int32 × (Nat → Nat → Int32) :=
  (((upd (sY 1) i1.toNatClampNeg ((sY 0 0) - 1)) i1.toNatClampNeg), k_st sY 1 (upd (sY 1) i1.toNatClampNeg ((sY 0 0) - 1)))
set_option maxHeartbeats 4000000 in
set_option maxRecDepth 100000 in
theorem c_X3_leave (l : Launch) (k : K_X) (ay : Nat → Nat) (f0 : Nat) (sY : Nat → Nat → Int32) (sJ : Nat → Int64) (i1 : Int32) (h1 : vp_in i1 10) : k_C l yX3_leave wsX3_leave (k_rm 0 0) k [.ref (ay 0), .int i1] (w_Y k ay (f0) sY sJ) (k_qI k ((f_X3_leave sY sJ i1).1) (w_Y k ay (f0) ((f_X3_leave sY sJ i1).2) sJ)) := by
  refine k_mk (cc := cX3_leave) (maxL := 2) (ret := (some .int)) (by decide) rfl (Nat.le_of_ble_eq_true rfl) ?_
  intro p e s m below meth c A ls C0 hP hD hS hl
  obtain ⟨hx, hb, hr, hts, hown, hlocks, hml, hA, hK⟩ := id C0
  have hown : s.vm.findClass RX3 = some m.cls := hown
  have hl : lv_has ls 2 [(0, .ref (ay 0)), (1, .int i1)] := hl
  refine lv_aload_n hx hb dX3_leave_0 rfl (lv_at hl 0 rfl) ?_
  refine va_get (D := k.1) (ci := 3) (v := .ref (ay 1)) (C := RX3) (T := TX3) (N := 6) hx hb hts in_X3_leave_X3 hown hK hP 0 rfl rfl 2 (by decide) (k_w hts 1 rfl) (fun _ h9 => h9) rfl dX3_leave_1 ?_
  refine lv_iload_n hx hb dX3_leave_4 rfl (lv_at hl 1 rfl) ?_
  refine lv_aload_n hx hb dX3_leave_5 rfl (lv_at hl 0 rfl) ?_
  refine va_get (D := k.1) (ci := 3) (v := .int (sY 0 0)) (C := RX3) (T := TX3) (N := 6) hx hb hts in_X3_leave_X3 hown hK hP 0 rfl rfl 1 (by decide) (k_w hts 2 rfl) (fun _ h9 => h9) rfl dX3_leave_6 ?_
  refine lv_iconst (v := 1) hx hb dX3_leave_9 (by decide) ?_
  refine lv_isub hx hb dX3_leave_10 ?_
  refine va_iast (f := sY 1) hx hb hK hP hD hS 1 0 rfl rfl (by assumption) dX3_leave_11 (fun H locs hP hD hS => ?_)
  have hP := k_cP (w_Y_1 k ay (f0) sY sJ (upd (sY 1) i1.toNatClampNeg ((sY 0 0) - 1))) hP
  have hD := k_cD (w_Y_1 k ay (f0) sY sJ (upd (sY 1) i1.toNatClampNeg ((sY 0 0) - 1))) hD
  refine lv_aload_n hx hb dX3_leave_12 rfl (lv_at hl 0 rfl) ?_
  refine va_get (D := k.1) (ci := 3) (v := .ref (ay 1)) (C := RX3) (T := TX3) (N := 6) hx hb hts in_X3_leave_X3 hown hK hP 0 rfl rfl 2 (by decide) (k_w hts 1 rfl) (fun _ h9 => h9) rfl dX3_leave_13 ?_
  refine lv_iload_n hx hb dX3_leave_16 rfl (lv_at hl 1 rfl) ?_
  refine va_iald (f := upd (sY 1) i1.toNatClampNeg ((sY 0 0) - 1)) hx hb hK hP 1 0 rfl rfl (by assumption) dX3_leave_17 ?_
  have ef : f_X3_leave sY sJ i1 = (((upd (sY 1) i1.toNatClampNeg ((sY 0 0) - 1)) i1.toNatClampNeg), k_st sY 1 (upd (sY 1) i1.toNatClampNeg ((sY 0 0) - 1))) := by
    rw [f_X3_leave]
  exact k_reti hx hb hr hK (by rw [ef]; exact hP) (by rw [ef]; exact hD) hS hlocks dX3_leave_18 (by rw [ef])
theorem in_X3_wagesDue_X3 : ∀ w ∈ wsX30, w ∈ wsX3_wagesDue := fun _ h => List.mem_cons_of_mem _ (List.mem_append_left _ (List.mem_append_right _ h))
theorem in_X3_wagesDue_X0 : ∀ w ∈ wsX00, w ∈ wsX3_wagesDue := fun _ h => List.mem_cons_of_mem _ (List.mem_append_right _ h)
def f_X3_wagesDue (sF : Nat → Nat → Int32) (sY : Nat → Nat → Int32) (sJ : Nat → Int64) (i1 : Int32) (i2 : Int32) : Int32 :=
  if ((sY 3) i1.toNatClampNeg) = 0 then ((12 * ((sF 2) i1.toNatClampNeg)) * ((2 * ((if ((sY 1) i1.toNatClampNeg) < i2 then ((sY 1) i1.toNatClampNeg) else i2) + 1)) - (f_X3_countSick sY sJ i1 (if ((sY 1) i1.toNatClampNeg) < i2 then ((sY 1) i1.toNatClampNeg) else i2)))) / 728
  else 0
set_option maxHeartbeats 4000000 in
set_option maxRecDepth 100000 in
theorem c_X3_wagesDue (l : Launch) (k : K_X) (af : Nat → Nat) (ay : Nat → Nat) (p0 : Nat) (l0 : Nat) (sF : Nat → Nat → Int32) (sY : Nat → Nat → Int32) (sJ : Nat → Int64) (i1 : Int32) (i2 : Int32) (h1 : vp_in i1 10) (h2 : k_n (i2 + 1) 364) (he : k_n (sY 1 i1.toNatClampNeg + 1) 364) : k_C l yX3_wagesDue wsX3_wagesDue (k_rm 2 45) k [.ref (ay 0), .int i1, .int i2] ((w_F k af (p0) (l0) sF) ++ (w_Y k ay (af 0) sY sJ)) (k_qI k (f_X3_wagesDue sF sY sJ i1 i2) ((w_F k af (p0) (l0) sF) ++ (w_Y k ay (af 0) sY sJ))) := by
  refine k_mk (cc := cX3_wagesDue) (maxL := 5) (ret := (some .int)) (by decide) rfl (Nat.le_of_ble_eq_true rfl) ?_
  intro p e s m below meth c A ls C0 hP hD hS hl
  obtain ⟨hx, hb, hr, hts, hown, hlocks, hml, hA, hK⟩ := id C0
  have hown : s.vm.findClass RX3 = some m.cls := hown
  have hl : lv_has ls 5 [(0, .ref (ay 0)), (1, .int i1), (2, .int i2)] := hl
  refine lv_aload_n hx hb dX3_wagesDue_0 rfl (lv_at hl 0 rfl) ?_
  refine va_get (D := k.1) (ci := 3) (v := .ref (ay 3)) (C := RX3) (T := TX3) (N := 6) hx hb hts in_X3_wagesDue_X3 hown hK hP 6 rfl rfl 4 (by decide) (k_w hts 1 rfl) (fun _ h9 => h9) rfl dX3_wagesDue_1 ?_
  refine lv_iload_n hx hb dX3_wagesDue_4 rfl (lv_at hl 1 rfl) ?_
  refine va_zald (f := sY 3) hx hb hK hP 9 1 rfl rfl (by assumption) dX3_wagesDue_5 ?_
  refine lv_if_eq (tgt := 11) hx hb dX3_wagesDue_6 (by decide) (fun c_1 => ?_) (fun c_1 => ?_)
  ·
    refine lv_iload_n hx hb dX3_wagesDue_11 rfl (lv_at hl 2 rfl) ?_
    refine lv_aload_n hx hb dX3_wagesDue_12 rfl (lv_at hl 0 rfl) ?_
    refine va_get (D := k.1) (ci := 3) (v := .ref (ay 1)) (C := RX3) (T := TX3) (N := 6) hx hb hts in_X3_wagesDue_X3 hown hK hP 6 rfl rfl 2 (by decide) (k_w hts 2 rfl) (fun _ h9 => h9) rfl dX3_wagesDue_13 ?_
    refine lv_iload_n hx hb dX3_wagesDue_16 rfl (lv_at hl 1 rfl) ?_
    refine va_iald (f := sY 1) hx hb hK hP 7 0 rfl rfl (by assumption) dX3_wagesDue_17 ?_
    refine va_mmin hx hb (hml.trans hl.1.symm) hown (k_w hts 3 rfl) (k_w hts 4 rfl) (k_w hts 5 rfl) (k_w hts 6 rfl) (Nat.le_of_ble_eq_true rfl) (Nat.le_of_ble_eq_true rfl) (Nat.zero_le _) (Nat.zero_le _) dX3_wagesDue_18 ?_
    refine lv_istore_n (lv' := [(3, .int (if ((sY 1) i1.toNatClampNeg) < i2 then ((sY 1) i1.toNatClampNeg) else i2)), (0, .ref (ay 0)), (1, .int i1), (2, .int i2)]) hx hb dX3_wagesDue_21 rfl hl (by decide) rfl (fun ls hl => ?_)
    refine lv_iconst (v := 2) hx hb dX3_wagesDue_22 (by decide) ?_
    refine lv_iload_n hx hb dX3_wagesDue_23 rfl (lv_at hl 0 rfl) ?_
    refine lv_iconst (v := 1) hx hb dX3_wagesDue_24 (by decide) ?_
    refine lv_iadd hx hb dX3_wagesDue_25 ?_
    refine lv_imul hx hb dX3_wagesDue_26 ?_
    refine lv_aload_n hx hb dX3_wagesDue_27 rfl (lv_at hl 1 rfl) ?_
    refine lv_iload_n hx hb dX3_wagesDue_28 rfl (lv_at hl 2 rfl) ?_
    refine lv_iload_n hx hb dX3_wagesDue_29 rfl (lv_at hl 0 rfl) ?_
    refine k_Vi (wr := w_F k af (p0) (l0) sF) (ws' := (w_F k af (p0) (l0) sF) ++ (w_Y k ay (af 0) sY sJ)) (Rv := (f_X3_countSick sY sJ i1 (if ((sY 1) i1.toNatClampNeg) < i2 then ((sY 1) i1.toNatClampNeg) else i2))) (rest := [.int (2 * ((if ((sY 1) i1.toNatClampNeg) < i2 then ((sY 1) i1.toNatClampNeg) else i2) + 1))]) ⟨hx, hb, hml, hown, hts⟩ hK hA hP hD hS (c_X3_countSick l k ay (af 0) sY sJ i1 (if ((sY 1) i1.toNatClampNeg) < i2 then ((sY 1) i1.toNatClampNeg) else i2) (h1) (k_min1 h2 he)) (cwV 2 hts gX3_wagesDue_X3_countSick rfl rfl rfl (by decide +kernel) ⟨Nat.le_of_ble_eq_true rfl, Nat.le_of_ble_eq_true rfl⟩) (va_recv hK hP (ci := 3) (q0 := 6) rfl rfl) rfl hl.1 rfl (Nat.le_of_ble_eq_true rfl) dX3_wagesDue_30 (Nat.zero_le _) (Nat.zero_le _) [6, 7, 8, 9, 10] [0, 1, 2, 3, 4, 5] [0, 1, 2, 3, 4, 5, 6, 7, 8, 9, 10] rfl rfl rfl (by decide) rfl rfl rfl (fun H locs hP hD hS => ?_)
    refine lv_isub hx hb dX3_wagesDue_33 ?_
    refine lv_istore (lv' := [(4, .int ((2 * ((if ((sY 1) i1.toNatClampNeg) < i2 then ((sY 1) i1.toNatClampNeg) else i2) + 1)) - (f_X3_countSick sY sJ i1 (if ((sY 1) i1.toNatClampNeg) < i2 then ((sY 1) i1.toNatClampNeg) else i2)))), (3, .int (if ((sY 1) i1.toNatClampNeg) < i2 then ((sY 1) i1.toNatClampNeg) else i2)), (0, .ref (ay 0)), (1, .int i1), (2, .int i2)]) hx hb dX3_wagesDue_34 hl (by decide) rfl (fun ls hl => ?_)
    refine lv_bipush (v := 12) hx hb dX3_wagesDue_36 (by decide) ?_
    refine lv_aload_n hx hb dX3_wagesDue_38 rfl (lv_at hl 2 rfl) ?_
    refine va_get (D := k.1) (ci := 3) (v := .ref (af 0)) (C := RX3) (T := TX3) (N := 6) hx hb hts in_X3_wagesDue_X3 hown hK hP 6 rfl rfl 0 (by decide) (k_w hts 7 rfl) (fun _ h9 => h9) rfl dX3_wagesDue_39 ?_
    refine va_get (D := k.1) (ci := 0) (v := .ref (af 2)) (C := RX0) (T := TX0) (N := 8) hx hb hts in_X3_wagesDue_X0 hown hK hP 0 rfl rfl 4 (by decide) (k_w hts 8 rfl) (fun _ h9 => h9) rfl dX3_wagesDue_42 ?_
    refine lv_iload_n hx hb dX3_wagesDue_45 rfl (lv_at hl 3 rfl) ?_
    refine va_iald (f := sF 2) hx hb hK hP 2 0 rfl rfl (by assumption) dX3_wagesDue_46 ?_
    refine lv_imul hx hb dX3_wagesDue_47 ?_
    refine lv_iload hx hb dX3_wagesDue_48 (lv_at hl 0 rfl) ?_
    refine lv_imul hx hb dX3_wagesDue_50 ?_
    refine lv_sipush (v := 728) hx hb dX3_wagesDue_51 (by decide) ?_
    refine lv_idiv hx hb dX3_wagesDue_54 (by decide) ?_
    have ef : f_X3_wagesDue sF sY sJ i1 i2 = ((12 * ((sF 2) i1.toNatClampNeg)) * ((2 * ((if ((sY 1) i1.toNatClampNeg) < i2 then ((sY 1) i1.toNatClampNeg) else i2) + 1)) - (f_X3_countSick sY sJ i1 (if ((sY 1) i1.toNatClampNeg) < i2 then ((sY 1) i1.toNatClampNeg) else i2)))) / 728 := by
      rw [f_X3_wagesDue, if_pos c_1]
    exact k_reti hx hb hr hK hP hD hS hlocks dX3_wagesDue_55 (by rw [ef])
  ·
    refine lv_iconst (v := 0) hx hb dX3_wagesDue_9 (by decide) ?_
    have ef : f_X3_wagesDue sF sY sJ i1 i2 = 0 := by
      rw [f_X3_wagesDue, if_neg c_1]
    exact k_reti hx hb hr hK hP hD hS hlocks dX3_wagesDue_10 (by rw [ef])
