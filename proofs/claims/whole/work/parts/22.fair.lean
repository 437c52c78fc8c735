theorem in_X0_isBound_X0 : ∀ w ∈ wsX00, w ∈ wsX0_isBound := fun _ h => List.mem_cons_of_mem _ (List.mem_append_right _ h)
def f_X0_isBound (sF : Nat → Nat → Int32) (i1 : Int32) : Int32 :=
  if ((sF 1) i1.toNatClampNeg) = (-9) then 0
  else 1
set_option maxHeartbeats 4000000 in
set_option maxRecDepth 100000 in
theorem c_X0_isBound (l : Launch) (k : K_X) (af : Nat → Nat) (p0 : Nat) (l0 : Nat) (sF : Nat → Nat → Int32) (i1 : Int32) (h1 : vp_in i1 10) : k_C l yX0_isBound wsX0_isBound (k_rm 0 0) k [.ref (af 0), .int i1] (w_F k af (p0) (l0) sF) (k_qI k (f_X0_isBound sF i1) (w_F k af (p0) (l0) sF)) := by
  refine k_mk (cc := cX0_isBound) (maxL := 2) (ret := (some .boolean)) (by decide) rfl (Nat.le_of_ble_eq_true rfl) ?_
  intro p e s m below meth c A ls C0 hP hD hS hl
  obtain ⟨hx, hb, hr, hts, hown, hlocks, hml, hA, hK⟩ := id C0
  have hown : s.vm.findClass RX0 = some m.cls := hown
  have hl : lv_has ls 2 [(0, .ref (af 0)), (1, .int i1)] := hl
  refine lv_aload_n hx hb dX0_isBound_0 rfl (lv_at hl 0 rfl) ?_
  refine va_get (D := k.1) (ci := 0) (v := .ref (af 1)) (C := RX0) (T := TX0) (N := 8) hx hb hts in_X0_isBound_X0 hown hK hP 0 rfl rfl 3 (by decide) (k_w hts 1 rfl) (fun _ h9 => h9) rfl dX0_isBound_1 ?_
  refine lv_iload_n hx hb dX0_isBound_4 rfl (lv_at hl 1 rfl) ?_
  refine va_iald (f := sF 1) hx hb hK hP 1 0 rfl rfl (by assumption) dX0_isBound_5 ?_
  refine lv_bipush (v := (-9)) hx hb dX0_isBound_6 (by decide) ?_
  refine lv_icmp_eq (tgt := 15) hx hb dX0_isBound_8 (by decide) (fun c_1 => ?_) (fun c_1 => ?_)
  ·
    refine lv_iconst (v := 0) hx hb dX0_isBound_15 (by decide) ?_
    have ef : f_X0_isBound sF i1 = 0 := by
      rw [f_X0_isBound, if_pos c_1]
    exact k_retz hx hb hr (by decide) hK hP hD hS hlocks dX0_isBound_16 (by rw [ef])
  ·
    refine lv_iconst (v := 1) hx hb dX0_isBound_11 (by decide) ?_
    refine lv_goto (tgt := 16) hx hb dX0_isBound_12 (by decide) ?_
    have ef : f_X0_isBound sF i1 = 1 := by
      rw [f_X0_isBound, if_neg c_1]
    exact k_retz hx hb hr (by decide) hK hP hD hS hlocks dX0_isBound_16 (by rw [ef])
theorem in_X0_hasAsked_X0 : ∀ w ∈ wsX00, w ∈ wsX0_hasAsked := fun _ h => List.mem_cons_of_mem _ (List.mem_append_right _ h)
def f_X0_hasAsked (sF : Nat → Nat → Int32) (i1 : Int32) (i2 : Int32) : Int32 :=
  if (((sF 5) i1.toNatClampNeg) &&& ((1 : Int32) <<< (i2 &&& 31))) = 0 then 0
  else 1
set_option maxHeartbeats 4000000 in
set_option maxRecDepth 100000 in
theorem c_X0_hasAsked (l : Launch) (k : K_X) (af : Nat → Nat) (p0 : Nat) (l0 : Nat) (sF : Nat → Nat → Int32) (i1 : Int32) (i2 : Int32) (h1 : vp_in i1 10) : k_C l yX0_hasAsked wsX0_hasAsked (k_rm 0 0) k [.ref (af 0), .int i1, .int i2] (w_F k af (p0) (l0) sF) (k_qI k (f_X0_hasAsked sF i1 i2) (w_F k af (p0) (l0) sF)) := by
  refine k_mk (cc := cX0_hasAsked) (maxL := 3) (ret := (some .boolean)) (by decide) rfl (Nat.le_of_ble_eq_true rfl) ?_
  intro p e s m below meth c A ls C0 hP hD hS hl
  obtain ⟨hx, hb, hr, hts, hown, hlocks, hml, hA, hK⟩ := id C0
  have hown : s.vm.findClass RX0 = some m.cls := hown
  have hl : lv_has ls 3 [(0, .ref (af 0)), (1, .int i1), (2, .int i2)] := hl
  refine lv_aload_n hx hb dX0_hasAsked_0 rfl (lv_at hl 0 rfl) ?_
  refine va_get (D := k.1) (ci := 0) (v := .ref (af 5)) (C := RX0) (T := TX0) (N := 8) hx hb hts in_X0_hasAsked_X0 hown hK hP 0 rfl rfl 7 (by decide) (k_w hts 1 rfl) (fun _ h9 => h9) rfl dX0_hasAsked_1 ?_
  refine lv_iload_n hx hb dX0_hasAsked_4 rfl (lv_at hl 1 rfl) ?_
  refine va_iald (f := sF 5) hx hb hK hP 5 0 rfl rfl (by assumption) dX0_hasAsked_5 ?_
  refine lv_iconst (v := 1) hx hb dX0_hasAsked_6 (by decide) ?_
  refine lv_iload_n hx hb dX0_hasAsked_7 rfl (lv_at hl 2 rfl) ?_
  refine lv_ishl hx hb dX0_hasAsked_8 ?_
  refine lv_iand hx hb dX0_hasAsked_9 ?_
  refine lv_if_eq (tgt := 17) hx hb dX0_hasAsked_10 (by decide) (fun c_1 => ?_) (fun c_1 => ?_)
  ·
    refine lv_iconst (v := 0) hx hb dX0_hasAsked_17 (by decide) ?_
    have ef : f_X0_hasAsked sF i1 i2 = 0 := by
      rw [f_X0_hasAsked, if_pos c_1]
    exact k_retz hx hb hr (by decide) hK hP hD hS hlocks dX0_hasAsked_18 (by rw [ef])
  ·
    refine lv_iconst (v := 1) hx hb dX0_hasAsked_13 (by decide) ?_
    refine lv_goto (tgt := 18) hx hb dX0_hasAsked_14 (by decide) ?_
    have ef : f_X0_hasAsked sF i1 i2 = 1 := by
      rw [f_X0_hasAsked, if_neg c_1]
    exact k_retz hx hb hr (by decide) hK hP hD hS hlocks dX0_hasAsked_18 (by rw [ef])
theorem in_X0_countAsked_X0 : ∀ w ∈ wsX00, w ∈ wsX0_countAsked := fun _ h => List.mem_cons_of_mem _ (List.mem_append_right _ h)
def f_X0_countAsked (sF : Nat → Nat → Int32) (i1 : Int32) : Int32 :=
  f_J6_bitCount_0f7a4 ((sF 5) i1.toNatClampNeg)
set_option maxHeartbeats 4000000 in
set_option maxRecDepth 100000 in
theorem c_X0_countAsked (l : Launch) (k : K_X) (af : Nat → Nat) (p0 : Nat) (l0 : Nat) (sF : Nat → Nat → Int32) (i1 : Int32) (h1 : vp_in i1 10) : k_C l yX0_countAsked wsX0_countAsked (k_rm 1 20) k [.ref (af 0), .int i1] (w_F k af (p0) (l0) sF) (k_qI k (f_X0_countAsked sF i1) (w_F k af (p0) (l0) sF)) := by
  refine k_mk (cc := cX0_countAsked) (maxL := 2) (ret := (some .int)) (by decide) rfl (Nat.le_of_ble_eq_true rfl) ?_
  intro p e s m below meth c A ls C0 hP hD hS hl
  obtain ⟨hx, hb, hr, hts, hown, hlocks, hml, hA, hK⟩ := id C0
  have hown : s.vm.findClass RX0 = some m.cls := hown
  have hl : lv_has ls 2 [(0, .ref (af 0)), (1, .int i1)] := hl
  refine lv_aload_n hx hb dX0_countAsked_0 rfl (lv_at hl 0 rfl) ?_
  refine va_get (D := k.1) (ci := 0) (v := .ref (af 5)) (C := RX0) (T := TX0) (N := 8) hx hb hts in_X0_countAsked_X0 hown hK hP 0 rfl rfl 7 (by decide) (k_w hts 1 rfl) (fun _ h9 => h9) rfl dX0_countAsked_1 ?_
  refine lv_iload_n hx hb dX0_countAsked_4 rfl (lv_at hl 1 rfl) ?_
  refine va_iald (f := sF 5) hx hb hK hP 5 0 rfl rfl (by assumption) dX0_countAsked_5 ?_
  refine k_Si (wr := w_F k af (p0) (l0) sF) (ws' := w_F k af (p0) (l0) sF) (Rv := (f_J6_bitCount_0f7a4 ((sF 5) i1.toNatClampNeg))) (rest := []) ⟨hx, hb, hml, hown, hts⟩ hK hA hP hD hS (c_J6_bitCount_0f7a4 l k ((sF 5) i1.toNatClampNeg)) (va_cwS 1 hts gX0_countAsked_J6_bitCount_0f7a4 rfl rfl rfl (by decide +kernel) ⟨Nat.le_of_ble_eq_true rfl, Nat.le_of_ble_eq_true rfl⟩) rfl hl.1 rfl (Nat.le_of_ble_eq_true rfl) dX0_countAsked_6 (Nat.zero_le _) (Nat.zero_le _) [] [0, 1, 2, 3, 4, 5] [0, 1, 2, 3, 4, 5] rfl rfl rfl (by decide) rfl rfl rfl (fun H locs hP hD hS => ?_)
  have ef : f_X0_countAsked sF i1 = f_J6_bitCount_0f7a4 ((sF 5) i1.toNatClampNeg) := by
    rw [f_X0_countAsked]
  exact k_reti hx hb hr hK hP hD hS hlocks dX0_countAsked_9 (by rw [ef])
theorem in_X0_takes_X0 : ∀ w ∈ wsX00, w ∈ wsX0_takes := fun _ h => List.mem_cons_of_mem _ (List.mem_append_right _ h)
def f_X0_takes (sF : Nat → Nat → Int32) (i1 : Int32) (i2 : Int32) (i3 : Int32) : Int32 :=
  if (f_X0_isBound sF i2) = 0 then 1
  else if 120 ≤ i1 then 0
  else if i3 ≤ ((sF 2) i2.toNatClampNeg) then 0
  else 1
set_option maxHeartbeats 4000000 in
set_option maxRecDepth 100000 in
theorem c_X0_takes (l : Launch) (k : K_X) (af : Nat → Nat) (p0 : Nat) (l0 : Nat) (sF : Nat → Nat → Int32) (i1 : Int32) (i2 : Int32) (i3 : Int32) (h2 : vp_in i2 10) : k_C l yX0_takes wsX0_takes (k_rm 1 21) k [.ref (af 0), .int i1, .int i2, .int i3] (w_F k af (p0) (l0) sF) (k_qI k (f_X0_takes sF i1 i2 i3) (w_F k af (p0) (l0) sF)) := by
  refine k_mk (cc := cX0_takes) (maxL := 4) (ret := (some .boolean)) (by decide) rfl (Nat.le_of_ble_eq_true rfl) ?_
  intro p e s m below meth c A ls C0 hP hD hS hl
  obtain ⟨hx, hb, hr, hts, hown, hlocks, hml, hA, hK⟩ := id C0
  have hown : s.vm.findClass RX0 = some m.cls := hown
  have hl : lv_has ls 4 [(0, .ref (af 0)), (1, .int i1), (2, .int i2), (3, .int i3)] := hl
  refine lv_aload_n hx hb dX0_takes_0 rfl (lv_at hl 0 rfl) ?_
  refine lv_iload_n hx hb dX0_takes_1 rfl (lv_at hl 2 rfl) ?_
  refine k_Vi (wr := ([] : va_W)) (ws' := w_F k af (p0) (l0) sF) (Rv := (f_X0_isBound sF i2)) (rest := []) ⟨hx, hb, hml, hown, hts⟩ hK hA hP hD hS (c_X0_isBound l k af (p0) (l0) sF i2 (by assumption)) (cwV 1 hts gX0_takes_X0_isBound rfl rfl rfl (by decide +kernel) ⟨Nat.le_of_ble_eq_true rfl, Nat.le_of_ble_eq_true rfl⟩) (va_recv hK hP (ci := 0) (q0 := 0) rfl rfl) rfl hl.1 rfl (Nat.le_of_ble_eq_true rfl) dX0_takes_2 (Nat.zero_le _) (Nat.zero_le _) [0, 1, 2, 3, 4, 5] [] [0, 1, 2, 3, 4, 5] rfl rfl rfl (by decide) rfl rfl rfl (fun H locs hP hD hS => ?_)
  refine lv_if_eq (tgt := 24) hx hb dX0_takes_5 (by decide) (fun c_1 => ?_) (fun c_1 => ?_)
  ·
    refine lv_iconst (v := 1) hx hb dX0_takes_24 (by decide) ?_
    refine lv_goto (tgt := 29) hx hb dX0_takes_25 (by decide) ?_
    have ef : f_X0_takes sF i1 i2 i3 = 1 := by
      rw [f_X0_takes, if_pos c_1]
    exact k_retz hx hb hr (by decide) hK hP hD hS hlocks dX0_takes_29 (by rw [ef])
  ·
    refine lv_iload_n hx hb dX0_takes_8 rfl (lv_at hl 1 rfl) ?_
    refine lv_bipush (v := 120) hx hb dX0_takes_9 (by decide) ?_
    refine lv_icmp_ge (tgt := 28) hx hb dX0_takes_11 (by decide) (fun c_2 => ?_) (fun c_2 => ?_)
    ·
      refine lv_iconst (v := 0) hx hb dX0_takes_28 (by decide) ?_
      have ef : f_X0_takes sF i1 i2 i3 = 0 := by
        rw [f_X0_takes, if_neg c_1, if_pos c_2]
      exact k_retz hx hb hr (by decide) hK hP hD hS hlocks dX0_takes_29 (by rw [ef])
    ·
      refine lv_iload_n hx hb dX0_takes_14 rfl (lv_at hl 3 rfl) ?_
      refine lv_aload_n hx hb dX0_takes_15 rfl (lv_at hl 0 rfl) ?_
      refine va_get (D := k.1) (ci := 0) (v := .ref (af 2)) (C := RX0) (T := TX0) (N := 8) hx hb hts in_X0_takes_X0 hown hK hP 0 rfl rfl 4 (by decide) (k_w hts 1 rfl) (fun _ h9 => h9) rfl dX0_takes_16 ?_
      refine lv_iload_n hx hb dX0_takes_19 rfl (lv_at hl 2 rfl) ?_
      refine va_iald (f := sF 2) hx hb hK hP 2 0 rfl rfl (by assumption) dX0_takes_20 ?_
      refine lv_icmp_le (tgt := 28) hx hb dX0_takes_21 (by decide) (fun c_3 => ?_) (fun c_3 => ?_)
      ·
        refine lv_iconst (v := 0) hx hb dX0_takes_28 (by decide) ?_
        have ef : f_X0_takes sF i1 i2 i3 = 0 := by
          rw [f_X0_takes, if_neg c_1, if_neg c_2, if_pos c_3]
        exact k_retz hx hb hr (by decide) hK hP hD hS hlocks dX0_takes_29 (by rw [ef])
      ·
        refine lv_iconst (v := 1) hx hb dX0_takes_24 (by decide) ?_
        refine lv_goto (tgt := 29) hx hb dX0_takes_25 (by decide) ?_
        have ef : f_X0_takes sF i1 i2 i3 = 1 := by
          rw [f_X0_takes, if_neg c_1, if_neg c_2, if_neg c_3]
        exact k_retz hx hb hr (by decide) hK hP hD hS hlocks dX0_takes_29 (by rw [ef])
theorem in_X0_bind_X0 : ∀ w ∈ wsX00, w ∈ wsX0_bind := fun _ h => List.mem_cons_of_mem _ (List.mem_append_right _ h)
def f_X0_bind (sF : Nat → Nat → Int32) (i1 : Int32) (i2 : Int32) (i3 : Int32) (i4 : Int32) : (Nat → Nat → Int32) :=
  if ((sF 1) i3.toNatClampNeg) = (-9) then k_st (k_st (k_st (k_st sF 1 (upd (sF 1) i3.toNatClampNeg i2)) 4 (upd (sF 4) i2.toNatClampNeg i3)) 2 (upd (sF 2) i3.toNatClampNeg i4)) 3 (upd (sF 3) i3.toNatClampNeg i1)
  else k_st (k_st (k_st (k_st (k_st sF 4 (upd (sF 4) ((sF 1) i3.toNatClampNeg).toNatClampNeg (-9))) 1 (upd (sF 1) i3.toNatClampNeg i2)) 4 (upd (upd (sF 4) ((sF 1) i3.toNatClampNeg).toNatClampNeg (-9)) i2.toNatClampNeg i3)) 2 (upd (sF 2) i3.toNatClampNeg i4)) 3 (upd (sF 3) i3.toNatClampNeg i1)
set_option maxHeartbeats 4000000 in
set_option maxRecDepth 100000 in
theorem c_X0_bind (l : Launch) (k : K_X) (af : Nat → Nat) (p0 : Nat) (l0 : Nat) (sF : Nat → Nat → Int32) (i1 : Int32) (i2 : Int32) (i3 : Int32) (i4 : Int32) (h2 : vp_in i2 10) (h3 : vp_in i3 10) (ho : k_o (sF 1 i3.toNatClampNeg) 10) : k_C l yX0_bind wsX0_bind (k_rm 0 0) k [.ref (af 0), .int i1, .int i2, .int i3, .int i4] (w_F k af (p0) (l0) sF) (k_qV k (w_F k af (p0) (l0) (f_X0_bind sF i1 i2 i3 i4))) := by
  refine k_mk (cc := cX0_bind) (maxL := 6) (ret := none) (by decide) rfl (Nat.le_of_ble_eq_true rfl) ?_
  intro p e s m below meth c A ls C0 hP hD hS hl
  obtain ⟨hx, hb, hr, hts, hown, hlocks, hml, hA, hK⟩ := id C0
  have hown : s.vm.findClass RX0 = some m.cls := hown
  have hl : lv_has ls 6 [(0, .ref (af 0)), (1, .int i1), (2, .int i2), (3, .int i3), (4, .int i4)] := hl
  refine lv_aload_n hx hb dX0_bind_0 rfl (lv_at hl 0 rfl) ?_
  refine va_get (D := k.1) (ci := 0) (v := .ref (af 1)) (C := RX0) (T := TX0) (N := 8) hx hb hts in_X0_bind_X0 hown hK hP 0 rfl rfl 3 (by decide) (k_w hts 1 rfl) (fun _ h9 => h9) rfl dX0_bind_1 ?_
  refine lv_iload_n hx hb dX0_bind_4 rfl (lv_at hl 3 rfl) ?_
  refine va_iald (f := sF 1) hx hb hK hP 1 0 rfl rfl (by first | assumption | exact ho.in (by assumption)) dX0_bind_5 ?_
  refine lv_istore (lv' := [(5, .int ((sF 1) i3.toNatClampNeg)), (0, .ref (af 0)), (1, .int i1), (2, .int i2), (3, .int i3), (4, .int i4)]) hx hb dX0_bind_6 hl (by decide) rfl (fun ls hl => ?_)
  refine lv_iload hx hb dX0_bind_8 (lv_at hl 0 rfl) ?_
  refine lv_bipush (v := (-9)) hx hb dX0_bind_10 (by decide) ?_
  refine lv_icmp_eq (tgt := 24) hx hb dX0_bind_12 (by decide) (fun c_1 => ?_) (fun c_1 => ?_)
  ·
    refine lv_aload_n hx hb dX0_bind_24 rfl (lv_at hl 1 rfl) ?_
    refine va_get (D := k.1) (ci := 0) (v := .ref (af 1)) (C := RX0) (T := TX0) (N := 8) hx hb hts in_X0_bind_X0 hown hK hP 0 rfl rfl 3 (by decide) (k_w hts 1 rfl) (fun _ h9 => h9) rfl dX0_bind_25 ?_
    refine lv_iload_n hx hb dX0_bind_28 rfl (lv_at hl 4 rfl) ?_
    refine lv_iload_n hx hb dX0_bind_29 rfl (lv_at hl 3 rfl) ?_
    refine va_iast (f := sF 1) hx hb hK hP hD hS 1 0 rfl rfl (by first | assumption | exact ho.in (by assumption)) dX0_bind_30 (fun H locs hP hD hS => ?_)
    have hP := k_cP (w_F_1 k af (p0) (l0) sF (upd (sF 1) i3.toNatClampNeg i2)) hP
    have hD := k_cD (w_F_1 k af (p0) (l0) sF (upd (sF 1) i3.toNatClampNeg i2)) hD
    refine lv_aload_n hx hb dX0_bind_31 rfl (lv_at hl 1 rfl) ?_
    refine va_get (D := k.1) (ci := 0) (v := .ref (af 4)) (C := RX0) (T := TX0) (N := 8) hx hb hts in_X0_bind_X0 hown hK hP 0 rfl rfl 6 (by decide) (k_w hts 2 rfl) (fun _ h9 => h9) rfl dX0_bind_32 ?_
    refine lv_iload_n hx hb dX0_bind_35 rfl (lv_at hl 3 rfl) ?_
    refine lv_iload_n hx hb dX0_bind_36 rfl (lv_at hl 4 rfl) ?_
    refine va_iast (f := sF 4) hx hb hK hP hD hS 4 0 rfl rfl (by first | assumption | exact ho.in (by assumption)) dX0_bind_37 (fun H locs hP hD hS => ?_)
    have hP := k_cP (w_F_4 k af (p0) (l0) (k_st sF 1 (upd (sF 1) i3.toNatClampNeg i2)) (upd (sF 4) i2.toNatClampNeg i3)) hP
    have hD := k_cD (w_F_4 k af (p0) (l0) (k_st sF 1 (upd (sF 1) i3.toNatClampNeg i2)) (upd (sF 4) i2.toNatClampNeg i3)) hD
    refine lv_aload_n hx hb dX0_bind_38 rfl (lv_at hl 1 rfl) ?_
    refine va_get (D := k.1) (ci := 0) (v := .ref (af 2)) (C := RX0) (T := TX0) (N := 8) hx hb hts in_X0_bind_X0 hown hK hP 0 rfl rfl 4 (by decide) (k_w hts 3 rfl) (fun _ h9 => h9) rfl dX0_bind_39 ?_
    refine lv_iload_n hx hb dX0_bind_42 rfl (lv_at hl 4 rfl) ?_
    refine lv_iload hx hb dX0_bind_43 (lv_at hl 5 rfl) ?_
    refine va_iast (f := sF 2) hx hb hK hP hD hS 2 0 rfl rfl (by first | assumption | exact ho.in (by assumption)) dX0_bind_45 (fun H locs hP hD hS => ?_)
    have hP := k_cP (w_F_2 k af (p0) (l0) (k_st (k_st sF 1 (upd (sF 1) i3.toNatClampNeg i2)) 4 (upd (sF 4) i2.toNatClampNeg i3)) (upd (sF 2) i3.toNatClampNeg i4)) hP
    have hD := k_cD (w_F_2 k af (p0) (l0) (k_st (k_st sF 1 (upd (sF 1) i3.toNatClampNeg i2)) 4 (upd (sF 4) i2.toNatClampNeg i3)) (upd (sF 2) i3.toNatClampNeg i4)) hD
    refine lv_aload_n hx hb dX0_bind_46 rfl (lv_at hl 1 rfl) ?_
    refine va_get (D := k.1) (ci := 0) (v := .ref (af 3)) (C := RX0) (T := TX0) (N := 8) hx hb hts in_X0_bind_X0 hown hK hP 0 rfl rfl 5 (by decide) (k_w hts 4 rfl) (fun _ h9 => h9) rfl dX0_bind_47 ?_
    refine lv_iload_n hx hb dX0_bind_50 rfl (lv_at hl 4 rfl) ?_
    refine lv_iload_n hx hb dX0_bind_51 rfl (lv_at hl 2 rfl) ?_
    refine va_iast (f := sF 3) hx hb hK hP hD hS 3 0 rfl rfl (by first | assumption | exact ho.in (by assumption)) dX0_bind_52 (fun H locs hP hD hS => ?_)
    have hP := k_cP (w_F_3 k af (p0) (l0) (k_st (k_st (k_st sF 1 (upd (sF 1) i3.toNatClampNeg i2)) 4 (upd (sF 4) i2.toNatClampNeg i3)) 2 (upd (sF 2) i3.toNatClampNeg i4)) (upd (sF 3) i3.toNatClampNeg i1)) hP
    have hD := k_cD (w_F_3 k af (p0) (l0) (k_st (k_st (k_st sF 1 (upd (sF 1) i3.toNatClampNeg i2)) 4 (upd (sF 4) i2.toNatClampNeg i3)) 2 (upd (sF 2) i3.toNatClampNeg i4)) (upd (sF 3) i3.toNatClampNeg i1)) hD
    have ef : f_X0_bind sF i1 i2 i3 i4 = k_st (k_st (k_st (k_st sF 1 (upd (sF 1) i3.toNatClampNeg i2)) 4 (upd (sF 4) i2.toNatClampNeg i3)) 2 (upd (sF 2) i3.toNatClampNeg i4)) 3 (upd (sF 3) i3.toNatClampNeg i1) := by
      rw [f_X0_bind, if_pos c_1]
    exact k_retv hx hb hr hK (by rw [ef]; exact hP) (by rw [ef]; exact hD) hS hlocks dX0_bind_53
  ·
    refine lv_aload_n hx hb dX0_bind_15 rfl (lv_at hl 1 rfl) ?_
    refine va_get (D := k.1) (ci := 0) (v := .ref (af 4)) (C := RX0) (T := TX0) (N := 8) hx hb hts in_X0_bind_X0 hown hK hP 0 rfl rfl 6 (by decide) (k_w hts 2 rfl) (fun _ h9 => h9) rfl dX0_bind_16 ?_
    refine lv_iload hx hb dX0_bind_19 (lv_at hl 0 rfl) ?_
    refine lv_bipush (v := (-9)) hx hb dX0_bind_21 (by decide) ?_
    refine va_iast (f := sF 4) hx hb hK hP hD hS 4 0 rfl rfl (by first | assumption | exact ho.in (by assumption)) dX0_bind_23 (fun H locs hP hD hS => ?_)
    have hP := k_cP (w_F_4 k af (p0) (l0) sF (upd (sF 4) ((sF 1) i3.toNatClampNeg).toNatClampNeg (-9))) hP
    have hD := k_cD (w_F_4 k af (p0) (l0) sF (upd (sF 4) ((sF 1) i3.toNatClampNeg).toNatClampNeg (-9))) hD
    refine lv_aload_n hx hb dX0_bind_24 rfl (lv_at hl 1 rfl) ?_
    refine va_get (D := k.1) (ci := 0) (v := .ref (af 1)) (C := RX0) (T := TX0) (N := 8) hx hb hts in_X0_bind_X0 hown hK hP 0 rfl rfl 3 (by decide) (k_w hts 1 rfl) (fun _ h9 => h9) rfl dX0_bind_25 ?_
    refine lv_iload_n hx hb dX0_bind_28 rfl (lv_at hl 4 rfl) ?_
    refine lv_iload_n hx hb dX0_bind_29 rfl (lv_at hl 3 rfl) ?_
    refine va_iast (f := sF 1) hx hb hK hP hD hS 1 0 rfl rfl (by first | assumption | exact ho.in (by assumption)) dX0_bind_30 (fun H locs hP hD hS => ?_)
    have hP := k_cP (w_F_1 k af (p0) (l0) (k_st sF 4 (upd (sF 4) ((sF 1) i3.toNatClampNeg).toNatClampNeg (-9))) (upd (sF 1) i3.toNatClampNeg i2)) hP
    have hD := k_cD (w_F_1 k af (p0) (l0) (k_st sF 4 (upd (sF 4) ((sF 1) i3.toNatClampNeg).toNatClampNeg (-9))) (upd (sF 1) i3.toNatClampNeg i2)) hD
    refine lv_aload_n hx hb dX0_bind_31 rfl (lv_at hl 1 rfl) ?_
    refine va_get (D := k.1) (ci := 0) (v := .ref (af 4)) (C := RX0) (T := TX0) (N := 8) hx hb hts in_X0_bind_X0 hown hK hP 0 rfl rfl 6 (by decide) (k_w hts 2 rfl) (fun _ h9 => h9) rfl dX0_bind_32 ?_
    refine lv_iload_n hx hb dX0_bind_35 rfl (lv_at hl 3 rfl) ?_
    refine lv_iload_n hx hb dX0_bind_36 rfl (lv_at hl 4 rfl) ?_
    refine va_iast (f := upd (sF 4) ((sF 1) i3.toNatClampNeg).toNatClampNeg (-9)) hx hb hK hP hD hS 4 0 rfl rfl (by first | assumption | exact ho.in (by assumption)) dX0_bind_37 (fun H locs hP hD hS => ?_)
    have hP := k_cP (w_F_4 k af (p0) (l0) (k_st (k_st sF 4 (upd (sF 4) ((sF 1) i3.toNatClampNeg).toNatClampNeg (-9))) 1 (upd (sF 1) i3.toNatClampNeg i2)) (upd (upd (sF 4) ((sF 1) i3.toNatClampNeg).toNatClampNeg (-9)) i2.toNatClampNeg i3)) hP
    have hD := k_cD (w_F_4 k af (p0) (l0) (k_st (k_st sF 4 (upd (sF 4) ((sF 1) i3.toNatClampNeg).toNatClampNeg (-9))) 1 (upd (sF 1) i3.toNatClampNeg i2)) (upd (upd (sF 4) ((sF 1) i3.toNatClampNeg).toNatClampNeg (-9)) i2.toNatClampNeg i3)) hD
    refine lv_aload_n hx hb dX0_bind_38 rfl (lv_at hl 1 rfl) ?_
    refine va_get (D := k.1) (ci := 0) (v := .ref (af 2)) (C := RX0) (T := TX0) (N := 8) hx hb hts in_X0_bind_X0 hown hK hP 0 rfl rfl 4 (by decide) (k_w hts 3 rfl) (fun _ h9 => h9) rfl dX0_bind_39 ?_
    refine lv_iload_n hx hb dX0_bind_42 rfl (lv_at hl 4 rfl) ?_
    refine lv_iload hx hb dX0_bind_43 (lv_at hl 5 rfl) ?_
    refine va_iast (f := sF 2) hx hb hK hP hD hS 2 0 rfl rfl (by first | assumption | exact ho.in (by assumption)) dX0_bind_45 (fun H locs hP hD hS => ?_)
    have hP := k_cP (w_F_2 k af (p0) (l0) (k_st (k_st (k_st sF 4 (upd (sF 4) ((sF 1) i3.toNatClampNeg).toNatClampNeg (-9))) 1 (upd (sF 1) i3.toNatClampNeg i2)) 4 (upd (upd (sF 4) ((sF 1) i3.toNatClampNeg).toNatClampNeg (-9)) i2.toNatClampNeg i3)) (upd (sF 2) i3.toNatClampNeg i4)) hP
    have hD := k_cD (w_F_2 k af (p0) (l0) (k_st (k_st (k_st sF 4 (upd (sF 4) ((sF 1) i3.toNatClampNeg).toNatClampNeg (-9))) 1 (upd (sF 1) i3.toNatClampNeg i2)) 4 (upd (upd (sF 4) ((sF 1) i3.toNatClampNeg).toNatClampNeg (-9)) i2.toNatClampNeg i3)) (upd (sF 2) i3.toNatClampNeg i4)) hD
    refine lv_aload_n hx hb dX0_bind_46 rfl (lv_at hl 1 rfl) ?_
    refine va_get (D := k.1) (ci := 0) (v := .ref (af 3)) (C := RX0) (T := TX0) (N := 8) hx hb hts in_X0_bind_X0 hown hK hP 0 rfl rfl 5 (by decide) (k_w hts 4 rfl) (fun _ h9 => h9) rfl dX0_bind_47 ?_
    refine lv_iload_n hx hb dX0_bind_50 rfl (lv_at hl 4 rfl) ?_
    refine lv_iload_n hx hb dX0_bind_51 rfl (lv_at hl 2 rfl) ?_
    refine va_iast (f := sF 3) hx hb hK hP hD hS 3 0 rfl rfl (by first | assumption | exact ho.in (by assumption)) dX0_bind_52 (fun H locs hP hD hS => ?_)
    have hP := k_cP (w_F_3 k af (p0) (l0) (k_st (k_st (k_st (k_st sF 4 (upd (sF 4) ((sF 1) i3.toNatClampNeg).toNatClampNeg (-9))) 1 (upd (sF 1) i3.toNatClampNeg i2)) 4 (upd (upd (sF 4) ((sF 1) i3.toNatClampNeg).toNatClampNeg (-9)) i2.toNatClampNeg i3)) 2 (upd (sF 2) i3.toNatClampNeg i4)) (upd (sF 3) i3.toNatClampNeg i1)) hP
    have hD := k_cD (w_F_3 k af (p0) (l0) (k_st (k_st (k_st (k_st sF 4 (upd (sF 4) ((sF 1) i3.toNatClampNeg).toNatClampNeg (-9))) 1 (upd (sF 1) i3.toNatClampNeg i2)) 4 (upd (upd (sF 4) ((sF 1) i3.toNatClampNeg).toNatClampNeg (-9)) i2.toNatClampNeg i3)) 2 (upd (sF 2) i3.toNatClampNeg i4)) (upd (sF 3) i3.toNatClampNeg i1)) hD
    have ef : f_X0_bind sF i1 i2 i3 i4 = k_st (k_st (k_st (k_st (k_st sF 4 (upd (sF 4) ((sF 1) i3.toNatClampNeg).toNatClampNeg (-9))) 1 (upd (sF 1) i3.toNatClampNeg i2)) 4 (upd (upd (sF 4) ((sF 1) i3.toNatClampNeg).toNatClampNeg (-9)) i2.toNatClampNeg i3)) 2 (upd (sF 2) i3.toNatClampNeg i4)) 3 (upd (sF 3) i3.toNatClampNeg i1) := by
      rw [f_X0_bind, if_neg c_1]
    exact k_retv hx hb hr hK (by rw [ef]; exact hP) (by rw [ef]; exact hD) hS hlocks dX0_bind_53
theorem in_X0_wouldRather_X0 : ∀ w ∈ wsX00, w ∈ wsX0_wouldRather := fun _ h => List.mem_cons_of_mem _ (List.mem_append_left _ (List.mem_append_right _ h))
theorem in_X0_wouldRather_X2 : ∀ w ∈ wsX20, w ∈ wsX0_wouldRather := fun _ h => List.mem_cons_of_mem _ (List.mem_append_right _ h)
def f_X0_wouldRather (sP : Nat → Nat → Int32) (sF : Nat → Nat → Int32) (i1 : Int32) (i2 : Int32) (i3 : Int32) : Int32 :=
  if ((sF 4) i1.toNatClampNeg) = (-9) then 1
  else if (f_X2_likingAt sP i1 i2 i3) ≤ (f_X2_likingAt sP i1 ((sF 4) i1.toNatClampNeg) ((sF 2) ((sF 4) i1.toNatClampNeg).toNatClampNeg)) then 0
  else 1
set_option maxHeartbeats 4000000 in
set_option maxRecDepth 100000 in
theorem c_X0_wouldRather (l : Launch) (k : K_X) (ap : Nat → Nat) (af : Nat → Nat) (l0 : Nat) (sP : Nat → Nat → Int32) (sF : Nat → Nat → Int32) (i1 : Int32) (i2 : Int32) (i3 : Int32) (h1 : vp_in i1 10) (h2 : vp_in i2 10) (ho : k_o (sF 4 i1.toNatClampNeg) 10) : k_C l yX0_wouldRather wsX0_wouldRather (k_rm 2 46) k [.ref (af 0), .int i1, .int i2, .int i3] ((w_P k ap sP) ++ (w_F k af (ap 0) (l0) sF)) (k_qI k (f_X0_wouldRather sP sF i1 i2 i3) ((w_P k ap sP) ++ (w_F k af (ap 0) (l0) sF))) := by
  refine k_mk (cc := cX0_wouldRather) (maxL := 5) (ret := (some .boolean)) (by decide) rfl (Nat.le_of_ble_eq_true rfl) ?_
  intro p e s m below meth c A ls C0 hP hD hS hl
  obtain ⟨hx, hb, hr, hts, hown, hlocks, hml, hA, hK⟩ := id C0
  have hown : s.vm.findClass RX0 = some m.cls := hown
  have hl : lv_has ls 5 [(0, .ref (af 0)), (1, .int i1), (2, .int i2), (3, .int i3)] := hl
  refine lv_aload_n hx hb dX0_wouldRather_0 rfl (lv_at hl 0 rfl) ?_
  refine va_get (D := k.1) (ci := 0) (v := .ref (af 4)) (C := RX0) (T := TX0) (N := 8) hx hb hts in_X0_wouldRather_X0 hown hK hP 18 rfl rfl 6 (by decide) (k_w hts 1 rfl) (fun _ h9 => h9) rfl dX0_wouldRather_1 ?_
  refine lv_iload_n hx hb dX0_wouldRather_4 rfl (lv_at hl 1 rfl) ?_
  refine va_iald (f := sF 4) hx hb hK hP 22 0 rfl rfl (by first | assumption | exact ho.in (by assumption)) dX0_wouldRather_5 ?_
  refine lv_istore (lv' := [(4, .int ((sF 4) i1.toNatClampNeg)), (0, .ref (af 0)), (1, .int i1), (2, .int i2), (3, .int i3)]) hx hb dX0_wouldRather_6 hl (by decide) rfl (fun ls hl => ?_)
  refine lv_iload hx hb dX0_wouldRather_8 (lv_at hl 0 rfl) ?_
  refine lv_bipush (v := (-9)) hx hb dX0_wouldRather_10 (by decide) ?_
  refine lv_icmp_eq (tgt := 45) hx hb dX0_wouldRather_12 (by decide) (fun c_1 => ?_) (fun c_1 => ?_)
  ·
    refine lv_iconst (v := 1) hx hb dX0_wouldRather_45 (by decide) ?_
    refine lv_goto (tgt := 50) hx hb dX0_wouldRather_46 (by decide) ?_
    have ef : f_X0_wouldRather sP sF i1 i2 i3 = 1 := by
      rw [f_X0_wouldRather, if_pos c_1]
    exact k_retz hx hb hr (by decide) hK hP hD hS hlocks dX0_wouldRather_50 (by rw [ef])
  ·
    refine lv_aload_n hx hb dX0_wouldRather_15 rfl (lv_at hl 1 rfl) ?_
    refine va_get (D := k.1) (ci := 0) (v := .ref (ap 0)) (C := RX0) (T := TX0) (N := 8) hx hb hts in_X0_wouldRather_X0 hown hK hP 18 rfl rfl 0 (by decide) (k_w hts 2 rfl) (fun _ h9 => h9) rfl dX0_wouldRather_16 ?_
    refine lv_iload_n hx hb dX0_wouldRather_19 rfl (lv_at hl 2 rfl) ?_
    refine lv_iload hx hb dX0_wouldRather_20 (lv_at hl 0 rfl) ?_
    refine lv_aload_n hx hb dX0_wouldRather_22 rfl (lv_at hl 1 rfl) ?_
    refine va_get (D := k.1) (ci := 0) (v := .ref (af 2)) (C := RX0) (T := TX0) (N := 8) hx hb hts in_X0_wouldRather_X0 hown hK hP 18 rfl rfl 4 (by decide) (k_w hts 3 rfl) (fun _ h9 => h9) rfl dX0_wouldRather_23 ?_
    refine lv_iload hx hb dX0_wouldRather_26 (lv_at hl 0 rfl) ?_
    refine va_iald (f := sF 2) hx hb hK hP 20 0 rfl rfl (by first | assumption | exact ho.in (by assumption)) dX0_wouldRather_28 ?_
    refine k_Vi (wr := w_F k af (ap 0) (l0) sF) (ws' := (w_P k ap sP) ++ (w_F k af (ap 0) (l0) sF)) (Rv := (f_X2_likingAt sP i1 ((sF 4) i1.toNatClampNeg) ((sF 2) ((sF 4) i1.toNatClampNeg).toNatClampNeg))) (rest := []) ⟨hx, hb, hml, hown, hts⟩ hK hA hP hD hS (c_X2_likingAt l k ap sP i1 ((sF 4) i1.toNatClampNeg) ((sF 2) ((sF 4) i1.toNatClampNeg).toNatClampNeg) (by first | assumption | exact ho.in (by assumption)) (by first | assumption | exact ho.in (by assumption))) (cwV 3 hts gX0_wouldRather_X2_likingAt rfl rfl rfl (by decide +kernel) ⟨Nat.le_of_ble_eq_true rfl, Nat.le_of_ble_eq_true rfl⟩) (va_recv hK hP (ci := 2) (q0 := 0) rfl rfl) rfl hl.1 rfl (Nat.le_of_ble_eq_true rfl) dX0_wouldRather_29 (Nat.zero_le _) (Nat.zero_le _) [0, 1, 2, 3, 4, 5, 6, 7, 8, 9, 10, 11, 12, 13, 14, 15, 16, 17] [18, 19, 20, 21, 22, 23] [6, 7, 8, 9, 10, 11, 12, 13, 14, 15, 16, 17, 18, 19, 20, 21, 22, 23, 0, 1, 2, 3, 4, 5] rfl rfl rfl (by decide) rfl rfl rfl (fun H locs hP hD hS => ?_)
    refine lv_aload_n hx hb dX0_wouldRather_32 rfl (lv_at hl 1 rfl) ?_
    refine va_get (D := k.1) (ci := 0) (v := .ref (ap 0)) (C := RX0) (T := TX0) (N := 8) hx hb hts in_X0_wouldRather_X0 hown hK hP 18 rfl rfl 0 (by decide) (k_w hts 2 rfl) (fun _ h9 => h9) rfl dX0_wouldRather_33 ?_
    refine lv_iload_n hx hb dX0_wouldRather_36 rfl (lv_at hl 2 rfl) ?_
    refine lv_iload_n hx hb dX0_wouldRather_37 rfl (lv_at hl 3 rfl) ?_
    refine lv_iload_n hx hb dX0_wouldRather_38 rfl (lv_at hl 4 rfl) ?_
    refine k_Vi (wr := w_F k af (ap 0) (l0) sF) (ws' := (w_P k ap sP) ++ (w_F k af (ap 0) (l0) sF)) (Rv := (f_X2_likingAt sP i1 i2 i3)) (rest := [.int (f_X2_likingAt sP i1 ((sF 4) i1.toNatClampNeg) ((sF 2) ((sF 4) i1.toNatClampNeg).toNatClampNeg))]) ⟨hx, hb, hml, hown, hts⟩ hK hA hP hD hS (c_X2_likingAt l k ap sP i1 i2 i3 (by first | assumption | exact ho.in (by assumption)) (by first | assumption | exact ho.in (by assumption))) (cwV 3 hts gX0_wouldRather_X2_likingAt rfl rfl rfl (by decide +kernel) ⟨Nat.le_of_ble_eq_true rfl, Nat.le_of_ble_eq_true rfl⟩) (va_recv hK hP (ci := 2) (q0 := 0) rfl rfl) rfl hl.1 rfl (Nat.le_of_ble_eq_true rfl) dX0_wouldRather_39 (Nat.zero_le _) (Nat.zero_le _) [0, 1, 2, 3, 4, 5, 6, 7, 8, 9, 10, 11, 12, 13, 14, 15, 16, 17] [18, 19, 20, 21, 22, 23] [6, 7, 8, 9, 10, 11, 12, 13, 14, 15, 16, 17, 18, 19, 20, 21, 22, 23, 0, 1, 2, 3, 4, 5] rfl rfl rfl (by decide) rfl rfl rfl (fun H locs hP hD hS => ?_)
    refine lv_icmp_ge (tgt := 49) hx hb dX0_wouldRather_42 (by decide) (fun c_2 => ?_) (fun c_2 => ?_)
    ·
      refine lv_iconst (v := 0) hx hb dX0_wouldRather_49 (by decide) ?_
      have ef : f_X0_wouldRather sP sF i1 i2 i3 = 0 := by
        rw [f_X0_wouldRather, if_neg c_1, if_pos c_2]
      exact k_retz hx hb hr (by decide) hK hP hD hS hlocks dX0_wouldRather_50 (by rw [ef])
    ·
      refine lv_iconst (v := 1) hx hb dX0_wouldRather_45 (by decide) ?_
      refine lv_goto (tgt := 50) hx hb dX0_wouldRather_46 (by decide) ?_
      have ef : f_X0_wouldRather sP sF i1 i2 i3 = 1 := by
        rw [f_X0_wouldRather, if_neg c_1, if_neg c_2]
      exact k_retz hx hb hr (by decide) hK hP hD hS hlocks dX0_wouldRather_50 (by rw [ef])
theorem in_X0_isTorn_X0 : ∀ w ∈ wsX00, w ∈ wsX0_isTorn := fun _ h => List.mem_cons_of_mem _ (List.mem_append_left _ (List.mem_append_right _ h))
theorem in_X0_isTorn_X2 : ∀ w ∈ wsX20, w ∈ wsX0_isTorn := fun _ h => List.mem_cons_of_mem _ (List.mem_append_right _ h)
def f_X0_isTorn (sP : Nat → Nat → Int32) (sF : Nat → Nat → Int32) (i1 : Int32) (i2 : Int32) : Int32 :=
  if (f_X2_offerTo sP i2 i1) = (-9) then 0
  else if ((sF 1) i1.toNatClampNeg) = i2 then 0
  else if (f_X0_isBound sF i1) = 0 then (if (f_X0_wouldRather sP sF i2 i1 (f_X2_offerTo sP i2 i1)) = 0 then 0
    else 1)
  else if (f_X2_offerTo sP i2 i1) ≤ ((sF 2) i1.toNatClampNeg) then 0
  else if (f_X0_wouldRather sP sF i2 i1 (f_X2_offerTo sP i2 i1)) = 0 then 0
  else 1
set_option maxHeartbeats 4000000 in
set_option maxRecDepth 100000 in
theorem c_X0_isTorn (l : Launch) (k : K_X) (ap : Nat → Nat) (af : Nat → Nat) (l0 : Nat) (sP : Nat → Nat → Int32) (sF : Nat → Nat → Int32) (i1 : Int32) (i2 : Int32) (h1 : vp_in i1 10) (h2 : vp_in i2 10) (ho : k_o (sF 4 i2.toNatClampNeg) 10) : k_C l yX0_isTorn wsX0_isTorn (k_rm 3 70) k [.ref (af 0), .int i1, .int i2] ((w_P k ap sP) ++ (w_F k af (ap 0) (l0) sF)) (k_qI k (f_X0_isTorn sP sF i1 i2) ((w_P k ap sP) ++ (w_F k af (ap 0) (l0) sF))) := by
  refine k_mk (cc := cX0_isTorn) (maxL := 5) (ret := (some .boolean)) (by decide) rfl (Nat.le_of_ble_eq_true rfl) ?_
  intro p e s m below meth c A ls C0 hP hD hS hl
  obtain ⟨hx, hb, hr, hts, hown, hlocks, hml, hA, hK⟩ := id C0
  have hown : s.vm.findClass RX0 = some m.cls := hown
  have hl : lv_has ls 5 [(0, .ref (af 0)), (1, .int i1), (2, .int i2)] := hl
  refine lv_aload_n hx hb dX0_isTorn_0 rfl (lv_at hl 0 rfl) ?_
  refine va_get (D := k.1) (ci := 0) (v := .ref (ap 0)) (C := RX0) (T := TX0) (N := 8) hx hb hts in_X0_isTorn_X0 hown hK hP 18 rfl rfl 0 (by decide) (k_w hts 1 rfl) (fun _ h9 => h9) rfl dX0_isTorn_1 ?_
  refine lv_iload_n hx hb dX0_isTorn_4 rfl (lv_at hl 2 rfl) ?_
  refine lv_iload_n hx hb dX0_isTorn_5 rfl (lv_at hl 1 rfl) ?_
  refine k_Vi (wr := w_F k af (ap 0) (l0) sF) (ws' := (w_P k ap sP) ++ (w_F k af (ap 0) (l0) sF)) (Rv := (f_X2_offerTo sP i2 i1)) (rest := []) ⟨hx, hb, hml, hown, hts⟩ hK hA hP hD hS (c_X2_offerTo l k ap sP i2 i1 (by assumption) (by assumption)) (cwV 2 hts gX0_isTorn_X2_offerTo rfl rfl rfl (by decide +kernel) ⟨Nat.le_of_ble_eq_true rfl, Nat.le_of_ble_eq_true rfl⟩) (va_recv hK hP (ci := 2) (q0 := 0) rfl rfl) rfl hl.1 rfl (Nat.le_of_ble_eq_true rfl) dX0_isTorn_6 (Nat.zero_le _) (Nat.zero_le _) [0, 1, 2, 3, 4, 5, 6, 7, 8, 9, 10, 11, 12, 13, 14, 15, 16, 17] [18, 19, 20, 21, 22, 23] [6, 7, 8, 9, 10, 11, 12, 13, 14, 15, 16, 17, 18, 19, 20, 21, 22, 23, 0, 1, 2, 3, 4, 5] rfl rfl rfl (by decide) rfl rfl rfl (fun H locs hP hD hS => ?_)
  refine lv_istore_n (lv' := [(3, .int (f_X2_offerTo sP i2 i1)), (0, .ref (af 0)), (1, .int i1), (2, .int i2)]) hx hb dX0_isTorn_9 rfl hl (by decide) rfl (fun ls hl => ?_)
  refine lv_iload_n hx hb dX0_isTorn_10 rfl (lv_at hl 0 rfl) ?_
  refine lv_bipush (v := (-9)) hx hb dX0_isTorn_11 (by decide) ?_
  refine lv_icmp_eq (tgt := 26) hx hb dX0_isTorn_13 (by decide) (fun c_1 => ?_) (fun c_1 => ?_)
  ·
    refine lv_iconst (v := 0) hx hb dX0_isTorn_26 (by decide) ?_
    have ef : f_X0_isTorn sP sF i1 i2 = 0 := by
      rw [f_X0_isTorn, if_pos c_1]
    exact k_retz hx hb hr (by decide) hK hP hD hS hlocks dX0_isTorn_27 (by rw [ef])
  ·
    refine lv_aload_n hx hb dX0_isTorn_16 rfl (lv_at hl 1 rfl) ?_
    refine va_get (D := k.1) (ci := 0) (v := .ref (af 1)) (C := RX0) (T := TX0) (N := 8) hx hb hts in_X0_isTorn_X0 hown hK hP 18 rfl rfl 3 (by decide) (k_w hts 2 rfl) (fun _ h9 => h9) rfl dX0_isTorn_17 ?_
    refine lv_iload_n hx hb dX0_isTorn_20 rfl (lv_at hl 2 rfl) ?_
    refine va_iald (f := sF 1) hx hb hK hP 19 0 rfl rfl (by assumption) dX0_isTorn_21 ?_
    refine lv_iload_n hx hb dX0_isTorn_22 rfl (lv_at hl 3 rfl) ?_
    refine lv_icmp_ne (tgt := 28) hx hb dX0_isTorn_23 (by decide) (fun c_2 => ?_) (fun c_2 => ?_)
    ·
      refine lv_aload_n hx hb dX0_isTorn_28 rfl (lv_at hl 1 rfl) ?_
      refine lv_iload_n hx hb dX0_isTorn_29 rfl (lv_at hl 2 rfl) ?_
      refine k_Vi (wr := w_P k ap sP) (ws' := (w_P k ap sP) ++ (w_F k af (ap 0) (l0) sF)) (Rv := (f_X0_isBound sF i1)) (rest := []) ⟨hx, hb, hml, hown, hts⟩ hK hA hP hD hS (c_X0_isBound l k af (ap 0) (l0) sF i1 (by assumption)) (cwV 1 hts gX0_isTorn_X0_isBound rfl rfl rfl (by decide +kernel) ⟨Nat.le_of_ble_eq_true rfl, Nat.le_of_ble_eq_true rfl⟩) (va_recv hK hP (ci := 0) (q0 := 18) rfl rfl) rfl hl.1 rfl (Nat.le_of_ble_eq_true rfl) dX0_isTorn_30 (Nat.zero_le _) (Nat.zero_le _) [18, 19, 20, 21, 22, 23] [0, 1, 2, 3, 4, 5, 6, 7, 8, 9, 10, 11, 12, 13, 14, 15, 16, 17] [0, 1, 2, 3, 4, 5, 6, 7, 8, 9, 10, 11, 12, 13, 14, 15, 16, 17, 18, 19, 20, 21, 22, 23] rfl rfl rfl (by decide) rfl rfl rfl (fun H locs hP hD hS => ?_)
      refine lv_if_eq (tgt := 46) hx hb dX0_isTorn_33 (by decide) (fun c_3 => ?_) (fun c_3 => ?_)
      ·
        refine lv_iconst (v := 1) hx hb dX0_isTorn_46 (by decide) ?_
        refine lv_goto (tgt := 51) hx hb dX0_isTorn_47 (by decide) ?_
        refine lv_istore (lv' := [(4, .int 1), (3, .int (f_X2_offerTo sP i2 i1)), (0, .ref (af 0)), (1, .int i1), (2, .int i2)]) hx hb dX0_isTorn_51 hl (by decide) rfl (fun ls hl => ?_)
        refine lv_iload hx hb dX0_isTorn_53 (lv_at hl 0 rfl) ?_
        refine lv_if_eq (tgt := 72) hx hb dX0_isTorn_55 (by decide) (fun c_4 => ?_) (fun c_4 => ?_)
        · exact absurd c_4 (by decide)
        refine lv_aload_n hx hb dX0_isTorn_58 rfl (lv_at hl 2 rfl) ?_
        refine lv_iload_n hx hb dX0_isTorn_59 rfl (lv_at hl 4 rfl) ?_
        refine lv_iload_n hx hb dX0_isTorn_60 rfl (lv_at hl 3 rfl) ?_
        refine lv_iload_n hx hb dX0_isTorn_61 rfl (lv_at hl 1 rfl) ?_
        refine k_Vi (wr := ([] : va_W)) (ws' := (w_P k ap sP) ++ (w_F k af (ap 0) (l0) sF)) (Rv := (f_X0_wouldRather sP sF i2 i1 (f_X2_offerTo sP i2 i1))) (rest := []) ⟨hx, hb, hml, hown, hts⟩ hK hA hP hD hS (c_X0_wouldRather l k ap af (l0) sP sF i2 i1 (f_X2_offerTo sP i2 i1) (by assumption) (by assumption) (by assumption)) (cwV 3 hts gX0_isTorn_X0_wouldRather rfl rfl rfl (by decide +kernel) ⟨Nat.le_of_ble_eq_true rfl, Nat.le_of_ble_eq_true rfl⟩) (va_recv hK hP (ci := 0) (q0 := 18) rfl rfl) rfl hl.1 rfl (Nat.le_of_ble_eq_true rfl) dX0_isTorn_62 (Nat.zero_le _) (Nat.zero_le _) [0, 1, 2, 3, 4, 5, 6, 7, 8, 9, 10, 11, 12, 13, 14, 15, 16, 17, 18, 19, 20, 21, 22, 23] [] [0, 1, 2, 3, 4, 5, 6, 7, 8, 9, 10, 11, 12, 13, 14, 15, 16, 17, 18, 19, 20, 21, 22, 23] rfl rfl rfl (by decide) rfl rfl rfl (fun H locs hP hD hS => ?_)
        refine lv_if_eq (tgt := 72) hx hb dX0_isTorn_65 (by decide) (fun c_5 => ?_) (fun c_5 => ?_)
        ·
          refine lv_iconst (v := 0) hx hb dX0_isTorn_72 (by decide) ?_
          have ef : f_X0_isTorn sP sF i1 i2 = 0 := by
            rw [f_X0_isTorn, if_neg c_1, if_neg c_2, if_pos c_3, if_pos c_5]
          exact k_retz hx hb hr (by decide) hK hP hD hS hlocks dX0_isTorn_73 (by rw [ef])
        ·
          refine lv_iconst (v := 1) hx hb dX0_isTorn_68 (by decide) ?_
          refine lv_goto (tgt := 73) hx hb dX0_isTorn_69 (by decide) ?_
          have ef : f_X0_isTorn sP sF i1 i2 = 1 := by
            rw [f_X0_isTorn, if_neg c_1, if_neg c_2, if_pos c_3, if_neg c_5]
          exact k_retz hx hb hr (by decide) hK hP hD hS hlocks dX0_isTorn_73 (by rw [ef])
      ·
        refine lv_aload_n hx hb dX0_isTorn_36 rfl (lv_at hl 1 rfl) ?_
        refine va_get (D := k.1) (ci := 0) (v := .ref (af 2)) (C := RX0) (T := TX0) (N := 8) hx hb hts in_X0_isTorn_X0 hown hK hP 18 rfl rfl 4 (by decide) (k_w hts 3 rfl) (fun _ h9 => h9) rfl dX0_isTorn_37 ?_
        refine lv_iload_n hx hb dX0_isTorn_40 rfl (lv_at hl 2 rfl) ?_
        refine va_iald (f := sF 2) hx hb hK hP 20 0 rfl rfl (by assumption) dX0_isTorn_41 ?_
        refine lv_iload_n hx hb dX0_isTorn_42 rfl (lv_at hl 0 rfl) ?_
        refine lv_icmp_ge (tgt := 50) hx hb dX0_isTorn_43 (by decide) (fun c_6 => ?_) (fun c_6 => ?_)
        ·
          refine lv_iconst (v := 0) hx hb dX0_isTorn_50 (by decide) ?_
          refine lv_istore (lv' := [(4, .int 0), (3, .int (f_X2_offerTo sP i2 i1)), (0, .ref (af 0)), (1, .int i1), (2, .int i2)]) hx hb dX0_isTorn_51 hl (by decide) rfl (fun ls hl => ?_)
          refine lv_iload hx hb dX0_isTorn_53 (lv_at hl 0 rfl) ?_
          refine lv_if_eq (tgt := 72) hx hb dX0_isTorn_55 (by decide) (fun c_7 => ?_) (fun c_7 => ?_)
          rotate_left
          · exact absurd (by decide) c_7
          refine lv_iconst (v := 0) hx hb dX0_isTorn_72 (by decide) ?_
          have ef : f_X0_isTorn sP sF i1 i2 = 0 := by
            rw [f_X0_isTorn, if_neg c_1, if_neg c_2, if_neg c_3, if_pos c_6]
          exact k_retz hx hb hr (by decide) hK hP hD hS hlocks dX0_isTorn_73 (by rw [ef])
        ·
          refine lv_iconst (v := 1) hx hb dX0_isTorn_46 (by decide) ?_
          refine lv_goto (tgt := 51) hx hb dX0_isTorn_47 (by decide) ?_
          refine lv_istore (lv' := [(4, .int 1), (3, .int (f_X2_offerTo sP i2 i1)), (0, .ref (af 0)), (1, .int i1), (2, .int i2)]) hx hb dX0_isTorn_51 hl (by decide) rfl (fun ls hl => ?_)
          refine lv_iload hx hb dX0_isTorn_53 (lv_at hl 0 rfl) ?_
          refine lv_if_eq (tgt := 72) hx hb dX0_isTorn_55 (by decide) (fun c_8 => ?_) (fun c_8 => ?_)
          · exact absurd c_8 (by decide)
          refine lv_aload_n hx hb dX0_isTorn_58 rfl (lv_at hl 2 rfl) ?_
          refine lv_iload_n hx hb dX0_isTorn_59 rfl (lv_at hl 4 rfl) ?_
          refine lv_iload_n hx hb dX0_isTorn_60 rfl (lv_at hl 3 rfl) ?_
          refine lv_iload_n hx hb dX0_isTorn_61 rfl (lv_at hl 1 rfl) ?_
          refine k_Vi (wr := ([] : va_W)) (ws' := (w_P k ap sP) ++ (w_F k af (ap 0) (l0) sF)) (Rv := (f_X0_wouldRather sP sF i2 i1 (f_X2_offerTo sP i2 i1))) (rest := []) ⟨hx, hb, hml, hown, hts⟩ hK hA hP hD hS (c_X0_wouldRather l k ap af (l0) sP sF i2 i1 (f_X2_offerTo sP i2 i1) (by assumption) (by assumption) (by assumption)) (cwV 3 hts gX0_isTorn_X0_wouldRather rfl rfl rfl (by decide +kernel) ⟨Nat.le_of_ble_eq_true rfl, Nat.le_of_ble_eq_true rfl⟩) (va_recv hK hP (ci := 0) (q0 := 18) rfl rfl) rfl hl.1 rfl (Nat.le_of_ble_eq_true rfl) dX0_isTorn_62 (Nat.zero_le _) (Nat.zero_le _) [0, 1, 2, 3, 4, 5, 6, 7, 8, 9, 10, 11, 12, 13, 14, 15, 16, 17, 18, 19, 20, 21, 22, 23] [] [0, 1, 2, 3, 4, 5, 6, 7, 8, 9, 10, 11, 12, 13, 14, 15, 16, 17, 18, 19, 20, 21, 22, 23] rfl rfl rfl (by decide) rfl rfl rfl (fun H locs hP hD hS => ?_)
          refine lv_if_eq (tgt := 72) hx hb dX0_isTorn_65 (by decide) (fun c_9 => ?_) (fun c_9 => ?_)
          ·
            refine lv_iconst (v := 0) hx hb dX0_isTorn_72 (by decide) ?_
            have ef : f_X0_isTorn sP sF i1 i2 = 0 := by
              rw [f_X0_isTorn, if_neg c_1, if_neg c_2, if_neg c_3, if_neg c_6, if_pos c_9]
            exact k_retz hx hb hr (by decide) hK hP hD hS hlocks dX0_isTorn_73 (by rw [ef])
          ·
            refine lv_iconst (v := 1) hx hb dX0_isTorn_68 (by decide) ?_
            refine lv_goto (tgt := 73) hx hb dX0_isTorn_69 (by decide) ?_
            have ef : f_X0_isTorn sP sF i1 i2 = 1 := by
              rw [f_X0_isTorn, if_neg c_1, if_neg c_2, if_neg c_3, if_neg c_6, if_neg c_9]
            exact k_retz hx hb hr (by decide) hK hP hD hS hlocks dX0_isTorn_73 (by rw [ef])
    ·
      refine lv_iconst (v := 0) hx hb dX0_isTorn_26 (by decide) ?_
      have ef : f_X0_isTorn sP sF i1 i2 = 0 := by
        rw [f_X0_isTorn, if_neg c_1, if_pos c_2]
      exact k_retz hx hb hr (by decide) hK hP hD hS hlocks dX0_isTorn_27 (by rw [ef])
theorem in_X0_choiceOf_X0 : ∀ w ∈ wsX00, w ∈ wsX0_choiceOf := fun _ h => List.mem_cons_of_mem _ (List.mem_append_left _ (List.mem_append_right _ h))
theorem in_X0_choiceOf_X2 : ∀ w ∈ wsX20, w ∈ wsX0_choiceOf := fun _ h => List.mem_cons_of_mem _ (List.mem_append_right _ h)
def g_X0_choiceOf_lp (sP : Nat → Nat → Int32) (sF : Nat → Nat → Int32) (i1 : Int32) : Nat → Nat → Int32 → Int32 → Int32 × Int32
  | 0, j, a1, a2 => (a1, a2)
  | r + 1, j, a1, a2 => if (f_X2_offerTo sP i1 (nI j)) = (-9) then g_X0_choiceOf_lp sP sF i1 r (j + 1) a1 a2
    else if (f_X0_hasAsked sF i1 (nI j)) = 0 then (if a1 = (-9) then g_X0_choiceOf_lp sP sF i1 r (j + 1) (nI j) (f_X2_likingAt sP i1 (nI j) (f_X2_offerTo sP i1 (nI j)))
      else if (f_X2_likingAt sP i1 (nI j) (f_X2_offerTo sP i1 (nI j))) ≤ a2 then g_X0_choiceOf_lp sP sF i1 r (j + 1) a1 a2
      else g_X0_choiceOf_lp sP sF i1 r (j + 1) (nI j) (f_X2_likingAt sP i1 (nI j) (f_X2_offerTo sP i1 (nI j))))
    else g_X0_choiceOf_lp sP sF i1 r (j + 1) a1 a2
set_option maxHeartbeats 4000000 in
set_option maxRecDepth 100000 in
theorem lp_X0_choiceOf_lp {p : Program} {l : Launch} {e : Env} {s : State} {m : MethodId} {below : List Frame} {meth : Method} {c : Code} {A : Nat → Prop} {Q : State → Prop} {av : Array Value} (k : K_X) (ap : Nat → Nat) (af : Nat → Nat) (l0 : Nat) (sP : Nat → Nat → Int32) (sF : Nat → Nat → Int32) (i1 : Int32) (C0 : k_Cx p s m meth c k cX0_choiceOf (some .int) wsX0_choiceOf RX0 7 av A) (h1 : vp_in i1 10) (hNs : k_n (sP 0 0) 10) : ∀ (r j : Nat) (a1 : Int32) (a2 : Int32) (H : Heap) (locs : List Loc) (ls : Array Slot), j + r = (sP 0 0).toNatClampNeg → va_P k.1 vwCl ((w_P k ap sP) ++ (w_F k af (ap 0) (l0) sF)) H → va_D A ((w_P k ap sP) ++ (w_F k af (ap 0) (l0) sF)) → va_S A s.heap H locs → lv_has ls 7 [(0, .ref (af 0)), (1, .int i1), (2, .int a1), (3, .int a2), (4, .int (nI j))] → (∀ (H : Heap) (locs : List Loc) (ls : Array Slot), va_P k.1 vwCl ((w_P k ap sP) ++ (w_F k af (ap 0) (l0) sF)) H → va_D A ((w_P k ap sP) ++ (w_F k af (ap 0) (l0) sF)) → va_S A s.heap H locs → lv_has ls 7 [(0, .ref (af 0)), (1, .int i1), (2, .int ((g_X0_choiceOf_lp sP sF i1 r j a1 a2).1)), (3, .int ((g_X0_choiceOf_lp sP sF i1 r j a1 a2).2))] → W p l e (k_rm 2 46) s m av below meth c H locs 0 0 Q (F0 m 90 ls [])) → W p l e (k_rm 2 46) s m av below meth c H locs 0 0 Q (F0 m 8 ls []) := by
  obtain ⟨hx, hb, hr, hts, hown, hlocks, hml, hA, hK⟩ := id C0
  have hq := hNs.2
  intro r
  induction r with
  | zero =>
    intro j a1 a2 H locs ls hj hP hD hS hl hQ
    refine lv_iload hx hb dX0_choiceOf_8 (lv_at hl 4 rfl) ?_
    refine lv_aload_n hx hb dX0_choiceOf_10 rfl (lv_at hl 0 rfl) ?_
    refine va_get (D := k.1) (ci := 0) (v := .ref (ap 0)) (C := RX0) (T := TX0) (N := 8) hx hb hts in_X0_choiceOf_X0 hown hK hP 18 rfl rfl 0 (by decide) (k_w hts 1 rfl) (fun _ h9 => h9) rfl dX0_choiceOf_11 ?_
    refine va_get (D := k.1) (ci := 2) (v := .int (sP 0 0)) (C := RX2) (T := TX2) (N := 9) hx hb hts in_X0_choiceOf_X2 hown hK hP 0 rfl rfl 0 (by decide) (k_w hts 2 rfl) (fun _ h9 => h9) rfl dX0_choiceOf_14 ?_
    refine lv_icmp_ge (tgt := 90) hx hb dX0_choiceOf_17 (by decide) (fun c_1 => ?_) (fun c_1 => ?_)
    rotate_left
    · exact absurd (hNs.ge (by omega)) c_1
    have eg : g_X0_choiceOf_lp sP sF i1 0 j a1 a2 = (a1, a2) := by
      rw [g_X0_choiceOf_lp]
    rw [eg] at hQ
    exact hQ _ _ _ hP hD hS (lv_sub hl [0, 1, 2, 3] rfl)
  | succ r ih =>
    intro j a1 a2 H locs ls hj hP hD hS hl hQ
    refine lv_iload hx hb dX0_choiceOf_8 (lv_at hl 4 rfl) ?_
    refine lv_aload_n hx hb dX0_choiceOf_10 rfl (lv_at hl 0 rfl) ?_
    refine va_get (D := k.1) (ci := 0) (v := .ref (ap 0)) (C := RX0) (T := TX0) (N := 8) hx hb hts in_X0_choiceOf_X0 hown hK hP 18 rfl rfl 0 (by decide) (k_w hts 1 rfl) (fun _ h9 => h9) rfl dX0_choiceOf_11 ?_
    refine va_get (D := k.1) (ci := 2) (v := .int (sP 0 0)) (C := RX2) (T := TX2) (N := 9) hx hb hts in_X0_choiceOf_X2 hown hK hP 0 rfl rfl 0 (by decide) (k_w hts 2 rfl) (fun _ h9 => h9) rfl dX0_choiceOf_14 ?_
    refine lv_icmp_ge (tgt := 90) hx hb dX0_choiceOf_17 (by decide) (fun c_1 => ?_) (fun c_1 => ?_)
    · exact absurd c_1 (hNs.nge (by omega))
    refine lv_aload_n hx hb dX0_choiceOf_20 rfl (lv_at hl 0 rfl) ?_
    refine va_get (D := k.1) (ci := 0) (v := .ref (ap 0)) (C := RX0) (T := TX0) (N := 8) hx hb hts in_X0_choiceOf_X0 hown hK hP 18 rfl rfl 0 (by decide) (k_w hts 1 rfl) (fun _ h9 => h9) rfl dX0_choiceOf_21 ?_
    refine lv_iload_n hx hb dX0_choiceOf_24 rfl (lv_at hl 1 rfl) ?_
    refine lv_iload hx hb dX0_choiceOf_25 (lv_at hl 4 rfl) ?_
    refine k_Vi (wr := w_F k af (ap 0) (l0) sF) (ws' := (w_P k ap sP) ++ (w_F k af (ap 0) (l0) sF)) (Rv := (f_X2_offerTo sP i1 (nI j))) (rest := []) ⟨hx, hb, hml, hown, hts⟩ hK hA hP hD hS (c_X2_offerTo l k ap sP i1 (nI j) (by first | assumption | exact vp_in_nI (by omega) (by omega)) (by first | assumption | exact vp_in_nI (by omega) (by omega))) (cwV 2 hts gX0_choiceOf_X2_offerTo rfl rfl rfl (by decide +kernel) ⟨Nat.le_of_ble_eq_true rfl, Nat.le_of_ble_eq_true rfl⟩) (va_recv hK hP (ci := 2) (q0 := 0) rfl rfl) rfl hl.1 rfl (Nat.le_of_ble_eq_true rfl) dX0_choiceOf_27 (Nat.zero_le _) (Nat.zero_le _) [0, 1, 2, 3, 4, 5, 6, 7, 8, 9, 10, 11, 12, 13, 14, 15, 16, 17] [18, 19, 20, 21, 22, 23] [6, 7, 8, 9, 10, 11, 12, 13, 14, 15, 16, 17, 18, 19, 20, 21, 22, 23, 0, 1, 2, 3, 4, 5] rfl rfl rfl (by decide) rfl rfl rfl (fun H locs hP hD hS => ?_)
    refine lv_istore (lv' := [(5, .int (f_X2_offerTo sP i1 (nI j))), (0, .ref (af 0)), (1, .int i1), (2, .int a1), (3, .int a2), (4, .int (nI j))]) hx hb dX0_choiceOf_30 hl (by decide) rfl (fun ls hl => ?_)
    refine lv_iload hx hb dX0_choiceOf_32 (lv_at hl 0 rfl) ?_
    refine lv_bipush (v := (-9)) hx hb dX0_choiceOf_34 (by decide) ?_
    refine lv_icmp_eq (tgt := 84) hx hb dX0_choiceOf_36 (by decide) (fun c_2 => ?_) (fun c_2 => ?_)
    ·
      refine lv_iinc (v := nI (j + 1)) (lv' := [(4, .int (nI (j + 1))), (5, .int (f_X2_offerTo sP i1 (nI j))), (0, .ref (af 0)), (1, .int i1), (2, .int a1), (3, .int a2)]) hx hb dX0_choiceOf_84 hl (k := 5) rfl (nI_1 j) (by decide) rfl (fun ls hl => ?_)
      refine lv_goto (tgt := 8) hx hb dX0_choiceOf_87 (by decide) ?_
      have eg : g_X0_choiceOf_lp sP sF i1 (r + 1) j a1 a2 = g_X0_choiceOf_lp sP sF i1 r (j + 1) a1 a2 := by
        rw [g_X0_choiceOf_lp, if_pos c_2]
      rw [eg] at hQ
      exact ih (j + 1) a1 a2 _ _ _ (by omega) hP hD hS (lv_sub hl [2, 3, 4, 5, 0] rfl) hQ
    ·
      refine lv_aload_n hx hb dX0_choiceOf_39 rfl (lv_at hl 1 rfl) ?_
      refine lv_iload_n hx hb dX0_choiceOf_40 rfl (lv_at hl 2 rfl) ?_
      refine lv_iload hx hb dX0_choiceOf_41 (lv_at hl 5 rfl) ?_
      refine k_Vi (wr := w_P k ap sP) (ws' := (w_P k ap sP) ++ (w_F k af (ap 0) (l0) sF)) (Rv := (f_X0_hasAsked sF i1 (nI j))) (rest := []) ⟨hx, hb, hml, hown, hts⟩ hK hA hP hD hS (c_X0_hasAsked l k af (ap 0) (l0) sF i1 (nI j) (by assumption)) (cwV 2 hts gX0_choiceOf_X0_hasAsked rfl rfl rfl (by decide +kernel) ⟨Nat.le_of_ble_eq_true rfl, Nat.le_of_ble_eq_true rfl⟩) (va_recv hK hP (ci := 0) (q0 := 18) rfl rfl) rfl hl.1 rfl (Nat.le_of_ble_eq_true rfl) dX0_choiceOf_43 (Nat.zero_le _) (Nat.zero_le _) [18, 19, 20, 21, 22, 23] [0, 1, 2, 3, 4, 5, 6, 7, 8, 9, 10, 11, 12, 13, 14, 15, 16, 17] [0, 1, 2, 3, 4, 5, 6, 7, 8, 9, 10, 11, 12, 13, 14, 15, 16, 17, 18, 19, 20, 21, 22, 23] rfl rfl rfl (by decide) rfl rfl rfl (fun H locs hP hD hS => ?_)
      refine lv_if_eq (tgt := 52) hx hb dX0_choiceOf_46 (by decide) (fun c_3 => ?_) (fun c_3 => ?_)
      ·
        refine lv_aload_n hx hb dX0_choiceOf_52 rfl (lv_at hl 1 rfl) ?_
        refine va_get (D := k.1) (ci := 0) (v := .ref (ap 0)) (C := RX0) (T := TX0) (N := 8) hx hb hts in_X0_choiceOf_X0 hown hK hP 18 rfl rfl 0 (by decide) (k_w hts 1 rfl) (fun _ h9 => h9) rfl dX0_choiceOf_53 ?_
        refine lv_iload_n hx hb dX0_choiceOf_56 rfl (lv_at hl 2 rfl) ?_
        refine lv_iload hx hb dX0_choiceOf_57 (lv_at hl 5 rfl) ?_
        refine lv_iload hx hb dX0_choiceOf_59 (lv_at hl 0 rfl) ?_
        refine k_Vi (wr := w_F k af (ap 0) (l0) sF) (ws' := (w_P k ap sP) ++ (w_F k af (ap 0) (l0) sF)) (Rv := (f_X2_likingAt sP i1 (nI j) (f_X2_offerTo sP i1 (nI j)))) (rest := []) ⟨hx, hb, hml, hown, hts⟩ hK hA hP hD hS (c_X2_likingAt l k ap sP i1 (nI j) (f_X2_offerTo sP i1 (nI j)) (by first | assumption | exact vp_in_nI (by omega) (by omega)) (by first | assumption | exact vp_in_nI (by omega) (by omega))) (cwV 3 hts gX0_choiceOf_X2_likingAt rfl rfl rfl (by decide +kernel) ⟨Nat.le_of_ble_eq_true rfl, Nat.le_of_ble_eq_true rfl⟩) (va_recv hK hP (ci := 2) (q0 := 0) rfl rfl) rfl hl.1 rfl (Nat.le_of_ble_eq_true rfl) dX0_choiceOf_61 (Nat.zero_le _) (Nat.zero_le _) [0, 1, 2, 3, 4, 5, 6, 7, 8, 9, 10, 11, 12, 13, 14, 15, 16, 17] [18, 19, 20, 21, 22, 23] [6, 7, 8, 9, 10, 11, 12, 13, 14, 15, 16, 17, 18, 19, 20, 21, 22, 23, 0, 1, 2, 3, 4, 5] rfl rfl rfl (by decide) rfl rfl rfl (fun H locs hP hD hS => ?_)
        refine lv_istore (lv' := [(6, .int (f_X2_likingAt sP i1 (nI j) (f_X2_offerTo sP i1 (nI j)))), (5, .int (f_X2_offerTo sP i1 (nI j))), (0, .ref (af 0)), (1, .int i1), (2, .int a1), (3, .int a2), (4, .int (nI j))]) hx hb dX0_choiceOf_64 hl (by decide) rfl (fun ls hl => ?_)
        refine lv_iload_n hx hb dX0_choiceOf_66 rfl (lv_at hl 4 rfl) ?_
        refine lv_bipush (v := (-9)) hx hb dX0_choiceOf_67 (by decide) ?_
        refine lv_icmp_eq (tgt := 78) hx hb dX0_choiceOf_69 (by decide) (fun c_4 => ?_) (fun c_4 => ?_)
        ·
          refine lv_iload hx hb dX0_choiceOf_78 (lv_at hl 6 rfl) ?_
          refine lv_istore_n (lv' := [(2, .int (nI j)), (6, .int (f_X2_likingAt sP i1 (nI j) (f_X2_offerTo sP i1 (nI j)))), (5, .int (f_X2_offerTo sP i1 (nI j))), (0, .ref (af 0)), (1, .int i1), (3, .int a2), (4, .int (nI j))]) hx hb dX0_choiceOf_80 rfl hl (by decide) rfl (fun ls hl => ?_)
          refine lv_iload hx hb dX0_choiceOf_81 (lv_at hl 1 rfl) ?_
          refine lv_istore_n (lv' := [(3, .int (f_X2_likingAt sP i1 (nI j) (f_X2_offerTo sP i1 (nI j)))), (2, .int (nI j)), (6, .int (f_X2_likingAt sP i1 (nI j) (f_X2_offerTo sP i1 (nI j)))), (5, .int (f_X2_offerTo sP i1 (nI j))), (0, .ref (af 0)), (1, .int i1), (4, .int (nI j))]) hx hb dX0_choiceOf_83 rfl hl (by decide) rfl (fun ls hl => ?_)
          refine lv_iinc (v := nI (j + 1)) (lv' := [(4, .int (nI (j + 1))), (3, .int (f_X2_likingAt sP i1 (nI j) (f_X2_offerTo sP i1 (nI j)))), (2, .int (nI j)), (6, .int (f_X2_likingAt sP i1 (nI j) (f_X2_offerTo sP i1 (nI j)))), (5, .int (f_X2_offerTo sP i1 (nI j))), (0, .ref (af 0)), (1, .int i1)]) hx hb dX0_choiceOf_84 hl (k := 6) rfl (nI_1 j) (by decide) rfl (fun ls hl => ?_)
          refine lv_goto (tgt := 8) hx hb dX0_choiceOf_87 (by decide) ?_
          have eg : g_X0_choiceOf_lp sP sF i1 (r + 1) j a1 a2 = g_X0_choiceOf_lp sP sF i1 r (j + 1) (nI j) (f_X2_likingAt sP i1 (nI j) (f_X2_offerTo sP i1 (nI j))) := by
            rw [g_X0_choiceOf_lp, if_neg c_2, if_pos c_3, if_pos c_4]
          rw [eg] at hQ
          exact ih (j + 1) (nI j) (f_X2_likingAt sP i1 (nI j) (f_X2_offerTo sP i1 (nI j))) _ _ _ (by omega) hP hD hS (lv_sub hl [5, 6, 2, 1, 0] rfl) hQ
        ·
          refine lv_iload hx hb dX0_choiceOf_72 (lv_at hl 0 rfl) ?_
          refine lv_iload_n hx hb dX0_choiceOf_74 rfl (lv_at hl 5 rfl) ?_
          refine lv_icmp_le (tgt := 84) hx hb dX0_choiceOf_75 (by decide) (fun c_5 => ?_) (fun c_5 => ?_)
          ·
            refine lv_iinc (v := nI (j + 1)) (lv' := [(4, .int (nI (j + 1))), (6, .int (f_X2_likingAt sP i1 (nI j) (f_X2_offerTo sP i1 (nI j)))), (5, .int (f_X2_offerTo sP i1 (nI j))), (0, .ref (af 0)), (1, .int i1), (2, .int a1), (3, .int a2)]) hx hb dX0_choiceOf_84 hl (k := 6) rfl (nI_1 j) (by decide) rfl (fun ls hl => ?_)
            refine lv_goto (tgt := 8) hx hb dX0_choiceOf_87 (by decide) ?_
            have eg : g_X0_choiceOf_lp sP sF i1 (r + 1) j a1 a2 = g_X0_choiceOf_lp sP sF i1 r (j + 1) a1 a2 := by
              rw [g_X0_choiceOf_lp, if_neg c_2, if_pos c_3, if_neg c_4, if_pos c_5]
            rw [eg] at hQ
            exact ih (j + 1) a1 a2 _ _ _ (by omega) hP hD hS (lv_sub hl [3, 4, 5, 6, 0] rfl) hQ
          ·
            refine lv_iload hx hb dX0_choiceOf_78 (lv_at hl 6 rfl) ?_
            refine lv_istore_n (lv' := [(2, .int (nI j)), (6, .int (f_X2_likingAt sP i1 (nI j) (f_X2_offerTo sP i1 (nI j)))), (5, .int (f_X2_offerTo sP i1 (nI j))), (0, .ref (af 0)), (1, .int i1), (3, .int a2), (4, .int (nI j))]) hx hb dX0_choiceOf_80 rfl hl (by decide) rfl (fun ls hl => ?_)
            refine lv_iload hx hb dX0_choiceOf_81 (lv_at hl 1 rfl) ?_
            refine lv_istore_n (lv' := [(3, .int (f_X2_likingAt sP i1 (nI j) (f_X2_offerTo sP i1 (nI j)))), (2, .int (nI j)), (6, .int (f_X2_likingAt sP i1 (nI j) (f_X2_offerTo sP i1 (nI j)))), (5, .int (f_X2_offerTo sP i1 (nI j))), (0, .ref (af 0)), (1, .int i1), (4, .int (nI j))]) hx hb dX0_choiceOf_83 rfl hl (by decide) rfl (fun ls hl => ?_)
            refine lv_iinc (v := nI (j + 1)) (lv' := [(4, .int (nI (j + 1))), (3, .int (f_X2_likingAt sP i1 (nI j) (f_X2_offerTo sP i1 (nI j)))), (2, .int (nI j)), (6, .int (f_X2_likingAt sP i1 (nI j) (f_X2_offerTo sP i1 (nI j)))), (5, .int (f_X2_offerTo sP i1 (nI j))), (0, .ref (af 0)), (1, .int i1)]) hx hb dX0_choiceOf_84 hl (k := 6) rfl (nI_1 j) (by decide) rfl (fun ls hl => ?_)
            refine lv_goto (tgt := 8) hx hb dX0_choiceOf_87 (by decide) ?_
            have eg : g_X0_choiceOf_lp sP sF i1 (r + 1) j a1 a2 = g_X0_choiceOf_lp sP sF i1 r (j + 1) (nI j) (f_X2_likingAt sP i1 (nI j) (f_X2_offerTo sP i1 (nI j))) := by
              rw [g_X0_choiceOf_lp, if_neg c_2, if_pos c_3, if_neg c_4, if_neg c_5]
            rw [eg] at hQ
            exact ih (j + 1) (nI j) (f_X2_likingAt sP i1 (nI j) (f_X2_offerTo sP i1 (nI j))) _ _ _ (by omega) hP hD hS (lv_sub hl [5, 6, 2, 1, 0] rfl) hQ
      ·
        refine lv_goto (tgt := 84) hx hb dX0_choiceOf_49 (by decide) ?_
        refine lv_iinc (v := nI (j + 1)) (lv' := [(4, .int (nI (j + 1))), (5, .int (f_X2_offerTo sP i1 (nI j))), (0, .ref (af 0)), (1, .int i1), (2, .int a1), (3, .int a2)]) hx hb dX0_choiceOf_84 hl (k := 5) rfl (nI_1 j) (by decide) rfl (fun ls hl => ?_)
        refine lv_goto (tgt := 8) hx hb dX0_choiceOf_87 (by decide) ?_
        have eg : g_X0_choiceOf_lp sP sF i1 (r + 1) j a1 a2 = g_X0_choiceOf_lp sP sF i1 r (j + 1) a1 a2 := by
          rw [g_X0_choiceOf_lp, if_neg c_2, if_neg c_3]
        rw [eg] at hQ
        exact ih (j + 1) a1 a2 _ _ _ (by omega) hP hD hS (lv_sub hl [2, 3, 4, 5, 0] rfl) hQ
def f_X0_choiceOf (sP : Nat → Nat → Int32) (sF : Nat → Nat → Int32) (i1 : Int32) : Int32 :=
  (g_X0_choiceOf_lp sP sF i1 ((sP 0 0).toNatClampNeg) 0 (-9) 0).1
set_option maxHeartbeats 4000000 in
set_option maxRecDepth 100000 in
theorem c_X0_choiceOf (l : Launch) (k : K_X) (ap : Nat → Nat) (af : Nat → Nat) (l0 : Nat) (sP : Nat → Nat → Int32) (sF : Nat → Nat → Int32) (i1 : Int32) (h1 : vp_in i1 10) (hNs : k_n (sP 0 0) 10) : k_C l yX0_choiceOf wsX0_choiceOf (k_rm 2 46) k [.ref (af 0), .int i1] ((w_P k ap sP) ++ (w_F k af (ap 0) (l0) sF)) (k_qI k (f_X0_choiceOf sP sF i1) ((w_P k ap sP) ++ (w_F k af (ap 0) (l0) sF))) := by
  refine k_mk (cc := cX0_choiceOf) (maxL := 7) (ret := (some .int)) (by decide) rfl (Nat.le_of_ble_eq_true rfl) ?_
  intro p e s m below meth c A ls C0 hP hD hS hl
  obtain ⟨hx, hb, hr, hts, hown, hlocks, hml, hA, hK⟩ := id C0
  have hown : s.vm.findClass RX0 = some m.cls := hown
  have hl : lv_has ls 7 [(0, .ref (af 0)), (1, .int i1)] := hl
  refine lv_bipush (v := (-9)) hx hb dX0_choiceOf_0 (by decide) ?_
  refine lv_istore_n (lv' := [(2, .int (-9)), (0, .ref (af 0)), (1, .int i1)]) hx hb dX0_choiceOf_2 rfl hl (by decide) rfl (fun ls hl => ?_)
  refine lv_iconst (v := 0) hx hb dX0_choiceOf_3 (by decide) ?_
  refine lv_istore_n (lv' := [(3, .int 0), (2, .int (-9)), (0, .ref (af 0)), (1, .int i1)]) hx hb dX0_choiceOf_4 rfl hl (by decide) rfl (fun ls hl => ?_)
  refine lv_iconst (v := 0) hx hb dX0_choiceOf_5 (by decide) ?_
  refine lv_istore (lv' := [(4, .int 0), (3, .int 0), (2, .int (-9)), (0, .ref (af 0)), (1, .int i1)]) hx hb dX0_choiceOf_6 hl (by decide) rfl (fun ls hl => ?_)
  have hl : lv_has ls 7 [(0, .ref (af 0)), (1, .int i1), (2, .int (-9)), (3, .int 0), (4, .int (nI 0))] := lv_sub hl [3, 4, 2, 1, 0] rfl
  refine lp_X0_choiceOf_lp k ap af l0 sP sF i1 C0 (by first | assumption | omega) (by first | assumption | omega) ((sP 0 0).toNatClampNeg) 0 (-9) 0 _ _ _ (by omega) hP hD hS hl (fun H locs ls hP hD hS hl => ?_)
  refine lv_iload_n hx hb dX0_choiceOf_90 rfl (lv_at hl 2 rfl) ?_
  have ef : f_X0_choiceOf sP sF i1 = (g_X0_choiceOf_lp sP sF i1 ((sP 0 0).toNatClampNeg) 0 (-9) 0).1 := by
    rw [f_X0_choiceOf]
  exact k_reti hx hb hr hK hP hD hS hlocks dX0_choiceOf_91 (by rw [ef])
theorem in_X0_countBound_X0 : ∀ w ∈ wsX00, w ∈ wsX0_countBound := fun _ h => List.mem_cons_of_mem _ (List.mem_append_left _ (List.mem_append_right _ h))
theorem in_X0_countBound_X2 : ∀ w ∈ wsX20, w ∈ wsX0_countBound := fun _ h => List.mem_cons_of_mem _ (List.mem_append_right _ h)
def g_X0_countBound_lp (sP : Nat → Nat → Int32) (sF : Nat → Nat → Int32) : Nat → Nat → Int32 → Int32
  | 0, j, a1 => a1
  | r + 1, j, a1 => if (f_X0_isBound sF (nI j)) = 0 then g_X0_countBound_lp sP sF r (j + 1) a1
    else g_X0_countBound_lp sP sF r (j + 1) (a1 + 1)
set_option maxHeartbeats 4000000 in
set_option maxRecDepth 100000 in
theorem lp_X0_countBound_lp {p : Program} {l : Launch} {e : Env} {s : State} {m : MethodId} {below : List Frame} {meth : Method} {c : Code} {A : Nat → Prop} {Q : State → Prop} {av : Array Value} (k : K_X) (ap : Nat → Nat) (af : Nat → Nat) (l0 : Nat) (sP : Nat → Nat → Int32) (sF : Nat → Nat → Int32) (C0 : k_Cx p s m meth c k cX0_countBound (some .int) wsX0_countBound RX0 3 av A) (hNs : k_n (sP 0 0) 10) : ∀ (r j : Nat) (a1 : Int32) (H : Heap) (locs : List Loc) (ls : Array Slot), j + r = (sP 0 0).toNatClampNeg → va_P k.1 vwCl ((w_P k ap sP) ++ (w_F k af (ap 0) (l0) sF)) H → va_D A ((w_P k ap sP) ++ (w_F k af (ap 0) (l0) sF)) → va_S A s.heap H locs → lv_has ls 3 [(0, .ref (af 0)), (1, .int a1), (2, .int (nI j))] → (∀ (H : Heap) (locs : List Loc) (ls : Array Slot), va_P k.1 vwCl ((w_P k ap sP) ++ (w_F k af (ap 0) (l0) sF)) H → va_D A ((w_P k ap sP) ++ (w_F k af (ap 0) (l0) sF)) → va_S A s.heap H locs → lv_has ls 3 [(0, .ref (af 0)), (1, .int (g_X0_countBound_lp sP sF r j a1))] → W p l e (k_rm 1 21) s m av below meth c H locs 0 0 Q (F0 m 32 ls [])) → W p l e (k_rm 1 21) s m av below meth c H locs 0 0 Q (F0 m 4 ls []) := by
  obtain ⟨hx, hb, hr, hts, hown, hlocks, hml, hA, hK⟩ := id C0
  have hq := hNs.2
  intro r
  induction r with
  | zero =>
    intro j a1 H locs ls hj hP hD hS hl hQ
    refine lv_iload_n hx hb dX0_countBound_4 rfl (lv_at hl 2 rfl) ?_
    refine lv_aload_n hx hb dX0_countBound_5 rfl (lv_at hl 0 rfl) ?_
    refine va_get (D := k.1) (ci := 0) (v := .ref (ap 0)) (C := RX0) (T := TX0) (N := 8) hx hb hts in_X0_countBound_X0 hown hK hP 18 rfl rfl 0 (by decide) (k_w hts 1 rfl) (fun _ h9 => h9) rfl dX0_countBound_6 ?_
    refine va_get (D := k.1) (ci := 2) (v := .int (sP 0 0)) (C := RX2) (T := TX2) (N := 9) hx hb hts in_X0_countBound_X2 hown hK hP 0 rfl rfl 0 (by decide) (k_w hts 2 rfl) (fun _ h9 => h9) rfl dX0_countBound_9 ?_
    refine lv_icmp_ge (tgt := 32) hx hb dX0_countBound_12 (by decide) (fun c_1 => ?_) (fun c_1 => ?_)
    rotate_left
    · exact absurd (hNs.ge (by omega)) c_1
    have eg : g_X0_countBound_lp sP sF 0 j a1 = a1 := by
      rw [g_X0_countBound_lp]
    rw [eg] at hQ
    exact hQ _ _ _ hP hD hS (lv_sub hl [0, 1] rfl)
  | succ r ih =>
    intro j a1 H locs ls hj hP hD hS hl hQ
    refine lv_iload_n hx hb dX0_countBound_4 rfl (lv_at hl 2 rfl) ?_
    refine lv_aload_n hx hb dX0_countBound_5 rfl (lv_at hl 0 rfl) ?_
    refine va_get (D := k.1) (ci := 0) (v := .ref (ap 0)) (C := RX0) (T := TX0) (N := 8) hx hb hts in_X0_countBound_X0 hown hK hP 18 rfl rfl 0 (by decide) (k_w hts 1 rfl) (fun _ h9 => h9) rfl dX0_countBound_6 ?_
    refine va_get (D := k.1) (ci := 2) (v := .int (sP 0 0)) (C := RX2) (T := TX2) (N := 9) hx hb hts in_X0_countBound_X2 hown hK hP 0 rfl rfl 0 (by decide) (k_w hts 2 rfl) (fun _ h9 => h9) rfl dX0_countBound_9 ?_
    refine lv_icmp_ge (tgt := 32) hx hb dX0_countBound_12 (by decide) (fun c_1 => ?_) (fun c_1 => ?_)
    · exact absurd c_1 (hNs.nge (by omega))
    refine lv_aload_n hx hb dX0_countBound_15 rfl (lv_at hl 0 rfl) ?_
    refine lv_iload_n hx hb dX0_countBound_16 rfl (lv_at hl 2 rfl) ?_
    refine k_Vi (wr := w_P k ap sP) (ws' := (w_P k ap sP) ++ (w_F k af (ap 0) (l0) sF)) (Rv := (f_X0_isBound sF (nI j))) (rest := []) ⟨hx, hb, hml, hown, hts⟩ hK hA hP hD hS (c_X0_isBound l k af (ap 0) (l0) sF (nI j) (by first | assumption | exact vp_in_nI (by omega) (by omega))) (cwV 1 hts gX0_countBound_X0_isBound rfl rfl rfl (by decide +kernel) ⟨Nat.le_of_ble_eq_true rfl, Nat.le_of_ble_eq_true rfl⟩) (va_recv hK hP (ci := 0) (q0 := 18) rfl rfl) rfl hl.1 rfl (Nat.le_of_ble_eq_true rfl) dX0_countBound_17 (Nat.zero_le _) (Nat.zero_le _) [18, 19, 20, 21, 22, 23] [0, 1, 2, 3, 4, 5, 6, 7, 8, 9, 10, 11, 12, 13, 14, 15, 16, 17] [0, 1, 2, 3, 4, 5, 6, 7, 8, 9, 10, 11, 12, 13, 14, 15, 16, 17, 18, 19, 20, 21, 22, 23] rfl rfl rfl (by decide) rfl rfl rfl (fun H locs hP hD hS => ?_)
    refine lv_if_eq (tgt := 26) hx hb dX0_countBound_20 (by decide) (fun c_2 => ?_) (fun c_2 => ?_)
    ·
      refine lv_iinc (v := nI (j + 1)) (lv' := [(2, .int (nI (j + 1))), (0, .ref (af 0)), (1, .int a1)]) hx hb dX0_countBound_26 hl (k := 2) rfl (nI_1 j) (by decide) rfl (fun ls hl => ?_)
      refine lv_goto (tgt := 4) hx hb dX0_countBound_29 (by decide) ?_
      have eg : g_X0_countBound_lp sP sF (r + 1) j a1 = g_X0_countBound_lp sP sF r (j + 1) a1 := by
        rw [g_X0_countBound_lp, if_pos c_2]
      rw [eg] at hQ
      exact ih (j + 1) a1 _ _ _ (by omega) hP hD hS (lv_sub hl [1, 2, 0] rfl) hQ
    ·
      refine lv_iinc (v := a1 + 1) (lv' := [(1, .int (a1 + 1)), (0, .ref (af 0)), (2, .int (nI j))]) hx hb dX0_countBound_23 hl (k := 1) rfl rfl (by decide) rfl (fun ls hl => ?_)
      refine lv_iinc (v := nI (j + 1)) (lv' := [(2, .int (nI (j + 1))), (1, .int (a1 + 1)), (0, .ref (af 0))]) hx hb dX0_countBound_26 hl (k := 2) rfl (nI_1 j) (by decide) rfl (fun ls hl => ?_)
      refine lv_goto (tgt := 4) hx hb dX0_countBound_29 (by decide) ?_
      have eg : g_X0_countBound_lp sP sF (r + 1) j a1 = g_X0_countBound_lp sP sF r (j + 1) (a1 + 1) := by
        rw [g_X0_countBound_lp, if_neg c_2]
      rw [eg] at hQ
      exact ih (j + 1) (a1 + 1) _ _ _ (by omega) hP hD hS (lv_sub hl [2, 1, 0] rfl) hQ
def f_X0_countBound (sP : Nat → Nat → Int32) (sF : Nat → Nat → Int32) : Int32 :=
  g_X0_countBound_lp sP sF ((sP 0 0).toNatClampNeg) 0 0
set_option maxHeartbeats 4000000 in
set_option maxRecDepth 100000 in
theorem c_X0_countBound (l : Launch) (k : K_X) (ap : Nat → Nat) (af : Nat → Nat) (l0 : Nat) (sP : Nat → Nat → Int32) (sF : Nat → Nat → Int32) (hNs : k_n (sP 0 0) 10) : k_C l yX0_countBound wsX0_countBound (k_rm 1 21) k [.ref (af 0)] ((w_P k ap sP) ++ (w_F k af (ap 0) (l0) sF)) (k_qI k (f_X0_countBound sP sF) ((w_P k ap sP) ++ (w_F k af (ap 0) (l0) sF))) := by
  refine k_mk (cc := cX0_countBound) (maxL := 3) (ret := (some .int)) (by decide) rfl (Nat.le_of_ble_eq_true rfl) ?_
  intro p e s m below meth c A ls C0 hP hD hS hl
  obtain ⟨hx, hb, hr, hts, hown, hlocks, hml, hA, hK⟩ := id C0
  have hown : s.vm.findClass RX0 = some m.cls := hown
  have hl : lv_has ls 3 [(0, .ref (af 0))] := hl
  refine lv_iconst (v := 0) hx hb dX0_countBound_0 (by decide) ?_
  refine lv_istore_n (lv' := [(1, .int 0), (0, .ref (af 0))]) hx hb dX0_countBound_1 rfl hl (by decide) rfl (fun ls hl => ?_)
  refine lv_iconst (v := 0) hx hb dX0_countBound_2 (by decide) ?_
  refine lv_istore_n (lv' := [(2, .int 0), (1, .int 0), (0, .ref (af 0))]) hx hb dX0_countBound_3 rfl hl (by decide) rfl (fun ls hl => ?_)
  have hl : lv_has ls 3 [(0, .ref (af 0)), (1, .int 0), (2, .int (nI 0))] := lv_sub hl [2, 1, 0] rfl
  refine lp_X0_countBound_lp k ap af l0 sP sF C0 (by first | assumption | omega) ((sP 0 0).toNatClampNeg) 0 0 _ _ _ (by omega) hP hD hS hl (fun H locs ls hP hD hS hl => ?_)
  refine lv_iload_n hx hb dX0_countBound_32 rfl (lv_at hl 1 rfl) ?_
  have ef : f_X0_countBound sP sF = g_X0_countBound_lp sP sF ((sP 0 0).toNatClampNeg) 0 0 := by
    rw [f_X0_countBound]
  exact k_reti hx hb hr hK hP hD hS hlocks dX0_countBound_33 (by rw [ef])
theorem in_X0_sumWages_X0 : ∀ w ∈ wsX00, w ∈ wsX0_sumWages := fun _ h => List.mem_cons_of_mem _ (List.mem_append_left _ (List.mem_append_right _ h))
theorem in_X0_sumWages_X2 : ∀ w ∈ wsX20, w ∈ wsX0_sumWages := fun _ h => List.mem_cons_of_mem _ (List.mem_append_right _ h)
def g_X0_sumWages_lp (sP : Nat → Nat → Int32) (sF : Nat → Nat → Int32) : Nat → Nat → Int32 → Int32
  | 0, j, a1 => a1
  | r + 1, j, a1 => if (f_X0_isBound sF (nI j)) = 0 then g_X0_sumWages_lp sP sF r (j + 1) a1
    else g_X0_sumWages_lp sP sF r (j + 1) (a1 + ((sF 2) (nI j).toNatClampNeg))
set_option maxHeartbeats 4000000 in
set_option maxRecDepth 100000 in
theorem lp_X0_sumWages_lp {p : Program} {l : Launch} {e : Env} {s : State} {m : MethodId} {below : List Frame} {meth : Method} {c : Code} {A : Nat → Prop} {Q : State → Prop} {av : Array Value} (k : K_X) (ap : Nat → Nat) (af : Nat → Nat) (l0 : Nat) (sP : Nat → Nat → Int32) (sF : Nat → Nat → Int32) (C0 : k_Cx p s m meth c k cX0_sumWages (some .int) wsX0_sumWages RX0 3 av A) (hNs : k_n (sP 0 0) 10) : ∀ (r j : Nat) (a1 : Int32) (H : Heap) (locs : List Loc) (ls : Array Slot), j + r = (sP 0 0).toNatClampNeg → va_P k.1 vwCl ((w_P k ap sP) ++ (w_F k af (ap 0) (l0) sF)) H → va_D A ((w_P k ap sP) ++ (w_F k af (ap 0) (l0) sF)) → va_S A s.heap H locs → lv_has ls 3 [(0, .ref (af 0)), (1, .int a1), (2, .int (nI j))] → (∀ (H : Heap) (locs : List Loc) (ls : Array Slot), va_P k.1 vwCl ((w_P k ap sP) ++ (w_F k af (ap 0) (l0) sF)) H → va_D A ((w_P k ap sP) ++ (w_F k af (ap 0) (l0) sF)) → va_S A s.heap H locs → lv_has ls 3 [(0, .ref (af 0)), (1, .int (g_X0_sumWages_lp sP sF r j a1))] → W p l e (k_rm 1 21) s m av below meth c H locs 0 0 Q (F0 m 38 ls [])) → W p l e (k_rm 1 21) s m av below meth c H locs 0 0 Q (F0 m 4 ls []) := by
  obtain ⟨hx, hb, hr, hts, hown, hlocks, hml, hA, hK⟩ := id C0
  have hq := hNs.2
  intro r
  induction r with
  | zero =>
    intro j a1 H locs ls hj hP hD hS hl hQ
    refine lv_iload_n hx hb dX0_sumWages_4 rfl (lv_at hl 2 rfl) ?_
    refine lv_aload_n hx hb dX0_sumWages_5 rfl (lv_at hl 0 rfl) ?_
    refine va_get (D := k.1) (ci := 0) (v := .ref (ap 0)) (C := RX0) (T := TX0) (N := 8) hx hb hts in_X0_sumWages_X0 hown hK hP 18 rfl rfl 0 (by decide) (k_w hts 1 rfl) (fun _ h9 => h9) rfl dX0_sumWages_6 ?_
    refine va_get (D := k.1) (ci := 2) (v := .int (sP 0 0)) (C := RX2) (T := TX2) (N := 9) hx hb hts in_X0_sumWages_X2 hown hK hP 0 rfl rfl 0 (by decide) (k_w hts 2 rfl) (fun _ h9 => h9) rfl dX0_sumWages_9 ?_
    refine lv_icmp_ge (tgt := 38) hx hb dX0_sumWages_12 (by decide) (fun c_1 => ?_) (fun c_1 => ?_)
    rotate_left
    · exact absurd (hNs.ge (by omega)) c_1
    have eg : g_X0_sumWages_lp sP sF 0 j a1 = a1 := by
      rw [g_X0_sumWages_lp]
    rw [eg] at hQ
    exact hQ _ _ _ hP hD hS (lv_sub hl [0, 1] rfl)
  | succ r ih =>
    intro j a1 H locs ls hj hP hD hS hl hQ
    refine lv_iload_n hx hb dX0_sumWages_4 rfl (lv_at hl 2 rfl) ?_
    refine lv_aload_n hx hb dX0_sumWages_5 rfl (lv_at hl 0 rfl) ?_
    refine va_get (D := k.1) (ci := 0) (v := .ref (ap 0)) (C := RX0) (T := TX0) (N := 8) hx hb hts in_X0_sumWages_X0 hown hK hP 18 rfl rfl 0 (by decide) (k_w hts 1 rfl) (fun _ h9 => h9) rfl dX0_sumWages_6 ?_
    refine va_get (D := k.1) (ci := 2) (v := .int (sP 0 0)) (C := RX2) (T := TX2) (N := 9) hx hb hts in_X0_sumWages_X2 hown hK hP 0 rfl rfl 0 (by decide) (k_w hts 2 rfl) (fun _ h9 => h9) rfl dX0_sumWages_9 ?_
    refine lv_icmp_ge (tgt := 38) hx hb dX0_sumWages_12 (by decide) (fun c_1 => ?_) (fun c_1 => ?_)
    · exact absurd c_1 (hNs.nge (by omega))
    refine lv_aload_n hx hb dX0_sumWages_15 rfl (lv_at hl 0 rfl) ?_
    refine lv_iload_n hx hb dX0_sumWages_16 rfl (lv_at hl 2 rfl) ?_
    refine k_Vi (wr := w_P k ap sP) (ws' := (w_P k ap sP) ++ (w_F k af (ap 0) (l0) sF)) (Rv := (f_X0_isBound sF (nI j))) (rest := []) ⟨hx, hb, hml, hown, hts⟩ hK hA hP hD hS (c_X0_isBound l k af (ap 0) (l0) sF (nI j) (by first | assumption | exact vp_in_nI (by omega) (by omega))) (cwV 1 hts gX0_sumWages_X0_isBound rfl rfl rfl (by decide +kernel) ⟨Nat.le_of_ble_eq_true rfl, Nat.le_of_ble_eq_true rfl⟩) (va_recv hK hP (ci := 0) (q0 := 18) rfl rfl) rfl hl.1 rfl (Nat.le_of_ble_eq_true rfl) dX0_sumWages_17 (Nat.zero_le _) (Nat.zero_le _) [18, 19, 20, 21, 22, 23] [0, 1, 2, 3, 4, 5, 6, 7, 8, 9, 10, 11, 12, 13, 14, 15, 16, 17] [0, 1, 2, 3, 4, 5, 6, 7, 8, 9, 10, 11, 12, 13, 14, 15, 16, 17, 18, 19, 20, 21, 22, 23] rfl rfl rfl (by decide) rfl rfl rfl (fun H locs hP hD hS => ?_)
    refine lv_if_eq (tgt := 32) hx hb dX0_sumWages_20 (by decide) (fun c_2 => ?_) (fun c_2 => ?_)
    ·
      refine lv_iinc (v := nI (j + 1)) (lv' := [(2, .int (nI (j + 1))), (0, .ref (af 0)), (1, .int a1)]) hx hb dX0_sumWages_32 hl (k := 2) rfl (nI_1 j) (by decide) rfl (fun ls hl => ?_)
      refine lv_goto (tgt := 4) hx hb dX0_sumWages_35 (by decide) ?_
      have eg : g_X0_sumWages_lp sP sF (r + 1) j a1 = g_X0_sumWages_lp sP sF r (j + 1) a1 := by
        rw [g_X0_sumWages_lp, if_pos c_2]
      rw [eg] at hQ
      exact ih (j + 1) a1 _ _ _ (by omega) hP hD hS (lv_sub hl [1, 2, 0] rfl) hQ
    ·
      refine lv_iload_n hx hb dX0_sumWages_23 rfl (lv_at hl 1 rfl) ?_
      refine lv_aload_n hx hb dX0_sumWages_24 rfl (lv_at hl 0 rfl) ?_
      refine va_get (D := k.1) (ci := 0) (v := .ref (af 2)) (C := RX0) (T := TX0) (N := 8) hx hb hts in_X0_sumWages_X0 hown hK hP 18 rfl rfl 4 (by decide) (k_w hts 3 rfl) (fun _ h9 => h9) rfl dX0_sumWages_25 ?_
      refine lv_iload_n hx hb dX0_sumWages_28 rfl (lv_at hl 2 rfl) ?_
      refine va_iald (f := sF 2) hx hb hK hP 20 0 rfl rfl (vp_in_nI (by omega) (by omega)) dX0_sumWages_29 ?_
      refine lv_iadd hx hb dX0_sumWages_30 ?_
      refine lv_istore_n (lv' := [(1, .int (a1 + ((sF 2) (nI j).toNatClampNeg))), (0, .ref (af 0)), (2, .int (nI j))]) hx hb dX0_sumWages_31 rfl hl (by decide) rfl (fun ls hl => ?_)
      refine lv_iinc (v := nI (j + 1)) (lv' := [(2, .int (nI (j + 1))), (1, .int (a1 + ((sF 2) (nI j).toNatClampNeg))), (0, .ref (af 0))]) hx hb dX0_sumWages_32 hl (k := 2) rfl (nI_1 j) (by decide) rfl (fun ls hl => ?_)
      refine lv_goto (tgt := 4) hx hb dX0_sumWages_35 (by decide) ?_
      have eg : g_X0_sumWages_lp sP sF (r + 1) j a1 = g_X0_sumWages_lp sP sF r (j + 1) (a1 + ((sF 2) (nI j).toNatClampNeg)) := by
        rw [g_X0_sumWages_lp, if_neg c_2]
      rw [eg] at hQ
      exact ih (j + 1) (a1 + ((sF 2) (nI j).toNatClampNeg)) _ _ _ (by omega) hP hD hS (lv_sub hl [2, 1, 0] rfl) hQ
def f_X0_sumWages (sP : Nat → Nat → Int32) (sF : Nat → Nat → Int32) : Int32 :=
  g_X0_sumWages_lp sP sF ((sP 0 0).toNatClampNeg) 0 0
set_option maxHeartbeats 4000000 in
set_option maxRecDepth 100000 in
theorem c_X0_sumWages (l : Launch) (k : K_X) (ap : Nat → Nat) (af : Nat → Nat) (l0 : Nat) (sP : Nat → Nat → Int32) (sF : Nat → Nat → Int32) (hNs : k_n (sP 0 0) 10) : k_C l yX0_sumWages wsX0_sumWages (k_rm 1 21) k [.ref (af 0)] ((w_P k ap sP) ++ (w_F k af (ap 0) (l0) sF)) (k_qI k (f_X0_sumWages sP sF) ((w_P k ap sP) ++ (w_F k af (ap 0) (l0) sF))) := by
  refine k_mk (cc := cX0_sumWages) (maxL := 3) (ret := (some .int)) (by decide) rfl (Nat.le_of_ble_eq_true rfl) ?_
  intro p e s m below meth c A ls C0 hP hD hS hl
  obtain ⟨hx, hb, hr, hts, hown, hlocks, hml, hA, hK⟩ := id C0
  have hown : s.vm.findClass RX0 = some m.cls := hown
  have hl : lv_has ls 3 [(0, .ref (af 0))] := hl
  refine lv_iconst (v := 0) hx hb dX0_sumWages_0 (by decide) ?_
  refine lv_istore_n (lv' := [(1, .int 0), (0, .ref (af 0))]) hx hb dX0_sumWages_1 rfl hl (by decide) rfl (fun ls hl => ?_)
  refine lv_iconst (v := 0) hx hb dX0_sumWages_2 (by decide) ?_
  refine lv_istore_n (lv' := [(2, .int 0), (1, .int 0), (0, .ref (af 0))]) hx hb dX0_sumWages_3 rfl hl (by decide) rfl (fun ls hl => ?_)
  have hl : lv_has ls 3 [(0, .ref (af 0)), (1, .int 0), (2, .int (nI 0))] := lv_sub hl [2, 1, 0] rfl
  refine lp_X0_sumWages_lp k ap af l0 sP sF C0 (by first | assumption | omega) ((sP 0 0).toNatClampNeg) 0 0 _ _ _ (by omega) hP hD hS hl (fun H locs ls hP hD hS hl => ?_)
  refine lv_iload_n hx hb dX0_sumWages_38 rfl (lv_at hl 1 rfl) ?_
  have ef : f_X0_sumWages sP sF = g_X0_sumWages_lp sP sF ((sP 0 0).toNatClampNeg) 0 0 := by
    rw [f_X0_sumWages]
  exact k_reti hx hb hr hK hP hD hS hlocks dX0_sumWages_39 (by rw [ef])
