def f_X4_isWithin (i1 : Int32) (i2 : Int32) (i3 : Int32) : Int32 :=
  if i1 < i2 then 0
  else if i3 < i1 then 0
  else 1
set_option maxHeartbeats 4000000 in
set_option maxRecDepth 100000 in
theorem c_X4_isWithin (l : Launch) (k : K_X) (i1 : Int32) (i2 : Int32) (i3 : Int32) : k_C l yX4_isWithin wsX4_isWithin (k_rm 0 0) k [.int i1, .int i2, .int i3] (([] : va_W)) (k_qI k (f_X4_isWithin i1 i2 i3) (([] : va_W))) := by
  refine k_mk (cc := cX4_isWithin) (maxL := 3) (ret := (some .boolean)) (by decide) rfl (Nat.le_of_ble_eq_true rfl) ?_
  intro p e s m below meth c A ls C0 hP hD hS hl
  obtain ⟨hx, hb, hr, hts, hown, hlocks, hml, hA, hK⟩ := id C0
  have hown : s.vm.findClass RX4 = some m.cls := hown
  have hl : lv_has ls 3 [(0, .int i1), (1, .int i2), (2, .int i3)] := hl
  refine lv_iload_n hx hb dX4_isWithin_0 rfl (lv_at hl 0 rfl) ?_
  refine lv_iload_n hx hb dX4_isWithin_1 rfl (lv_at hl 1 rfl) ?_
  refine lv_icmp_lt (tgt := 14) hx hb dX4_isWithin_2 (by decide) (fun c_1 => ?_) (fun c_1 => ?_)
  ·
    refine lv_iconst (v := 0) hx hb dX4_isWithin_14 (by decide) ?_
    have ef : f_X4_isWithin i1 i2 i3 = 0 := by
      rw [f_X4_isWithin, if_pos c_1]
    exact k_retz hx hb hr (by decide) hK hP hD hS hlocks dX4_isWithin_15 (by rw [ef])
  ·
    refine lv_iload_n hx hb dX4_isWithin_5 rfl (lv_at hl 0 rfl) ?_
    refine lv_iload_n hx hb dX4_isWithin_6 rfl (lv_at hl 2 rfl) ?_
    refine lv_icmp_gt (tgt := 14) hx hb dX4_isWithin_7 (by decide) (fun c_2 => ?_) (fun c_2 => ?_)
    ·
      refine lv_iconst (v := 0) hx hb dX4_isWithin_14 (by decide) ?_
      have ef : f_X4_isWithin i1 i2 i3 = 0 := by
        rw [f_X4_isWithin, if_neg c_1, if_pos c_2]
      exact k_retz hx hb hr (by decide) hK hP hD hS hlocks dX4_isWithin_15 (by rw [ef])
    ·
      refine lv_iconst (v := 1) hx hb dX4_isWithin_10 (by decide) ?_
      refine lv_goto (tgt := 15) hx hb dX4_isWithin_11 (by decide) ?_
      have ef : f_X4_isWithin i1 i2 i3 = 1 := by
        rw [f_X4_isWithin, if_neg c_1, if_neg c_2]
      exact k_retz hx hb hr (by decide) hK hP hD hS hlocks dX4_isWithin_15 (by rw [ef])
def f_X4_isKind (i1 : Int32) : Int32 :=
  f_X4_isWithin i1 0 2
set_option maxHeartbeats 4000000 in
set_option maxRecDepth 100000 in
theorem c_X4_isKind (l : Launch) (k : K_X) (i1 : Int32) : k_C l yX4_isKind wsX4_isKind (k_rm 1 22) k [.int i1] (([] : va_W)) (k_qI k (f_X4_isKind i1) (([] : va_W))) := by
  refine k_mk (cc := cX4_isKind) (maxL := 1) (ret := (some .boolean)) (by decide) rfl (Nat.le_of_ble_eq_true rfl) ?_
  intro p e s m below meth c A ls C0 hP hD hS hl
  obtain ⟨hx, hb, hr, hts, hown, hlocks, hml, hA, hK⟩ := id C0
  have hown : s.vm.findClass RX4 = some m.cls := hown
  have hl : lv_has ls 1 [(0, .int i1)] := hl
  refine lv_iload_n hx hb dX4_isKind_0 rfl (lv_at hl 0 rfl) ?_
  refine lv_iconst (v := 0) hx hb dX4_isKind_1 (by decide) ?_
  refine lv_iconst (v := 2) hx hb dX4_isKind_2 (by decide) ?_
  refine k_Si (wr := ([] : va_W)) (ws' := ([] : va_W)) (Rv := (f_X4_isWithin i1 0 2)) (rest := []) ⟨hx, hb, hml, hown, hts⟩ hK hA hP hD hS (c_X4_isWithin l k i1 0 2) (va_cwS 3 hts gX4_isKind_X4_isWithin rfl rfl rfl (by decide +kernel) ⟨Nat.le_of_ble_eq_true rfl, Nat.le_of_ble_eq_true rfl⟩) rfl hl.1 rfl (Nat.le_of_ble_eq_true rfl) dX4_isKind_3 (Nat.zero_le _) (Nat.zero_le _) [] [] [] rfl rfl rfl (by decide) rfl rfl rfl (fun H locs hP hD hS => ?_)
  have ef : f_X4_isKind i1 = f_X4_isWithin i1 0 2 := by
    rw [f_X4_isKind]
  exact k_retz hx hb hr (by decide) hK hP hD hS hlocks dX4_isKind_6 (by rw [ef])
def f_X4_isDay (i1 : Int32) : Int32 :=
  f_X4_isWithin i1 0 363
set_option maxHeartbeats 4000000 in
set_option maxRecDepth 100000 in
theorem c_X4_isDay (l : Launch) (k : K_X) (i1 : Int32) : k_C l yX4_isDay wsX4_isDay (k_rm 1 22) k [.int i1] (([] : va_W)) (k_qI k (f_X4_isDay i1) (([] : va_W))) := by
  refine k_mk (cc := cX4_isDay) (maxL := 1) (ret := (some .boolean)) (by decide) rfl (Nat.le_of_ble_eq_true rfl) ?_
  intro p e s m below meth c A ls C0 hP hD hS hl
  obtain ⟨hx, hb, hr, hts, hown, hlocks, hml, hA, hK⟩ := id C0
  have hown : s.vm.findClass RX4 = some m.cls := hown
  have hl : lv_has ls 1 [(0, .int i1)] := hl
  refine lv_iload_n hx hb dX4_isDay_0 rfl (lv_at hl 0 rfl) ?_
  refine lv_iconst (v := 0) hx hb dX4_isDay_1 (by decide) ?_
  refine lv_sipush (v := 363) hx hb dX4_isDay_2 (by decide) ?_
  refine k_Si (wr := ([] : va_W)) (ws' := ([] : va_W)) (Rv := (f_X4_isWithin i1 0 363)) (rest := []) ⟨hx, hb, hml, hown, hts⟩ hK hA hP hD hS (c_X4_isWithin l k i1 0 363) (va_cwS 3 hts gX4_isDay_X4_isWithin rfl rfl rfl (by decide +kernel) ⟨Nat.le_of_ble_eq_true rfl, Nat.le_of_ble_eq_true rfl⟩) rfl hl.1 rfl (Nat.le_of_ble_eq_true rfl) dX4_isDay_5 (Nat.zero_le _) (Nat.zero_le _) [] [] [] rfl rfl rfl (by decide) rfl rfl rfl (fun H locs hP hD hS => ?_)
  have ef : f_X4_isDay i1 = f_X4_isWithin i1 0 363 := by
    rw [f_X4_isDay]
  exact k_retz hx hb hr (by decide) hK hP hD hS hlocks dX4_isDay_8 (by rw [ef])
theorem k_hs {sP : Nat → Nat → Int32} {i : Int32} (hNs : k_n (sP 0 0) 10) (h : ¬ (f_X2_hasServant sP i) = 0) : vp_in i 10 := by
  unfold f_X2_hasServant at h
  repeat' split at h
  all_goals first | exact absurd rfl h | skip
  rename_i h1 h2
  exact k_sel h1 h2 hNs
theorem k_hm {sP : Nat → Nat → Int32} {i : Int32} (hNm : k_n (sP 0 1) 10) (h : ¬ (f_X2_hasMaster sP i) = 0) : vp_in i 10 := by
  unfold f_X2_hasMaster at h
  repeat' split at h
  all_goals first | exact absurd rfl h | skip
  rename_i h1 h2
  exact k_sel h1 h2 hNm
theorem k_hb {sP : Nat → Nat → Int32} {i j : Int32} (hNs : k_n (sP 0 0) 10) (hNm : k_n (sP 0 1) 10) (h : ¬ (f_X2_hasBoth sP i j) = 0) : vp_in i 10 ∧ vp_in j 10 := by
  unfold f_X2_hasBoth at h
  repeat' split at h
  all_goals first | exact absurd rfl h | skip
  rename_i h1 h2
  exact ⟨k_hm hNm h1, k_hs hNs h2⟩
theorem k_iw {x : Int32} {a b : Nat} {y z : Int32} (hy : y = nI a) (hz : z = nI b) (hb : b < 2 ^ 31) (h : ¬ (f_X4_isWithin x y z) = 0) : k_n x b ∧ a ≤ x.toNatClampNeg := by
  unfold f_X4_isWithin at h
  repeat' split at h
  all_goals first | exact absurd rfl h | skip
  rename_i h1 h2
  subst hy hz
  exact k_within h1 h2 hb
