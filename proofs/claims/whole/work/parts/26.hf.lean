def f_X4_isWithin (i1 : Int32) (i2 : Int32) (i3 : Int32) : Int32 :=
  if i1 < i2 then 0
  else if i3 < i1 then 0
  else 1
set_option maxHeartbeats 4000000 in
set_option maxRecDepth 100000 in
theorem c_X4_isWithin (l : Launch) (k : K_X) (i1 : Int32) (i2 : Int32) (i3 : Int32) : k_C l yX4_isWithin wsX4_isWithin (k_rm 0 0) k [.int i1, .int i2, .int i3] (([] : va_W)) (k_qI k (f_X4_isWithin i1 i2 i3) (([] : va_W))) := by
  refine k_mk (cc := cX4_isWithin) (maxL := 3) (ret := (some .boolean)) (by decide) rfl (Nat.le_of_ble_eq_true rfl) ?_
  intro p e s m below meth c A ls C0 hP hD hS hl
  obtain ⟨hx, hb, hr, hts, hown, hlocks, hml, hA, hK⟩ := id C0
  have hown : s.vm.findClass RX4 = some m.cls := hown
  have hl : lv_has ls 3 [(0, .int i1), (1, .int i2), (2, .int i3)] := hl
  refine lv_iload_n hx hb dX4_isWithin_0 rfl (lv_at hl 0 rfl) ?_
  refine lv_iload_n hx hb dX4_isWithin_1 rfl (lv_at hl 1 rfl) ?_
  refine lv_icmp_lt (tgt := 14) hx hb dX4_isWithin_2 (by decide) (fun c_1 => ?_) (fun c_1 => ?_)
  ·
    refine lv_iconst (v := 0) hx hb dX4_isWithin_14 (by decide) ?_
    have ef : f_X4_isWithin i1 i2 i3 = 0 := by
      rw [f_X4_isWithin, if_pos c_1]
    exact k_retz hx hb hr (by decide) hK hP hD hS hlocks dX4_isWithin_15 (by rw [ef])
  ·
    refine lv_iload_n hx hb dX4_isWithin_5 rfl (lv_at hl 0 rfl) ?_
    refine lv_iload_n hx hb dX4_isWithin_6 rfl (lv_at hl 2 rfl) ?_
    refine lv_icmp_gt (tgt := 14) hx hb dX4_isWithin_7 (by decide) (fun c_2 => ?_) (fun c_2 => ?_)
    ·
      refine lv_iconst (v := 0) hx hb dX4_isWithin_14 (by decide) ?_
      have ef : f_X4_isWithin i1 i2 i3 = 0 := by
        rw [f_X4_isWithin, if_neg c_1, if_pos c_2]
      exact k_retz hx hb hr (by decide) hK hP hD hS hlocks dX4_isWithin_15 (by rw [ef])
    ·
      refine lv_iconst (v := 1) hx hb dX4_isWithin_10 (by decide) ?_
      refine lv_goto (tgt := 15) hx hb dX4_isWithin_11 (by decide) ?_
      have ef : f_X4_isWithin i1 i2 i3 = 1 := by
        rw [f_X4_isWithin, if_neg c_1, if_neg c_2]
      exact k_retz hx hb hr (by decide) hK hP hD hS hlocks dX4_isWithin_15 (by rw [ef])
theorem k_iwz (x y z : Int32) : f_X4_isWithin x y z = 0 ∨ f_X4_isWithin x y z = 1 := by
  unfold f_X4_isWithin
  repeat' split
  all_goals first | exact Or.inl rfl | exact Or.inr rfl
def f_X4_isKind (i1 : Int32) : Int32 :=
  f_X4_isWithin i1 0 2
set_option maxHeartbeats 4000000 in
set_option maxRecDepth 100000 in
theorem c_X4_isKind (l : Launch) (k : K_X) (i1 : Int32) : k_C l yX4_isKind wsX4_isKind (k_rm 1 22) k [.int i1] (([] : va_W)) (k_qI k (f_X4_isKind i1) (([] : va_W))) := by
  refine k_mk (cc := cX4_isKind) (maxL := 1) (ret := (some .boolean)) (by decide) rfl (Nat.le_of_ble_eq_true rfl) ?_
  intro p e s m below meth c A ls C0 hP hD hS hl
  obtain ⟨hx, hb, hr, hts, hown, hlocks, hml, hA, hK⟩ := id C0
  have hown : s.vm.findClass RX4 = some m.cls := hown
  have hl : lv_has ls 1 [(0, .int i1)] := hl
  refine lv_iload_n hx hb dX4_isKind_0 rfl (lv_at hl 0 rfl) ?_
  refine lv_iconst (v := 0) hx hb dX4_isKind_1 (by decide) ?_
  refine lv_iconst (v := 2) hx hb dX4_isKind_2 (by decide) ?_
  refine k_Si (wr := ([] : va_W)) (ws' := ([] : va_W)) (Rv := (f_X4_isWithin i1 0 2)) (rest := []) ⟨hx, hb, hml, hown, hts⟩ hK hA hP hD hS (c_X4_isWithin l k i1 0 2) (va_cwS 3 hts gX4_isKind_X4_isWithin rfl rfl rfl (by decide +kernel) ⟨Nat.le_of_ble_eq_true rfl, Nat.le_of_ble_eq_true rfl⟩) rfl hl.1 rfl (Nat.le_of_ble_eq_true rfl) dX4_isKind_3 (Nat.zero_le _) (Nat.zero_le _) [] [] [] rfl rfl rfl (by decide) rfl rfl rfl (fun H locs hP hD hS => ?_)
  have ef : f_X4_isKind i1 = f_X4_isWithin i1 0 2 := by
    rw [f_X4_isKind]
  exact k_retz hx hb hr (k_nz (k_iwz _ _ _)) hK hP hD hS hlocks dX4_isKind_6 (by rw [ef])
def f_X4_isDay (i1 : Int32) : Int32 :=
  f_X4_isWithin i1 0 363
set_option maxHeartbeats 4000000 in
set_option maxRecDepth 100000 in
theorem c_X4_isDay (l : Launch) (k : K_X) (i1 : Int32) : k_C l yX4_isDay wsX4_isDay (k_rm 1 22) k [.int i1] (([] : va_W)) (k_qI k (f_X4_isDay i1) (([] : va_W))) := by
  refine k_mk (cc := cX4_isDay) (maxL := 1) (ret := (some .boolean)) (by decide) rfl (Nat.le_of_ble_eq_true rfl) ?_
  intro p e s m below meth c A ls C0 hP hD hS hl
  obtain ⟨hx, hb, hr, hts, hown, hlocks, hml, hA, hK⟩ := id C0
  have hown : s.vm.findClass RX4 = some m.cls := hown
  have hl : lv_has ls 1 [(0, .int i1)] := hl
  refine lv_iload_n hx hb dX4_isDay_0 rfl (lv_at hl 0 rfl) ?_
  refine lv_iconst (v := 0) hx hb dX4_isDay_1 (by decide) ?_
  refine lv_sipush (v := 363) hx hb dX4_isDay_2 (by decide) ?_
  refine k_Si (wr := ([] : va_W)) (ws' := ([] : va_W)) (Rv := (f_X4_isWithin i1 0 363)) (rest := []) ⟨hx, hb, hml, hown, hts⟩ hK hA hP hD hS (c_X4_isWithin l k i1 0 363) (va_cwS 3 hts gX4_isDay_X4_isWithin rfl rfl rfl (by decide +kernel) ⟨Nat.le_of_ble_eq_true rfl, Nat.le_of_ble_eq_true rfl⟩) rfl hl.1 rfl (Nat.le_of_ble_eq_true rfl) dX4_isDay_5 (Nat.zero_le _) (Nat.zero_le _) [] [] [] rfl rfl rfl (by decide) rfl rfl rfl (fun H locs hP hD hS => ?_)
  have ef : f_X4_isDay i1 = f_X4_isWithin i1 0 363 := by
    rw [f_X4_isDay]
  exact k_retz hx hb hr (k_nz (k_iwz _ _ _)) hK hP hD hS hlocks dX4_isDay_8 (by rw [ef])
theorem k_hs {sP : Nat → Nat → Int32} {i : Int32} (hNs : k_n (sP 0 0) 10) (h : ¬ (f_X2_hasServant sP i) = 0) : vp_in i 10 := by
  unfold f_X2_hasServant at h
  repeat' split at h
  all_goals first | exact absurd rfl h | skip
  rename_i h1 h2
  exact k_sel h1 h2 hNs
theorem k_hm {sP : Nat → Nat → Int32} {i : Int32} (hNm : k_n (sP 0 1) 10) (h : ¬ (f_X2_hasMaster sP i) = 0) : vp_in i 10 := by
  unfold f_X2_hasMaster at h
  repeat' split at h
  all_goals first | exact absurd rfl h | skip
  rename_i h1 h2
  exact k_sel h1 h2 hNm
theorem k_hb {sP : Nat → Nat → Int32} {i j : Int32} (hNs : k_n (sP 0 0) 10) (hNm : k_n (sP 0 1) 10) (h : ¬ (f_X2_hasBoth sP i j) = 0) : vp_in i 10 ∧ vp_in j 10 := by
  unfold f_X2_hasBoth at h
  repeat' split at h
  all_goals first | exact absurd rfl h | skip
  rename_i h1 h2
  exact ⟨k_hm hNm h1, k_hs hNs h2⟩
theorem k_iw {x : Int32} {a b : Nat} {y z : Int32} (hy : y = nI a) (hz : z = nI b) (hb : b < 2 ^ 31) (ha : a < 2 ^ 31) (h : ¬ (f_X4_isWithin x y z) = 0) : k_n x b ∧ a ≤ x.toNatClampNeg := by
  unfold f_X4_isWithin at h
  repeat' split at h
  all_goals first | exact absurd rfl h | skip
  rename_i h1 h2
  subst hy hz
  exact k_within h1 h2 hb ha
theorem k_dy {i : Int32} (h : ¬ (f_X4_isDay i) = 0) : k_n (i + 1) 364 := by
  obtain ⟨h1, -⟩ := k_iw (a := 0) (b := 363) rfl rfl (by decide) (by decide) h
  obtain ⟨j, hj, rfl⟩ := h1.get
  rw [nI_1]
  exact k_n.mk (by omega)
theorem k_rd {sL : Nat → Nat → Int32} {i c : Int32} (hc : k_n (sL 0 0) 100) (h : ¬ (f_X1_has sL i) = 0) (h2 : ¬ (f_X4_isWithin c 0 5) = 0) : vp_in (i * 6 + c) (100 * 6) := by
  unfold f_X1_has at h
  repeat' split at h
  all_goals first | exact absurd rfl h | skip
  rename_i q1 q2
  have hi := k_sel q1 q2 hc
  obtain ⟨h3, -⟩ := k_iw (a := 0) (b := 5) rfl rfl (by decide) (by decide) h2
  obtain ⟨j, hj, rfl⟩ := vp_in_of hi (by omega)
  obtain ⟨d, hd, rfl⟩ := h3.get
  rw [show (6 : Int32) = nI 6 from rfl, pk_mul, nI_add]
  exact vp_in_nI (by omega) (by omega)
theorem k_sv {sY sF : Nat → Nat → Int32} {sJ : Nat → Int64} {i : Int32} (hd : sY 0 0 = -9 ∨ k_n (sY 0 0) 363) (h : ¬ (f_X3_servesNow sF sY sJ i) = 0) : k_n (sY 0 0) 363 := by
  refine hd.resolve_left fun q => h ?_
  unfold f_X3_servesNow f_X3_hasBegun
  simp [q]
theorem k_fill_lp (i1 : Int32) (n : Nat) : ∀ (r j : Nat) (Ar : Nat → Int32), j + r = n → n ≤ 1000 → ∀ i, (i < j → Ar i = i1) → i < n → (g_J7_fill_53178_lp n i1 r j Ar) i = i1 := by
  intro r
  induction r with
  | zero => intro j Ar h _ i hi hn; rw [g_J7_fill_53178_lp]; exact hi (by omega)
  | succ r ih =>
    intro j Ar h hn i hi hin
    rw [g_J7_fill_53178_lp]
    refine ih _ _ (by omega) hn i (fun hj => ?_) hin
    rw [nI_clamp (by omega)]
    unfold upd
    by_cases e : i = j
    · rw [if_pos e]
    · rw [if_neg e]; exact hi (by omega)
theorem k_fill {n : Nat} (hn : n ≤ 1000) {Ar : Nat → Int32} {v : Int32} {i : Nat} (hi : i < n) : (f_J7_fill_53178 n Ar v) i = v :=
  k_fill_lp v n n 0 Ar (by omega) hn i (fun h => absurd h (by omega)) hi
theorem k_I_start (n : Nat) (sF sL : Nat → Nat → Int32) : k_I n (f_X0_startAnew sF sL).1 (f_X0_startAnew sF sL).2 := by
  refine ⟨fun j hj => Or.inl ?_, fun j hj => Or.inl ?_, ?_⟩
  · exact k_fill (n := 10) (by omega) hj
  · exact k_fill (n := 10) (by omega) hj
  · exact (k_n.mk (j := 0) (b := 0) (by omega)).le (by omega)
theorem k_I_go_lp {n : Nat} {sP : Nat → Nat → Int32} {i1 i2 en : Int32} (hNs : k_n (sP 0 0) 10) (hNm : k_n (sP 0 1) 10) (hn : n ≤ 100) : ∀ (r j : Nat) (a1 : Int32) (sF sL : Nat → Nat → Int32), k_I n sF sL → k_I n (g_X0_goOn_lp n sP i1 i2 en r j a1 sF sL).2.1 (g_X0_goOn_lp n sP i1 i2 en r j a1 sF sL).2.2 := by
  intro r
  induction r with
  | zero => intro j a1 sF sL hI; rw [g_X0_goOn_lp]; exact hI
  | succ r ih =>
    intro j a1 sF sL hI
    rw [g_X0_goOn_lp]
    repeat' split
    all_goals first | exact hI | exact ih _ _ _ _ (k_I_play hNs hNm hn hI)
theorem k_I_go {n : Nat} {sP sF sL : Nat → Nat → Int32} {i1 i2 : Int32} (hNs : k_n (sP 0 0) 10) (hNm : k_n (sP 0 1) 10) (hn : n ≤ 100) (hI : k_I n sF sL) : k_I n (f_X0_goOn n sP sF sL i1 i2).1 (f_X0_goOn n sP sF sL i1 i2).2 :=
  k_I_go_lp (i1 := i1) (i2 := i2) hNs hNm hn _ _ _ _ _ hI
