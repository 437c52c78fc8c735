/-! counting loops: torn, pair, house, total, hands, text, days, warn, run, send -/
section SIM
variable {P F L Y : Nat → Nat → Int32} {J : Nat → Int64} {tx : Int32} {M : Nat → Nat → Int32}
theorem ct_in (hP : RPp P M) (hF : RBf F (M 9) (M 10) (M 12) (M 8)) {b : Nat} (hb : b < 10) : ∀ (r j : Nat) (x : Int32), j + r ≤ 10 → g_X0_countTorn_in P F b r j x = g_X5_torn_in M b r j x := by
  intro r
  induction r with
  | zero => intro j x _; rw [g_X0_countTorn_in, g_X5_torn_in]
  | succ r ih =>
    intro j x hj
    rw [g_X0_countTorn_in, g_X5_torn_in]
    simp only [torn_eq hP hF (show j < 10 by omega) hb, ih (j + 1) _ (by omega), Int32.add_zero]
theorem ct_out (hP : RPp P M) (hF : RBf F (M 9) (M 10) (M 12) (M 8)) : ∀ (r j : Nat) (x : Int32), j + r ≤ 10 → g_X0_countTorn_out P F r j x = g_X5_torn_out M r j x := by
  intro r
  induction r with
  | zero => intro j x _; rw [g_X0_countTorn_out, g_X5_torn_out]
  | succ r ih =>
    intro j x hj
    rw [g_X0_countTorn_out, g_X5_torn_out, hP.2.1, ct_in hP hF (show j < 10 by omega) _ _ _ (by have := hP.2.2.2.1.2; omega), ih (j + 1) _ (by omega)]
theorem sim_torn (h : REL P F L Y J tx M) : f_X4_torn tx P F = f_X5_torn M := by
  unfold f_X4_torn f_X5_torn f_X0_countTorn
  rw [h.1.1, ct_out h.1 h.2.1 _ _ _ (by have := h.1.2.2.1.2; omega)]
theorem pr_in (hP : RPp P M) (hF : RBf F (M 9) (M 10) (M 12) (M 8)) {b : Nat} {i1 : Int32} (hb : b < 10) : ∀ (r j : Nat) (x : Int32), j + r ≤ 10 → g_X0_findTorn_in P F i1 b r j x = g_X5_pair_in M i1 b r j x := by
  intro r
  induction r with
  | zero => intro j x _; rw [g_X0_findTorn_in, g_X5_pair_in]
  | succ r ih =>
    intro j x hj
    rw [g_X0_findTorn_in, g_X5_pair_in]
    simp only [torn_eq hP hF (show j < 10 by omega) hb, ih (j + 1) _ (by omega)]
theorem pr_out (hP : RPp P M) (hF : RBf F (M 9) (M 10) (M 12) (M 8)) {i1 : Int32} : ∀ (r j : Nat) (x : Int32), j + r ≤ 10 → g_X0_findTorn_out P F i1 r j x = g_X5_pair_out M i1 r j x := by
  intro r
  induction r with
  | zero => intro j x _; rw [g_X0_findTorn_out, g_X5_pair_out]
  | succ r ih =>
    intro j x hj
    rw [g_X0_findTorn_out, g_X5_pair_out, hP.2.1, pr_in hP hF (show j < 10 by omega) _ _ _ (by have := hP.2.2.2.1.2; omega)]
    simp only [ih (j + 1) _ (by omega)]
    generalize (g_X5_pair_in M i1 j (M 0 2).toNatClampNeg 0 x).1 = o
    cases o <;> rfl
theorem sim_pair (h : REL P F L Y J tx M) (i1 : Int32) : f_X4_pair tx P F i1 = f_X5_pair M i1 := by
  unfold f_X4_pair f_X5_pair f_X0_findTorn
  rw [h.1.1, pr_out h.1 h.2.1 _ _ _ (by have := h.1.2.2.1.2; omega)]
  generalize (g_X5_pair_out M i1 (M 0 1).toNatClampNeg 0 0).1 = o
  cases o <;> rfl
theorem cb_lp (hF : RBf F (M 9) (M 10) (M 12) (M 8)) {i1 : Int32} : ∀ (r j : Nat) (x y : Int32), j + r ≤ 10 → g_X5_total_lp M i1 r j x y = (g_X0_countBound_lp P F r j x, g_X0_sumWages_lp P F r j y) := by
  intro r
  induction r with
  | zero => intro j x y _; rw [g_X0_countBound_lp, g_X0_sumWages_lp, g_X5_total_lp]
  | succ r ih =>
    intro j x y hj
    rw [g_X0_countBound_lp, g_X0_sumWages_lp, g_X5_total_lp, nI_clamp (by omega)]
    by_cases q : M 9 j = -9
    · rw [if_pos q, if_pos ((bd_eq hF (by omega)).mpr q), if_pos ((bd_eq hF (by omega)).mpr q), ih (j + 1) _ _ (by omega), Int32.add_zero, Int32.add_zero]
    · rw [if_neg q, if_neg (fun z => q ((bd_eq hF (by omega)).mp z)), if_neg (fun z => q ((bd_eq hF (by omega)).mp z)), ih (j + 1) _ _ (by omega), (hF.1 j (by omega)).2.2 q]
theorem sim_total (h : REL P F L Y J tx M) (i1 : Int32) : f_X4_total tx P F Y J i1 = f_X5_total M i1 := by
  unfold f_X4_total f_X5_total f_X0_countBound f_X0_sumWages
  rw [cb_lp (P := P) h.2.1 _ _ _ _ (by have := h.1.2.2.1.2; omega), h.1.1, h.1.2.1, h.2.2.2.2.2.2.2.1, h.2.2.2.2.1.1, h.2.2.2.2.2.1]
theorem sv_eq (h : REL P F L Y J tx M) {b : Nat} (hb : b < 10) (hd : ¬ M 0 6 = -9) (i : Int32) : f_X3_servesOn F Y J (nI b) i = f_X5_serves M (nI b) i := by
  unfold f_X3_servesOn f_X5_serves
  rw [nI_clamp (by omega), (h.2.2.2.2.1.2.2.1 b hb).2.1 hd]
  by_cases q : M 9 b = -9
  · rw [if_pos ((bd_eq h.2.1 hb).mpr q), if_pos q]
  · rw [if_neg (fun z => q ((bd_eq h.2.1 hb).mp z)), if_neg q]
theorem hd_lp (h : REL P F L Y J tx M) (hd : ¬ M 0 6 = -9) {i1 i2 : Int32} : ∀ (r j : Nat) (x : Int32), j + r ≤ 10 → g_X4_hands_lp tx P F Y J i1 i2 r j x = g_X5_hands_lp M i1 i2 r j x := by
  intro r
  induction r with
  | zero => intro j x _; rw [g_X4_hands_lp, g_X5_hands_lp]
  | succ r ih =>
    intro j x hj
    rw [g_X4_hands_lp, g_X5_hands_lp, nI_clamp (by omega), (h.1.2.2.2.2.1 j (by omega)).1]
    simp only [sv_eq h (show j < 10 by omega) hd, ih (j + 1) _ (by omega), Int32.add_zero]
theorem sim_hands (h : REL P F L Y J tx M) (i1 i2 : Int32) : f_X4_hands tx P F Y J i1 i2 = f_X5_hands M i1 i2 := by
  unfold f_X4_hands f_X5_hands f_X4_isKind f_X4_isDay
  rw [← w_eq (x := i1) (y := 0) (z := 2) rfl rfl, ← w_eq (x := i2) (y := 0) (z := 363) rfl rfl]
  by_cases q : M 0 6 = -9
  · simp only [(hb0 h).mpr q, q, if_true]
  · rw [if_neg (c := f_X3_hasBegun Y J = 0) (fun z => q ((hb0 h).mp z)), if_neg q, h.1.1, hd_lp h q _ _ _ (by have := h.1.2.2.1.2; omega)]
theorem sn_eq (h : REL P F L Y J tx M) {b : Nat} (hb : b < 10) : f_X3_servesNow F Y J (nI b) = 0 ↔ (M 0 6 = -9 ∨ f_X5_serves M (nI b) (M 0 6) = 0) := by
  unfold f_X3_servesNow
  by_cases q : M 0 6 = -9
  · rw [if_pos ((hb0 h).mpr q)]; simp [q]
  · rw [if_neg (fun z => q ((hb0 h).mp z)), h.2.2.2.2.1.1, sv_eq h hb q]
    by_cases q2 : f_X5_serves M (nI b) (M 0 6) = 0 <;> simp [q, q2]
theorem sim_text (h : REL P F L Y J tx M) (i1 : Int32) : (f_X4_text tx i1).1 = (f_X5_text M i1).1 ∧ REL P F L Y J (f_X4_text tx i1).2 (f_X5_text M i1).2 := by
  unfold f_X4_text f_X5_text
  rw [← w_eq (y := 0) (z := 1) rfl rfl]
  by_cases q : f_X4_isWithin i1 0 1 = 0
  · rw [if_pos q, if_pos q]; exact ⟨rfl, h⟩
  · rw [if_neg q, if_neg q]
    exact ⟨h.2.2.2.2.2.1, h.1, h.2.1, h.2.2.1, h.2.2.2.1, h.2.2.2.2.1, rfl, h.2.2.2.2.2.2⟩
theorem sim_days (h : REL P F L Y J tx M) (i1 : Int32) : (f_X4_days tx Y J i1).1 = (f_X5_days M i1).1 ∧ REL P F L (f_X4_days tx Y J i1).2 J tx (f_X5_days M i1).2 := by
  unfold f_X4_days f_X5_days
  rw [← w_eq (y := 1) (z := 363) rfl rfl]
  by_cases q : f_X4_isWithin i1 1 363 = 0
  · rw [if_pos q, if_pos q]; exact ⟨rfl, h⟩
  rw [if_neg q, if_neg q]
  by_cases q2 : M 0 6 = -9
  · rw [if_pos ((hb0 h).mpr q2), if_pos q2]; exact ⟨rfl, h⟩
  rw [if_neg (fun z => q2 ((hb0 h).mp z)), if_neg q2, h.2.2.2.2.1.1]
  by_cases q3 : M 0 6 + i1 ≤ 363
  · rw [if_pos q3, if_pos q3]
    have hk : k_n (M 0 6 + i1) 363 ∧ ¬ (M 0 6 + i1) = -9 := by
      obtain ⟨h1, -⟩ := k_iw (a := 1) (b := 363) rfl rfl (by decide) (by decide) q
      obtain ⟨a, ha, e⟩ := (h.2.2.2.2.1.2.1.resolve_left q2).get
      obtain ⟨b, hb, rfl⟩ := h1.get
      rw [e, nI_add] at q3 ⊢
      rw [show (363 : Int32) = nI 363 from rfl, nI_leI (by omega) (by omega)] at q3
      exact ⟨k_n.mk q3, nI_ne9 (by omega)⟩
    have hy := h.2.2.2.2.1
    refine ⟨rfl, h.1, h.2.1, h.2.2.1, h.2.2.2.1, ⟨rfl, Or.inr hk.1, fun j hj => ⟨fun z => absurd z hk.2, fun _ => (hy.2.2.1 j hj).2.1 q2, (hy.2.2.1 j hj).2.2⟩, hy.2.2.2⟩, h.2.2.2.2.2⟩
  · rw [if_neg q3, if_neg q3]; exact ⟨rfl, h⟩
theorem end_rel (h : REL P F L Y J tx M) {b : Nat} (hb : b < 10) (hd : ¬ M 0 6 = -9) {v : Int32} (hv : k_n (v + 1) 364) {y2 y3 m15 m16 : Nat → Int32} (h2 : ∀ j, j < 10 → y2 j = m15 j) (h3 : ∀ j, j < 10 → y3 j = m16 j) (Y' M' : Nat → Nat → Int32)
    (eY0 : Y' 0 = Y 0) (eY1 : Y' 1 = upd (Y 1) b v) (eY2 : Y' 2 = y2) (eY3 : Y' 3 = y3) (eM : ∀ c, ¬ c = 14 → ¬ c = 15 → ¬ c = 16 → M' c = M c) (e14 : M' 14 = upd (M 14) b v) (e15 : M' 15 = m15) (e16 : M' 16 = m16) : REL P F L Y' J tx M' := by
  have hy := h.2.2.2.2.1
  have e := fun c (h1 : ¬ c = 14) (h2 : ¬ c = 15) (h3 : ¬ c = 16) => eM c h1 h2 h3
  have e0 := eM 0 (by omega) (by omega) (by omega)
  unfold REL RPp RXf RLd RYr
  rw [e0, eM 1 (by omega) (by omega) (by omega), eM 2 (by omega) (by omega) (by omega), eM 3 (by omega) (by omega) (by omega), eM 4 (by omega) (by omega) (by omega), eM 5 (by omega) (by omega) (by omega), eM 6 (by omega) (by omega) (by omega), eM 7 (by omega) (by omega) (by omega), eM 8 (by omega) (by omega) (by omega), eM 9 (by omega) (by omega) (by omega), eM 10 (by omega) (by omega) (by omega), eM 11 (by omega) (by omega) (by omega), eM 12 (by omega) (by omega) (by omega), eM 13 (by omega) (by omega) (by omega), eM 17 (by omega) (by omega) (by omega), eY0, eY1, eY2, eY3, e14, e15, e16]
  refine ⟨h.1, h.2.1, h.2.2.1, h.2.2.2.1, ⟨hy.1, hy.2.1, fun j hj => ⟨fun z => absurd z hd, fun _ => ?_, ?_, h2 j hj, h3 j hj⟩, hy.2.2.2⟩, h.2.2.2.2.2⟩
  · by_cases q : j = b
    · subst q; rw [pk_us, pk_us]
    · rw [pk_un q, pk_un q]; exact (hy.2.2.1 j hj).2.1 hd
  · by_cases q : j = b
    · subst q; rw [pk_us]; exact hv
    · rw [pk_un q]; exact (hy.2.2.1 j hj).2.2.1
theorem sim_warn (h : REL P F L Y J tx M) (i1 : Int32) : (f_X4_warn tx P F Y J i1).1 = (f_X5_warn M i1).1 ∧ REL P F L (f_X4_warn tx P F Y J i1).2 J tx (f_X5_warn M i1).2 := by
  unfold f_X4_warn f_X5_warn
  by_cases q1 : f_X5_noServant M i1 = 0
  · rw [if_neg (fun z => (hs_eq h.1).mp z q1), if_pos q1]
    obtain ⟨b, hb, rfl⟩ := vp_in_of (k_ns h.1.2.2.1 q1) (by omega)
    by_cases q2 : M 0 6 = -9
    · rw [if_pos ((sn_eq h hb).mpr (Or.inl q2)), if_pos q2]; exact ⟨rfl, h⟩
    rw [if_neg q2]
    by_cases q3 : f_X5_serves M (nI b) (M 0 6) = 0
    · rw [if_pos ((sn_eq h hb).mpr (Or.inr q3)), if_pos q3]; exact ⟨rfl, h⟩
    rw [if_neg (fun z => ((sn_eq h hb).mp z).elim q2 q3), if_neg q3]
    have hy := h.2.2.2.2.1
    rw [nI_clamp (by omega), (hy.2.2.1 b hb).2.2.2.1]
    by_cases q4 : M 15 b = 0
    · rw [if_pos q4, if_pos q4]
      unfold f_X3_giveWarning
      rw [nI_clamp (by omega), hy.1]
      obtain ⟨a, ha, e⟩ := (hy.2.1.resolve_left q2).get
      have e27 : (if 363 < M 0 6 + 27 then (363 : Int32) else M 0 6 + 27) = nI (min (a + 27) 363) := by
        rw [e, show (27 : Int32) = nI 27 from rfl, nI_add, show (363 : Int32) = nI 363 from rfl]
        by_cases z : 363 < a + 27
        · rw [if_pos (nI_lt z (by omega)), Nat.min_eq_right (by omega)]
        · rw [if_neg (nI_nlt (by omega) (by omega)), Nat.min_eq_left (by omega)]
      have hv : k_n (nI (min (a + 27) 363) + 1) 364 := by rw [nI_1]; exact k_n.mk (by omega)
      rw [e27]
      have u2 := upd_c (n := b) (v := vp_nar .boolean 1) (fun j hj => (hy.2.2.1 j hj).2.2.2.1)
      have u3 := fun j (hj : j < 10) => (hy.2.2.1 j hj).2.2.2.2
      by_cases q5 : M 0 6 + 27 ≤ 363
      · rw [if_pos q5]
        have e5 : M 0 6 + 27 = nI (min (a + 27) 363) := by
          rw [← e27, if_neg]
          intro z
          rw [Int32.lt_iff_toInt_lt] at z
          rw [Int32.le_iff_toInt_le] at q5
          omega
        rw [e5]
        refine ⟨by show upd (Y 1) b _ b = upd (M 14) b _ b; rw [pk_us, pk_us], ?_⟩
        refine end_rel h hb q2 hv u2 u3 _ _ rfl rfl rfl rfl (fun c h1 h2 h3 => ?_) rfl rfl rfl
        show k_st (k_st M 15 _) 14 _ c = M c
        rw [k_st_ne _ _ h1, k_st_ne _ _ h2]
      · rw [if_neg q5]
        have e5 : (363 : Int32) = nI (min (a + 27) 363) := by
          rw [← e27, if_pos]
          rw [Int32.lt_iff_toInt_lt]
          rw [Int32.le_iff_toInt_le] at q5
          omega
        rw [e5]
        refine ⟨by show upd (Y 1) b _ b = upd (M 14) b _ b; rw [pk_us, pk_us], ?_⟩
        refine end_rel h hb q2 hv u2 u3 _ _ rfl rfl rfl rfl (fun c h1 h2 h3 => ?_) rfl rfl rfl
        show k_st (k_st M 15 _) 14 _ c = M c
        rw [k_st_ne _ _ h1, k_st_ne _ _ h2]
    · rw [if_neg q4, if_neg q4]; exact ⟨rfl, h⟩
  · rw [if_pos ((hs_eq h.1).mpr q1), if_neg q1]; exact ⟨rfl, h⟩
theorem lv_n {d : Int32} (hd : k_n d 363) : k_n ((d - 1) + 1) 364 := by
  rw [Int32.sub_add_cancel]
  exact hd.le (by omega)
theorem sim_run (h : REL P F L Y J tx M) (i1 : Int32) : (f_X4_run tx P F Y J i1).1 = (f_X5_run M i1).1 ∧ REL P F L (f_X4_run tx P F Y J i1).2 J tx (f_X5_run M i1).2 := by
  unfold f_X4_run f_X5_run
  by_cases q1 : f_X5_noServant M i1 = 0
  · rw [if_neg (fun z => (hs_eq h.1).mp z q1), if_pos q1]
    obtain ⟨b, hb, rfl⟩ := vp_in_of (k_ns h.1.2.2.1 q1) (by omega)
    by_cases q2 : M 0 6 = -9
    · rw [if_pos ((sn_eq h hb).mpr (Or.inl q2)), if_pos q2]; exact ⟨rfl, h⟩
    rw [if_neg q2]
    by_cases q3 : f_X5_serves M (nI b) (M 0 6) = 0
    · rw [if_pos ((sn_eq h hb).mpr (Or.inr q3)), if_pos q3]; exact ⟨rfl, h⟩
    rw [if_neg (fun z => ((sn_eq h hb).mp z).elim q2 q3), if_neg q3]
    have hy := h.2.2.2.2.1
    have hv := lv_n (hy.2.1.resolve_left q2)
    rw [nI_clamp (by omega)]
    unfold f_X3_leave
    rw [nI_clamp (by omega)]
    have u2 := fun j (hj : j < 10) => (hy.2.2.1 j hj).2.2.2.1
    by_cases q4 : M 0 5 = 0
    · rw [if_pos (h.2.2.2.2.2.1.trans q4), if_pos q4]
      have u3 := upd_c (n := b) (v := vp_nar .boolean 1) (fun j hj => (hy.2.2.1 j hj).2.2.2.2)
      refine ⟨?_, ?_⟩
      · show upd (Y 1) b (Y 0 0 - 1) b = upd (M 14) b (M 0 6 - 1) b
        rw [pk_us, pk_us, hy.1]
      · show REL P F L (k_st (k_st Y 3 (upd (Y 3) b (vp_nar .boolean 1))) 1 (upd (Y 1) b (Y 0 0 - 1))) J tx (k_st (k_st M 14 (upd (M 14) b (M 0 6 - 1))) 16 (upd (M 16) b (vp_nar .boolean 1)))
        refine end_rel (Y' := k_st (k_st Y 3 (upd (Y 3) b (vp_nar .boolean 1))) 1 (upd (Y 1) b (Y 0 0 - 1))) (M' := k_st (k_st M 14 (upd (M 14) b (M 0 6 - 1))) 16 (upd (M 16) b (vp_nar .boolean 1))) h hb q2 hv u2 u3 rfl ?_ rfl rfl (fun c h1 h2 h3 => ?_) rfl rfl rfl
        · show upd (Y 1) b (Y 0 0 - 1) = _; rw [hy.1]
        · show k_st (k_st M 14 _) 16 _ c = M c
          rw [k_st_ne _ _ h3, k_st_ne _ _ h1]
    · rw [if_neg (fun z => q4 (h.2.2.2.2.2.1.symm.trans z)), if_neg q4]
      have u3 := upd_c (n := b) (v := vp_nar .boolean 0) (fun j hj => (hy.2.2.1 j hj).2.2.2.2)
      refine ⟨?_, ?_⟩
      · show upd (Y 1) b (Y 0 0 - 1) b = upd (M 14) b (M 0 6 - 1) b
        rw [pk_us, pk_us, hy.1]
      · show REL P F L (k_st (k_st Y 3 (upd (Y 3) b (vp_nar .boolean 0))) 1 (upd (Y 1) b (Y 0 0 - 1))) J tx (k_st (k_st M 14 (upd (M 14) b (M 0 6 - 1))) 16 (upd (M 16) b (vp_nar .boolean 0)))
        refine end_rel (Y' := k_st (k_st Y 3 (upd (Y 3) b (vp_nar .boolean 0))) 1 (upd (Y 1) b (Y 0 0 - 1))) (M' := k_st (k_st M 14 (upd (M 14) b (M 0 6 - 1))) 16 (upd (M 16) b (vp_nar .boolean 0))) h hb q2 hv u2 u3 rfl ?_ rfl rfl (fun c h1 h2 h3 => ?_) rfl rfl rfl
        · show upd (Y 1) b (Y 0 0 - 1) = _; rw [hy.1]
        · show k_st (k_st M 14 _) 16 _ c = M c
          rw [k_st_ne _ _ h3, k_st_ne _ _ h1]
  · rw [if_pos ((hs_eq h.1).mpr q1), if_neg q1]; exact ⟨rfl, h⟩
theorem sim_send (h : REL P F L Y J tx M) (i1 : Int32) : (f_X4_send tx P F Y J i1).1 = (f_X5_send M i1).1 ∧ REL P F L (f_X4_send tx P F Y J i1).2 J tx (f_X5_send M i1).2 := by
  unfold f_X4_send f_X5_send
  by_cases q1 : f_X5_noServant M i1 = 0
  · rw [if_neg (fun z => (hs_eq h.1).mp z q1), if_pos q1]
    obtain ⟨b, hb, rfl⟩ := vp_in_of (k_ns h.1.2.2.1 q1) (by omega)
    by_cases q2 : M 0 6 = -9
    · rw [if_pos ((sn_eq h hb).mpr (Or.inl q2)), if_pos q2]; exact ⟨rfl, h⟩
    rw [if_neg q2]
    by_cases q3 : f_X5_serves M (nI b) (M 0 6) = 0
    · rw [if_pos ((sn_eq h hb).mpr (Or.inr q3)), if_pos q3]; exact ⟨rfl, h⟩
    rw [if_neg (fun z => ((sn_eq h hb).mp z).elim q2 q3), if_neg q3]
    have hy := h.2.2.2.2.1
    have hv := lv_n (hy.2.1.resolve_left q2)
    have q9 : ¬ M 9 b = -9 := by have := k_srv q3; rw [nI_clamp (by omega)] at this; exact this
    obtain ⟨a, ha, e9⟩ := vp_in_of ((h.2.1.1 b hb).2.1.in q9) (by omega)
    have e0 : f_X4_isHeldAboveSkill tx P F (nI b) = 0 ↔ ¬ (M 2 b < f_X5_held M (M 9 b) (nI b)) := by
      unfold f_X4_isHeldAboveSkill
      rw [nI_clamp (by omega), (h.2.1.1 b hb).1, if_neg q9, e9, held_eq h.1 ha hb, (h.1.2.2.2.2.1 b hb).2.1]
      exact ite01 Int32.not_lt.symm
    rw [nI_clamp (by omega)]
    by_cases q4 : M 2 b < f_X5_held M (M 9 b) (nI b)
    · rw [if_neg (fun z => e0.mp z q4), if_pos q4]
      unfold f_X3_leave
      rw [nI_clamp (by omega)]
      refine ⟨?_, ?_⟩
      · show upd (Y 1) b (Y 0 0 - 1) b = upd (M 14) b (M 0 6 - 1) b
        rw [pk_us, pk_us, hy.1]
      · refine end_rel h hb q2 hv (fun j hj => (hy.2.2.1 j hj).2.2.2.1) (fun j hj => (hy.2.2.1 j hj).2.2.2.2) _ _ rfl ?_ rfl rfl (fun c h1 h2 h3 => ?_) rfl rfl rfl
        · show upd (Y 1) b (Y 0 0 - 1) = _; rw [hy.1]
        · show k_st M 14 _ c = M c
          rw [k_st_ne _ _ h1]
    · rw [if_pos (e0.mpr q4), if_neg q4]; exact ⟨rfl, h⟩
  · rw [if_pos ((hs_eq h.1).mpr q1), if_neg q1]; exact ⟨rfl, h⟩
end SIM
