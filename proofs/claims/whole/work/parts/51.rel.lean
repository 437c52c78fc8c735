/-! the relation of the class's state and the model's -/
def RPp (P M : Nat → Nat → Int32) : Prop := P 0 0 = M 0 1 ∧ P 0 1 = M 0 2 ∧ k_n (M 0 1) 10 ∧ k_n (M 0 2) 10 ∧
  (∀ j, j < 10 → P 1 j = M 1 j ∧ P 2 j = M 2 j ∧ P 3 j = M 3 j ∧ P 4 j = M 4 j ∧ P 5 j = M 5 j) ∧
  (∀ m, m < 10 → ∀ s, s < 10 → P (8 + m) s = M 6 (10 * m + s)) ∧
  (∀ m, m < 10 → ∀ s, s < 10 → (bt (P 7 m) s = false ↔ M 7 (10 * m + s) = 0))
/-- who is bound to whom, by what wage; whom each asked -/
def RBf (F : Nat → Nat → Int32) (bo wg ha as : Nat → Int32) : Prop :=
  (∀ j, j < 10 → F 1 j = bo j ∧ k_o (bo j) 10 ∧ (¬ bo j = -9 → F 2 j = wg j)) ∧ (∀ j, j < 10 → F 4 j = ha j ∧ k_o (ha j) 10) ∧
  (∀ m, m < 10 → ¬ ha m = -9 → bo (ha m).toNatClampNeg = nI m) ∧ (∀ m, m < 10 → ∀ s, s < 10 → (bt (F 5 m) s = false ↔ as (10 * m + s) = 0))
/-- of the fair itself: what about() and house() tell -/
def RXf (F M : Nat → Nat → Int32) : Prop := (∀ j, j < 10 → (M 9 j = -9 → F 2 j = -9 ∧ F 3 j = -9) ∧ (¬ M 9 j = -9 → F 3 j = M 11 j)) ∧ (∀ m, m < 10 → ∀ i, 10 ≤ i → bt (F 5 m) i = false)
def RLd (L M : Nat → Nat → Int32) : Prop := L 0 0 = M 0 4 ∧ L 1 = M 13 ∧ M 0 4 = nI (cntZ (M 8) 100)
def RYr (Y : Nat → Nat → Int32) (J : Nat → Int64) (M : Nat → Nat → Int32) : Prop := Y 0 0 = M 0 6 ∧ (M 0 6 = -9 ∨ k_n (M 0 6) 363) ∧
  (∀ j, j < 10 → (M 0 6 = -9 → Y 1 j = 363) ∧ (¬ M 0 6 = -9 → Y 1 j = M 14 j) ∧ k_n (Y 1 j + 1) 364 ∧ Y 2 j = M 15 j ∧ Y 3 j = M 16 j) ∧
  (∀ s, s < 10 → ∀ d, d < 364 → (btl (J (6 * s + d / 64)) (d % 64) = false ↔ M 17 (364 * s + d) = 0))
def REL (P F L Y : Nat → Nat → Int32) (J : Nat → Int64) (tx : Int32) (M : Nat → Nat → Int32) : Prop :=
  RPp P M ∧ RBf F (M 9) (M 10) (M 12) (M 8) ∧ RXf F M ∧ RLd L M ∧ RYr Y J M ∧ tx = M 0 5 ∧ M 0 0 = 0 ∧ F 0 0 = M 0 3 ∧ k_n (M 0 3) 240
theorem ite01 {c d : Prop} [Decidable c] (e : c ↔ d) : (if c then (0 : Int32) else 1) = 0 ↔ d := by
  by_cases q : c
  · rw [if_pos q]; exact ⟨fun _ => e.mp q, fun _ => rfl⟩
  · rw [if_neg q]; exact ⟨fun z => absurd z (by decide), fun z => absurd (e.mpr z) q⟩
theorem nI_ne9 {a : Nat} (ha : a < 2 ^ 31) : ¬ nI a = -9 := by
  intro z
  have := congrArg Int32.toInt z
  rw [nI_toInt ha, show (-9 : Int32).toInt = -9 from by decide] at this
  omega
theorem w_eq {x y z : Int32} {y' z' : Int64} (hy : y'.toInt = y.toInt) (hz : z'.toInt = z.toInt) : f_X4_isWithin x y z = f_X5_in x.toInt64 y' z' := by
  unfold f_X4_isWithin f_X5_in
  have e1 : (x < y) ↔ (lg_cmp x.toInt64 y' < 0) := by rw [lg_cmp_lt, Int64.lt_iff_toInt_lt, Int32.toInt_toInt64, Int32.lt_iff_toInt_lt, hy]
  have e2 : (z < x) ↔ (0 < lg_cmp x.toInt64 z') := by rw [lg_cmp_gt, Int64.lt_iff_toInt_lt, Int32.toInt_toInt64, Int32.lt_iff_toInt_lt, hz]
  simp only [e1, e2]
theorem no_eqN {n i : Int32} {b : Nat} (hn : k_n n b) (hb : b ≤ 1000) : (if i < 0 then (0 : Int32) else if n ≤ i then 0 else 1) = 0 ↔ (f_X5_in i.toInt64 0 ((n - 1).toInt64)) = 0 := by
  obtain ⟨a, ha, rfl⟩ := hn.get
  unfold f_X5_in
  have e1 : (lg_cmp i.toInt64 0 < 0) ↔ i < 0 := by rw [lg_cmp_lt, Int64.lt_iff_toInt_lt, Int32.toInt_toInt64, Int32.lt_iff_toInt_lt]; exact Iff.rfl
  have e2 : (0 < lg_cmp i.toInt64 (nI a - 1).toInt64) ↔ nI a ≤ i := by
    rw [lg_cmp_gt, Int64.lt_iff_toInt_lt, Int32.toInt_toInt64, Int32.toInt_toInt64, show (1 : Int32) = nI 1 from rfl, pk_sub_toInt (by omega) (by omega), Int32.le_iff_toInt_le, nI_toInt (by omega)]
    omega
  simp only [e1, e2]
theorem no_eq {n i : Int32} (hn : k_n n 10) : (if i < 0 then (0 : Int32) else if n ≤ i then 0 else 1) = 0 ↔ (f_X5_in i.toInt64 0 ((n - 1).toInt64)) = 0 := no_eqN hn (by omega)
theorem hs_eq {P M : Nat → Nat → Int32} {i : Int32} (h : RPp P M) : (f_X2_hasServant P i = 0) ↔ ¬ (f_X5_noServant M i = 0) := by
  unfold f_X2_hasServant f_X5_noServant
  rw [h.1, no_eq h.2.2.1]
  by_cases q : f_X5_in i.toInt64 0 (M 0 1 - 1).toInt64 = 0 <;> simp [q]
theorem hm_eq {P M : Nat → Nat → Int32} {i : Int32} (h : RPp P M) : (f_X2_hasMaster P i = 0) ↔ ¬ (f_X5_noMaster M i = 0) := by
  unfold f_X2_hasMaster f_X5_noMaster
  rw [h.2.1, no_eq h.2.2.2.1]
  by_cases q : f_X5_in i.toInt64 0 (M 0 2 - 1).toInt64 = 0 <;> simp [q]
theorem hb_eq {P M : Nat → Nat → Int32} {i j : Int32} (h : RPp P M) : (f_X2_hasBoth P i j = 0) ↔ ¬ (f_X5_noMaster M i = 0 ∧ f_X5_noServant M j = 0) := by
  unfold f_X2_hasBoth
  by_cases q1 : f_X5_noMaster M i = 0 <;> by_cases q2 : f_X5_noServant M j = 0 <;> simp [hm_eq h, hs_eq h, q1, q2]
theorem held_eq {P M : Nat → Nat → Int32} {a b : Nat} (h : RPp P M) (ha : a < 10) (hb : b < 10) : f_X2_heldFor P (nI a) (nI b) = f_X5_held M (nI a) (nI b) := by
  unfold f_X2_heldFor f_X5_held
  rw [k_ix10 (vp_in_nI ha (by omega)) (vp_in_nI hb (by omega)), nI_clamp (by omega), nI_clamp (by omega), h.2.2.2.2.2.1 a ha b hb]
theorem ix10 {a b : Nat} (ha : a < 10) (hb : b < 10) : ((10 * nI a) + nI b).toNatClampNeg = 10 * a + b := by
  rw [k_ix10 (vp_in_nI ha (by omega)) (vp_in_nI hb (by omega)), nI_clamp (by omega), nI_clamp (by omega)]
theorem bar_eq {P M : Nat → Nat → Int32} {a b : Nat} (h : RPp P M) (ha : a < 10) (hb : b < 10) : f_X2_isBarred P (nI a) (nI b) = 0 ↔ M 7 (10 * a + b) = 0 := by
  unfold f_X2_isBarred
  rw [nI_clamp (by omega)]
  exact ite01 ((bt_test hb).trans (h.2.2.2.2.2.2 a ha b hb))
theorem offer_eq {P M : Nat → Nat → Int32} {a b : Nat} (h : RPp P M) (ha : a < 10) (hb : b < 10) : f_X2_offerTo P (nI a) (nI b) = f_X5_offerOf M (nI a) (nI b) := by
  unfold f_X2_offerTo f_X5_offerOf
  simp only [bar_eq h ha hb, held_eq h ha hb, ix10 ha hb]
  rw [nI_clamp (by omega), nI_clamp (by omega), (h.2.2.2.2.1 a ha).2.2.2.1, (h.2.2.2.2.1 b hb).1, (h.2.2.2.2.1 b hb).2.2.1, (h.2.2.2.2.1 a ha).2.2.2.2]
theorem lik_eq {P M : Nat → Nat → Int32} {a b : Nat} {w : Int32} (h : RPp P M) (ha : a < 10) (hb : b < 10) : f_X2_likingAt P (nI a) (nI b) w = (10 * f_X5_held M (nI a) (nI b)) - w := by
  unfold f_X2_likingAt
  rw [held_eq h ha hb]
theorem ask_eq {F : Nat → Nat → Int32} {bo wg ha as : Nat → Int32} {a b : Nat} (h : RBf F bo wg ha as) (h1 : a < 10) (h2 : b < 10) : f_X0_hasAsked F (nI a) (nI b) = 0 ↔ as (10 * a + b) = 0 := by
  unfold f_X0_hasAsked
  rw [nI_clamp (by omega)]
  exact ite01 ((bt_test h2).trans (h.2.2.2 a h1 b h2))
theorem next_lp {P M F : Nat → Nat → Int32} {bo wg ha : Nat → Int32} {a : Nat} (h : RPp P M) (hF : RBf F bo wg ha (M 8)) (h1 : a < 10) : ∀ (r j : Nat) (x y : Int32), j + r ≤ 10 → g_X0_choiceOf_lp P F (nI a) r j x y = g_X5_nextOf_lp M (nI a) r j x y := by
  intro r
  induction r with
  | zero => intro j x y _; rw [g_X0_choiceOf_lp, g_X5_nextOf_lp]
  | succ r ih =>
    intro j x y hj
    rw [g_X0_choiceOf_lp, g_X5_nextOf_lp]
    simp only [offer_eq h h1 (show j < 10 by omega), lik_eq h h1 (show j < 10 by omega), ask_eq hF h1 (show j < 10 by omega), ix10 h1 (show j < 10 by omega), ih (j + 1) _ _ (by omega)]
theorem next_eq {P M F : Nat → Nat → Int32} {bo wg ha : Nat → Int32} {a : Nat} (h : RPp P M) (hF : RBf F bo wg ha (M 8)) (h1 : a < 10) : f_X0_choiceOf P F (nI a) = f_X5_nextOf M (nI a) := by
  unfold f_X0_choiceOf f_X5_nextOf
  rw [h.1, next_lp h hF h1 _ _ _ _ (by have := h.2.2.1.2; omega)]
theorem next_t_lp {P M F : Nat → Nat → Int32} {bo wg ha : Nat → Int32} {a : Nat} (h : RPp P M) (hF : RBf F bo wg ha (M 18)) (h1 : a < 10) : ∀ (r j : Nat) (x y : Int32), j + r ≤ 10 → g_X0_choiceOf_lp P F (nI a) r j x y = g_X5_nextOf_t_lp M (nI a) r j x y := by
  intro r
  induction r with
  | zero => intro j x y _; rw [g_X0_choiceOf_lp, g_X5_nextOf_t_lp]
  | succ r ih =>
    intro j x y hj
    rw [g_X0_choiceOf_lp, g_X5_nextOf_t_lp]
    simp only [offer_eq h h1 (show j < 10 by omega), lik_eq h h1 (show j < 10 by omega), ask_eq hF h1 (show j < 10 by omega), ix10 h1 (show j < 10 by omega), ih (j + 1) _ _ (by omega)]
theorem next_t_eq {P M F : Nat → Nat → Int32} {bo wg ha : Nat → Int32} {a : Nat} (h : RPp P M) (hF : RBf F bo wg ha (M 18)) (h1 : a < 10) : f_X0_choiceOf P F (nI a) = f_X5_nextOf_t M (nI a) := by
  unfold f_X0_choiceOf f_X5_nextOf_t
  rw [h.1, next_t_lp h hF h1 _ _ _ _ (by have := h.2.2.1.2; omega)]
theorem bd_eq {F : Nat → Nat → Int32} {bo wg ha as : Nat → Int32} {b : Nat} (h : RBf F bo wg ha as) (h2 : b < 10) : f_X0_isBound F (nI b) = 0 ↔ bo b = -9 := by
  unfold f_X0_isBound
  rw [nI_clamp (by omega), (h.1 b h2).1]
  by_cases q : bo b = -9 <;> simp [q]
theorem wr_eq {P M F : Nat → Nat → Int32} {bo wg ha as : Nat → Int32} {a b : Nat} {w : Int32} (h : RPp P M) (hF : RBf F bo wg ha as) (h1 : a < 10) (h2 : b < 10) : f_X0_wouldRather P F (nI a) (nI b) w = 0 ↔ ¬ (ha a = -9 ∨ ¬ ((10 * f_X5_held M (nI a) (nI b)) - w ≤ (10 * f_X5_held M (nI a) (ha a)) - wg (ha a).toNatClampNeg)) := by
  unfold f_X0_wouldRather
  rw [nI_clamp (by omega), (hF.2.1 a h1).1]
  by_cases q : ha a = -9
  · simp [q]
  · obtain ⟨s, hs, e⟩ := vp_in_of ((hF.2.1 a h1).2.in q) (by omega)
    have hb := hF.2.2.1 a h1 q
    rw [e, nI_clamp (by omega)] at hb
    have hne : ¬ bo s = -9 := by rw [hb]; exact nI_ne9 (by omega)
    rw [e, nI_clamp (by omega), (hF.1 s hs).2.2 hne, lik_eq h h1 h2, lik_eq h h1 hs]
    have q2 : ¬ nI s = -9 := by rw [← e]; exact q
    simp [q2]
theorem torn_eq {P M F : Nat → Nat → Int32} {a b : Nat} (h : RPp P M) (hF : RBf F (M 9) (M 10) (M 12) (M 8)) (h1 : a < 10) (h2 : b < 10) : f_X0_isTorn P F (nI b) (nI a) = f_X5_isTorn M (nI b) (nI a) := by
  unfold f_X0_isTorn f_X5_isTorn
  simp only [offer_eq h h1 h2, bd_eq hF h2, wr_eq h hF h1 h2]
  rw [nI_clamp (show b < 2 ^ 31 by omega), nI_clamp (show a < 2 ^ 31 by omega), (hF.1 b h2).1]
  by_cases q1 : f_X5_offerOf M (nI a) (nI b) = -9
  · simp [q1]
  by_cases q2 : M 9 b = nI a
  · simp [q1, q2]
  by_cases q3 : M 9 b = -9
  · by_cases q4 : M 12 a = -9 <;> simp [q1, q2, q3, q4]
  · rw [(hF.1 b h2).2.2 q3]
    by_cases q5 : f_X5_offerOf M (nI a) (nI b) ≤ M 10 b <;> by_cases q4 : M 12 a = -9 <;> simp [q1, q2, q3, q4, q5]
theorem torn_t_eq {P M F : Nat → Nat → Int32} {a b : Nat} (h : RPp P M) (hF : RBf F (M 19) (M 20) (M 21) (M 18)) (h1 : a < 10) (h2 : b < 10) : f_X0_isTorn P F (nI b) (nI a) = f_X5_isTorn_t M (nI b) (nI a) := by
  unfold f_X0_isTorn f_X5_isTorn_t
  simp only [offer_eq h h1 h2, bd_eq hF h2, wr_eq h hF h1 h2]
  rw [nI_clamp (show b < 2 ^ 31 by omega), nI_clamp (show a < 2 ^ 31 by omega), (hF.1 b h2).1]
  by_cases q1 : f_X5_offerOf M (nI a) (nI b) = -9
  · simp [q1]
  by_cases q2 : M 19 b = nI a
  · simp [q1, q2]
  by_cases q3 : M 19 b = -9
  · by_cases q4 : M 21 a = -9 <;> simp [q1, q2, q3, q4]
  · rw [(hF.1 b h2).2.2 q3]
    by_cases q5 : f_X5_offerOf M (nI a) (nI b) ≤ M 20 b <;> by_cases q4 : M 21 a = -9 <;> simp [q1, q2, q3, q4, q5]
