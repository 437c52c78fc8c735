/-! sickness and wages; whom a master asked -/
section SIM
variable {P F L Y : Nat → Nat → Int32} {J : Nat → Int64} {tx : Int32} {M : Nat → Nat → Int32}
theorem ix364 {s d : Nat} (hs : s < 10) (hd : d < 364) : ((364 * nI s) + nI d).toNatClampNeg = 364 * s + d := by
  rw [show (364 : Int32) = nI 364 from rfl, pk_mul, nI_add, nI_clamp (by omega)]
/-- how many of the days j .. j + r - 1 are sick, by the model -/
def sk_n (m17 : Nat → Int32) (s : Nat) : Nat → Nat → Nat
  | 0, _ => 0
  | r + 1, j => (if m17 (364 * s + j) = 0 then 0 else 1) + sk_n m17 s r (j + 1)
theorem sk_le (m17 : Nat → Int32) (s : Nat) : ∀ r j, sk_n m17 s r j ≤ r
  | 0, _ => Nat.le_refl _
  | r + 1, j => by
    rw [sk_n]
    have := sk_le m17 s r (j + 1)
    split <;> omega
theorem cs_lp {m17 : Nat → Int32} {b : Nat} {i2 : Int32} (hb : b < 10) (h : ∀ d, d < 364 → (btl (J (6 * b + d / 64)) (d % 64) = false ↔ m17 (364 * b + d) = 0)) : ∀ (r j : Nat) (x : Int32), j + r ≤ 364 → g_X3_countSick_lp Y J (nI b) i2 r j x = x + nI (sk_n m17 b r j) := by
  intro r
  induction r with
  | zero => intro j x _; rw [g_X3_countSick_lp, sk_n, nI_0, Int32.add_zero]
  | succ r ih =>
    intro j x hj
    rw [g_X3_countSick_lp, sk_n, k_wordn hb (by omega)]
    have e := (day_test (x := J (6 * b + j / 64)) (show j < 364 by omega)).trans (h j (by omega))
    by_cases q : m17 (364 * b + j) = 0
    · rw [if_pos (e.mpr q), if_pos q, ih (j + 1) _ (by omega), Nat.zero_add]
    · rw [if_neg (fun z => q (e.mp z)), if_neg q, ih (j + 1) _ (by omega), Int32.add_assoc, show (1 : Int32) = nI 1 from rfl, nI_add]
theorem du_lp {b : Nat} {i2 : Int32} (hb : b < 10) : ∀ (r j : Nat) (x : Int32), j + r ≤ 364 → ∀ n : Nat, (∀ t, t < n → t < r → ¬ M 14 b < nI (j + t)) → (n < r → M 14 b < nI (j + n)) → g_X5_dueOf_lp M (nI b) i2 r j x = x + nI (2 * (min n r) - sk_n (M 17) b (min n r) j) := by
  intro r
  induction r with
  | zero => intro j x _ n _ _; rw [g_X5_dueOf_lp, Nat.min_zero, sk_n, nI_0, Int32.add_zero]
  | succ r ih =>
    intro j x hj n h1 h2
    rw [g_X5_dueOf_lp, nI_clamp (by omega), ix364 hb (by omega)]
    match n, h1, h2 with
    | 0, h1, h2 =>
      have := h2 (by omega)
      rw [Nat.add_zero] at this
      rw [if_pos this, Nat.zero_min, sk_n, nI_0, Int32.add_zero]
    | n + 1, h1, h2 =>
      have q0 := h1 0 (by omega) (by omega)
      rw [Nat.add_zero] at q0
      rw [if_neg q0]
      have a1 : ∀ t, t < n → t < r → ¬ M 14 b < nI (j + 1 + t) := fun t h3 h4 => by
        have := h1 (t + 1) (by omega) (by omega)
        rw [show j + (t + 1) = j + 1 + t by omega] at this
        exact this
      have a2 : n < r → M 14 b < nI (j + 1 + n) := fun h3 => by
        have := h2 (by omega)
        rw [show j + (n + 1) = j + 1 + n by omega] at this
        exact this
      have hm : min (n + 1) (r + 1) = min n r + 1 := by omega
      have hle := sk_le (M 17) b (min n r) (j + 1)
      rw [hm, sk_n]
      by_cases q : M 17 (364 * b + j) = 0
      · rw [if_pos q, ih (j + 1) _ (by omega) n a1 a2, if_pos q, Int32.add_assoc, show (2 : Int32) = nI 2 from rfl, nI_add]
        congr 2
        omega
      · rw [if_neg q, ih (j + 1) _ (by omega) n a1 a2, if_neg q, Int32.add_assoc, show (1 : Int32) = nI 1 from rfl, nI_add]
        congr 2
        omega
theorem wd_eq (h : REL P F L Y J tx M) {b : Nat} {i2 : Int32} (hb : b < 10) (hd : ¬ M 0 6 = -9) (h9 : ¬ M 9 b = -9) (h2 : k_n (i2 + 1) 364) : f_X3_wagesDue F Y J (nI b) i2 = f_X5_dueOf M (nI b) i2 := by
  have hy := h.2.2.2.2.1
  have hyb := hy.2.2.1 b hb
  unfold f_X3_wagesDue f_X5_dueOf
  rw [nI_clamp (by omega), hyb.2.2.2.2, (h.2.1.1 b hb).2.2 h9, hyb.2.1 hd]
  by_cases q : M 16 b = 0
  · rw [if_pos q, if_pos q]
    have he : k_n (M 14 b + 1) 364 := by rw [← hyb.2.1 hd]; exact hyb.2.2.1
    have hl := k_min1 h2 he
    generalize hla : (if M 14 b < i2 then M 14 b else i2) = la at hl ⊢
    obtain ⟨n, hn, en⟩ := hl.get
    obtain ⟨c, hc, ec⟩ := h2.get
    obtain ⟨d, hd2, ed⟩ := he.get
    have elt : M 14 b < i2 ↔ d < c := by
      have e1 : M 14 b = nI d - nI 1 := by rw [← ed]; simp [nI]
      have e2 : i2 = nI c - nI 1 := by rw [← ec]; simp [nI]
      rw [e1, e2, Int32.lt_iff_toInt_lt, pk_sub_toInt (by omega) (by omega), pk_sub_toInt (by omega) (by omega)]
      omega
    have hnm : n = min d c := by
      have : nI n = nI (min d c) := by
        rw [← en, ← hla]
        by_cases z : M 14 b < i2
        · rw [if_pos z, ed, Nat.min_eq_left (by have := elt.mp z; omega)]
        · rw [if_neg z, ec, Nat.min_eq_right (Nat.le_of_not_lt fun w => z (elt.mpr w))]
      exact (nI_eq (by omega) (by omega)).mp this
    have es : f_X3_countSick Y J (nI b) la = nI (sk_n (M 17) b n 0) := by
      unfold f_X3_countSick
      rw [cs_lp hb (fun d hd => hy.2.2.2 b hb d hd) _ _ _ (by rw [en, nI_clamp (by omega)]; omega), en, nI_clamp (by omega), Int32.zero_add]
    have ed2 : g_X5_dueOf_lp M (nI b) i2 (i2 + 1).toNatClampNeg 0 0 = nI (2 * n - sk_n (M 17) b n 0) := by
      rw [ec, nI_clamp (by omega), du_lp hb c 0 0 (by omega) d, hnm, Int32.zero_add]
      · intro t h3 h4
        rw [Nat.zero_add]
        exact k_ngt he (by omega) (by rw [ed, nI_clamp (by omega)]; exact h3)
      · intro h3
        rw [Nat.zero_add]
        exact k_gt he (by omega) (by rw [ed, nI_clamp (by omega)]; omega) (by omega)
    have hle := sk_le (M 17) b n 0
    rw [es, ed2, en, show (2 : Int32) = nI 2 from rfl, pk_mul, pk_sub (by omega)]
  · rw [if_neg q, if_neg q]
theorem sim_due (h : REL P F L Y J tx M) (i1 i2 : Int32) : f_X4_due tx P F Y J i1 i2 = f_X5_due M i1 i2 := by
  unfold f_X4_due f_X5_due f_X4_isDay
  rw [← w_eq (x := i2) (y := 0) (z := 363) rfl rfl]
  by_cases q1 : f_X5_noServant M i1 = 0
  · rw [if_neg (fun z => (hs_eq h.1).mp z q1), if_pos q1]
    obtain ⟨b, hb, rfl⟩ := vp_in_of (k_ns h.1.2.2.1 q1) (by omega)
    by_cases q2 : f_X4_isWithin i2 0 363 = 0
    · rw [if_pos q2, if_pos q2]
    rw [if_neg q2, if_neg q2]
    by_cases q3 : M 0 6 = -9
    · rw [if_pos ((hb0 h).mpr q3), if_pos q3]
    rw [if_neg (fun z => q3 ((hb0 h).mp z)), if_neg q3, nI_clamp (by omega)]
    by_cases q4 : M 9 b = -9
    · rw [if_pos ((bd_eq h.2.1 hb).mpr q4), if_pos q4]
    · rw [if_neg (fun z => q4 ((bd_eq h.2.1 hb).mp z)), if_neg q4]
      exact wd_eq h hb q3 q4 (k_dy q2)
  · rw [if_pos ((hs_eq h.1).mpr q1), if_neg q1]
theorem sim_owes (h : REL P F L Y J tx M) (i1 i2 : Int32) : f_X4_owes tx P F Y J i1 i2 = f_X5_owes M i1 i2 := by
  unfold f_X4_owes f_X5_owes f_X4_isDay
  rw [← w_eq (x := i2) (y := 0) (z := 363) rfl rfl]
  by_cases q1 : f_X5_noMaster M i1 = 0
  · rw [if_neg (fun z => (hm_eq h.1).mp z q1), if_pos q1]
    obtain ⟨a, ha, rfl⟩ := vp_in_of (k_nm h.1.2.2.2.1 q1) (by omega)
    by_cases q2 : f_X4_isWithin i2 0 363 = 0
    · rw [if_pos q2, if_pos q2]
    rw [if_neg q2, if_neg q2]
    by_cases q3 : M 0 6 = -9
    · rw [if_pos ((hb0 h).mpr q3), if_pos q3]
    rw [if_neg (fun z => q3 ((hb0 h).mp z)), if_neg q3, nI_clamp (by omega), (h.2.1.2.1 a ha).1]
    by_cases q4 : M 12 a = -9
    · rw [if_pos q4, if_pos q4]
    · rw [if_neg q4, if_neg q4]
      obtain ⟨s, hs, e⟩ := vp_in_of ((h.2.1.2.1 a ha).2.in q4) (by omega)
      have hbo := h.2.1.2.2.1 a ha q4
      rw [e, nI_clamp (by omega)] at hbo
      rw [e]
      exact wd_eq h hs q3 (by rw [hbo]; exact nI_ne9 (by omega)) (k_dy q2)
  · rw [if_pos ((hm_eq h.1).mpr q1), if_neg q1]
end SIM
