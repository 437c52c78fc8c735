section SIM
variable {P F L Y : Nat → Nat → Int32} {J : Nat → Int64} {tx : Int32} {M : Nat → Nat → Int32}
theorem vz0 : vp_nar .boolean 0 = 0 := by decide
theorem vz1 : vp_nar .boolean 1 = 1 := by decide
theorem one_ne : ¬ (1 : Int32) = 0 := by decide
theorem fs_lp {b : Nat} {i2 la : Int32} (hb : b < 10) : ∀ (r j : Nat) (J : Nat → Int64), j + r ≤ 364 → ∀ s, s < 10 → ∀ d, d < 364 → btl (g_X3_fallSick_lp Y (nI b) i2 la r j J (6 * s + d / 64)) (d % 64) = (btl (J (6 * s + d / 64)) (d % 64) || decide (s = b ∧ j ≤ d ∧ d < j + r)) := by
  intro r
  induction r with
  | zero =>
    intro j J _ s hs d hd
    rw [g_X3_fallSick_lp, decide_eq_false (by omega), Bool.or_false]
  | succ r ih =>
    intro j J hj s hs d hd
    rw [g_X3_fallSick_lp, ih (j + 1) _ (by omega) s hs d hd, k_wordn hb (by omega)]
    by_cases e : 6 * s + d / 64 = 6 * b + j / 64
    · have es : s = b := by omega
      subst es
      rw [e, pk_uLs, btl_or, day_one (by omega)]
      by_cases e2 : j % 64 = d % 64
      · have ed : d = j := by omega
        subst ed
        simp
      · have e3 : (j ≤ d ∧ d < j + (r + 1)) ↔ (j + 1 ≤ d ∧ d < j + 1 + r) := by
          constructor
          · intro z; refine ⟨?_, by omega⟩; have : d ≠ j := fun q => e2 (by rw [q]); omega
          · intro z; exact ⟨by omega, by omega⟩
        simp only [e2, decide_false, Bool.or_false, true_and, e3]
    · rw [pk_uLn e]
      have e3 : (s = b ∧ j ≤ d ∧ d < j + (r + 1)) ↔ (s = b ∧ j + 1 ≤ d ∧ d < j + 1 + r) := by
        constructor
        · intro z; refine ⟨z.1, ?_, by omega⟩; have : d ≠ j := fun q => e (by rw [z.1, q]); omega
        · intro z; exact ⟨z.1, by omega, by omega⟩
      simp only [e3]
theorem si_step {b dd n : Nat} (hb : b < 10) (hdd : dd ≤ 363) (hn : n ≤ 363) {r j : Nat} {a : Int32} {M : Nat → Nat → Int32} (hj : j < 364) (h6 : M 0 6 = nI dd) : g_X5_sick_lp (nI b) (nI n) (r + 1) j a M = (if M 17 (364 * b + j) = 0 ∧ ¬ (dd ≤ j ∧ j < dd + n) then g_X5_sick_lp (nI b) (nI n) r (j + 1) a (k_st M 17 (upd (M 17) (364 * b + j) 0)) else g_X5_sick_lp (nI b) (nI n) r (j + 1) (a + 1) (k_st M 17 (upd (M 17) (364 * b + j) 1))) := by
  have e1 : nI j < M 0 6 ↔ j < dd := by rw [h6, nI_ltI (by omega) (by omega)]
  have e2 : M 0 6 + nI n ≤ nI j ↔ dd + n ≤ j := by rw [h6, nI_add, nI_leI (by omega) (by omega)]
  rw [g_X5_sick_lp]
  simp only [pk_us, vz0, vz1, one_ne, ix364 hb hj, e1, e2, if_true, if_false, Int32.add_zero]
  by_cases q : M 17 (364 * b + j) = 0
  · by_cases q1 : j < dd
    · rw [if_pos q, if_pos q1, if_pos ⟨q, by omega⟩]
    · by_cases q2 : dd + n ≤ j
      · rw [if_pos q, if_neg q1, if_pos q2, if_pos ⟨q, by omega⟩]
      · rw [if_pos q, if_neg q1, if_neg q2, if_neg (by omega)]
  · rw [if_neg q, if_neg (fun z => q z.1)]
theorem si_lp {b dd n : Nat} (hb : b < 10) (hdd : dd ≤ 363) (hn : n ≤ 363) : ∀ (r j : Nat) (a : Int32) (M : Nat → Nat → Int32), M 0 6 = nI dd → j + r ≤ 364 →
    (∀ c, ¬ c = 17 → (g_X5_sick_lp (nI b) (nI n) r j a M).2 c = M c) ∧ (∀ x, (∀ d, j ≤ d → d < j + r → ¬ x = 364 * b + d) → (g_X5_sick_lp (nI b) (nI n) r j a M).2 17 x = M 17 x) ∧
    (∀ d, j ≤ d → d < j + r → ((g_X5_sick_lp (nI b) (nI n) r j a M).2 17 (364 * b + d) = 0 ↔ M 17 (364 * b + d) = 0 ∧ ¬ (dd ≤ d ∧ d < dd + n))) ∧
    (g_X5_sick_lp (nI b) (nI n) r j a M).1 = a + nI (sk_n ((g_X5_sick_lp (nI b) (nI n) r j a M).2 17) b r j) := by
  intro r
  induction r with
  | zero =>
    intro j a M _ _
    rw [g_X5_sick_lp, sk_n, nI_0, Int32.add_zero]
    exact ⟨fun _ _ => rfl, fun _ _ => rfl, fun d h1 h2 => absurd h2 (by omega), rfl⟩
  | succ r ih =>
    intro j a M h6 hj
    have step : ∀ (v : Int32) (a2 : Int32), (v = 0 ↔ M 17 (364 * b + j) = 0 ∧ ¬ (dd ≤ j ∧ j < dd + n)) → a2 = a + (if v = 0 then 0 else 1) → ∀ z, z = g_X5_sick_lp (nI b) (nI n) r (j + 1) a2 (k_st M 17 (upd (M 17) (364 * b + j) v)) →
        (∀ c, ¬ c = 17 → z.2 c = M c) ∧ (∀ x, (∀ d, j ≤ d → d < j + (r + 1) → ¬ x = 364 * b + d) → z.2 17 x = M 17 x) ∧ (∀ d, j ≤ d → d < j + (r + 1) → (z.2 17 (364 * b + d) = 0 ↔ M 17 (364 * b + d) = 0 ∧ ¬ (dd ≤ d ∧ d < dd + n))) ∧ z.1 = a + nI (sk_n (z.2 17) b (r + 1) j) := by
      intro v a2 hv ha2 z hz
      obtain ⟨i1, i2, i3, i4⟩ := ih (j + 1) a2 (k_st M 17 (upd (M 17) (364 * b + j) v)) h6 (by omega)
      rw [← hz] at i1 i2 i3 i4
      have hjj : z.2 17 (364 * b + j) = v := by
        rw [i2 _ (fun d h1 h2 => by omega)]
        show upd (M 17) (364 * b + j) v (364 * b + j) = v
        rw [pk_us]
      refine ⟨fun c hc => by rw [i1 c hc, k_st_ne _ _ hc], fun x hx => ?_, fun d h1 h2 => ?_, ?_⟩
      · rw [i2 x (fun d h1 h2 => hx d (by omega) (by omega))]
        show upd (M 17) (364 * b + j) v x = M 17 x
        rw [pk_un (hx j (by omega) (by omega))]
      · by_cases e : d = j
        · subst e; rw [hjj]; exact hv
        · rw [i3 d (by omega) (by omega)]
          show upd (M 17) (364 * b + j) v (364 * b + d) = 0 ∧ _ ↔ _
          rw [pk_un (by omega)]
      · rw [i4, ha2, sk_n, hjj]
        by_cases e : v = 0
        · rw [if_pos e, if_pos e, Int32.add_zero, Nat.zero_add]
        · rw [if_neg e, if_neg e, Int32.add_assoc, show (1 : Int32) = nI 1 from rfl, nI_add]
    rw [si_step hb hdd hn (by omega) h6]
    by_cases q : M 17 (364 * b + j) = 0 ∧ ¬ (dd ≤ j ∧ j < dd + n)
    · rw [if_pos q]
      exact step 0 a ⟨fun _ => q, fun _ => rfl⟩ (by rw [if_pos rfl, Int32.add_zero]) _ rfl
    · rw [if_neg q]
      exact step 1 (a + 1) ⟨fun z => absurd z one_ne, fun z => absurd z q⟩ (by rw [if_neg one_ne]) _ rfl
theorem sim_sick (h : REL P F L Y J tx M) (i1 i2 : Int32) : (f_X4_sick tx P F Y J i1 i2).1 = (f_X5_sick M i1 i2).1 ∧ REL P F L Y (f_X4_sick tx P F Y J i1 i2).2 tx (f_X5_sick M i1 i2).2 := by
  unfold f_X4_sick f_X5_sick
  rw [← w_eq (x := i2) (y := 1) (z := 363) rfl rfl]
  by_cases q1 : f_X5_noServant M i1 = 0
  · rw [if_neg (fun z => (hs_eq h.1).mp z q1), if_pos q1]
    obtain ⟨b, hb, rfl⟩ := vp_in_of (k_ns h.1.2.2.1 q1) (by omega)
    by_cases q2 : f_X4_isWithin i2 1 363 = 0
    · rw [if_pos q2, if_pos q2]; exact ⟨rfl, h⟩
    rw [if_neg q2, if_neg q2]
    by_cases q3 : M 0 6 = -9
    · rw [if_pos ((sn_eq h hb).mpr (Or.inl q3)), if_pos q3]; exact ⟨rfl, h⟩
    rw [if_neg q3]
    by_cases q4 : f_X5_serves M (nI b) (M 0 6) = 0
    · rw [if_pos ((sn_eq h hb).mpr (Or.inr q4)), if_pos q4]; exact ⟨rfl, h⟩
    rw [if_neg (fun z => ((sn_eq h hb).mp z).elim q3 q4), if_neg q4]
    have hy := h.2.2.2.2.1
    obtain ⟨dd, hdd, e6⟩ := (hy.2.1.resolve_left q3).get
    obtain ⟨hk, h1⟩ := k_iw (a := 1) (b := 363) rfl rfl (by decide) (by decide) q2
    obtain ⟨n, hn, rfl⟩ := hk.get
    rw [nI_clamp (by omega)] at h1
    have efs : f_X3_fallSick Y J (nI b) (nI n) = g_X3_fallSick_lp Y (nI b) (nI n) (nI (min (dd + n - 1) 363)) (min (dd + n) 364 - dd) dd J := by
      unfold f_X3_fallSick
      have e1 : (if 363 < ((Y 0 0) + nI n) - 1 then (363 : Int32) else ((Y 0 0) + nI n) - 1) = nI (min (dd + n - 1) 363) := by
        rw [hy.1, e6, nI_add, show (1 : Int32) = nI 1 from rfl, pk_sub (by omega), show (363 : Int32) = nI 363 from rfl]
        by_cases z : 363 < dd + n - 1
        · rw [if_pos (nI_lt z (by omega)), Nat.min_eq_right (by omega)]
        · rw [if_neg (nI_nlt (by omega) (by omega)), Nat.min_eq_left (by omega)]
      rw [e1, hy.1, e6, nI_1, nI_clamp (by omega), nI_clamp (by omega), show min (dd + n - 1) 363 + 1 = min (dd + n) 364 by omega]
    obtain ⟨i1, i2, i3, i4⟩ := si_lp hb hdd hn 364 0 0 M e6 (by omega)
    generalize hz : g_X5_sick_lp (nI b) (nI n) 364 0 0 M = z at i1 i2 i3 i4
    have hbit : ∀ s, s < 10 → ∀ d, d < 364 → (btl (f_X3_fallSick Y J (nI b) (nI n) (6 * s + d / 64)) (d % 64) = false ↔ z.2 17 (364 * s + d) = 0) := by
      intro s hs d hd
      rw [efs, fs_lp hb _ _ _ (by omega) s hs d hd, Bool.or_eq_false_iff, hy.2.2.2 s hs d hd, decide_eq_false_iff_not]
      by_cases es : s = b
      · subst es
        rw [i3 d (by omega) (by omega)]
        constructor
        · rintro ⟨a1, a2⟩; exact ⟨a1, fun w => a2 ⟨rfl, by omega, by omega⟩⟩
        · rintro ⟨a1, a2⟩; exact ⟨a1, fun w => a2 ⟨by omega, by omega⟩⟩
      · rw [i2 _ (fun d2 h3 h4 => by omega)]
        exact ⟨fun w => w.1, fun w => ⟨w, fun v => es v.1⟩⟩
    refine ⟨?_, ?_⟩
    · show f_X3_countSick Y (f_X3_fallSick Y J (nI b) (nI n)) (nI b) 363 = z.1
      unfold f_X3_countSick
      rw [show ((363 : Int32) + 1).toNatClampNeg = 364 from by decide, cs_lp hb (fun d hd => hbit b hb d hd) _ _ _ (by omega), i4]
    · show REL P F L Y (f_X3_fallSick Y J (nI b) (nI n)) tx z.2
      unfold REL RPp RXf RLd RYr
      rw [i1 0 (by omega), i1 1 (by omega), i1 2 (by omega), i1 3 (by omega), i1 4 (by omega), i1 5 (by omega), i1 6 (by omega), i1 7 (by omega), i1 8 (by omega), i1 9 (by omega), i1 10 (by omega), i1 11 (by omega), i1 12 (by omega), i1 13 (by omega), i1 14 (by omega), i1 15 (by omega), i1 16 (by omega)]
      exact ⟨h.1, h.2.1, h.2.2.1, h.2.2.2.1, ⟨hy.1, hy.2.1, hy.2.2.1, hbit⟩, h.2.2.2.2.2⟩
  · rw [if_pos ((hs_eq h.1).mpr q1), if_neg q1]; exact ⟨rfl, h⟩
/-- how many of f j .. f (j + r - 1) -/
def cn (f : Nat → Bool) : Nat → Nat → Nat
  | 0, _ => 0
  | r + 1, j => (f j).toNat + cn f r (j + 1)
theorem cn_congr {f g : Nat → Bool} : ∀ r j, (∀ i, j ≤ i → i < j + r → f i = g i) → cn f r j = cn g r j
  | 0, _, _ => rfl
  | r + 1, j, h => by
    rw [cn, cn, h j (by omega) (by omega), cn_congr r (j + 1) (fun i h1 h2 => h i (by omega) (by omega))]
set_option maxRecDepth 20000 in
theorem pop_all : ∀ n, n < 1024 → f_J6_bitCount_0f7a4 (nI n) = nI (cn n.testBit 10 0) := by decide +kernel
theorem pop_eq {x : Int32} (h : ∀ i, 10 ≤ i → bt x i = false) : f_J6_bitCount_0f7a4 x = nI (cn (bt x) 10 0) := by
  have hlt : x.toBitVec.toNat < 2 ^ 10 := Nat.lt_pow_two_of_testBit _ h
  have hx : x = nI x.toBitVec.toNat := by
    apply Int32.toBitVec_inj.mp
    apply BitVec.eq_of_toNat_eq
    rw [pk_tn (by omega)]
  have := pop_all x.toBitVec.toNat hlt
  rw [← hx] at this
  exact this
theorem hc_lp {a : Nat} {i2 : Int32} (ha : a < 10) : ∀ (r j : Nat) (x : Int32), j + r ≤ 10 → g_X5_house_lp M (nI a) i2 r j x = x + nI (cn (fun s => !decide (M 8 (10 * a + s) = 0)) r j) := by
  intro r
  induction r with
  | zero => intro j x _; rw [g_X5_house_lp, cn, nI_0, Int32.add_zero]
  | succ r ih =>
    intro j x hj
    rw [g_X5_house_lp, cn, ix10 ha (by omega)]
    by_cases q : M 8 (10 * a + j) = 0
    · rw [if_pos q, ih (j + 1) _ (by omega), Int32.add_zero]; simp [q]
    · rw [if_neg q, ih (j + 1) _ (by omega), Int32.add_assoc, show (1 : Int32) = nI 1 from rfl, nI_add]; simp [q]
theorem sim_house (h : REL P F L Y J tx M) (i1 i2 : Int32) : f_X4_house tx P F i1 i2 = f_X5_house M i1 i2 := by
  unfold f_X4_house f_X5_house
  by_cases q1 : f_X5_noMaster M i1 = 0
  · rw [if_neg (fun z => (hm_eq h.1).mp z q1), if_pos q1]
    obtain ⟨a, ha, rfl⟩ := vp_in_of (k_nm h.1.2.2.2.1 q1) (by omega)
    have e : f_X0_countAsked F (nI a) = g_X5_house_lp M (nI a) i2 10 0 0 := by
      unfold f_X0_countAsked
      rw [nI_clamp (by omega), pop_eq (h.2.2.1.2 a ha), hc_lp ha 10 0 0 (by omega), Int32.zero_add]
      congr 1
      refine cn_congr 10 0 (fun i h1 h2 => ?_)
      have := h.2.1.2.2.2 a ha i (by omega)
      by_cases q : M 8 (10 * a + i) = 0
      · rw [this.mpr q]; simp [q]
      · have hb : bt (F 5 a) i = true := by
          cases hq : bt (F 5 a) i with
          | false => exact absurd (this.mp hq) q
          | true => rfl
        simp [q, hb]
    rw [e, nI_clamp (by omega), (h.1.2.2.2.2.1 a ha).2.2.2.1, (h.1.2.2.2.2.1 a ha).2.2.2.2, (h.2.1.2.1 a ha).1]
  · rw [if_pos ((hm_eq h.1).mpr q1), if_neg q1]
end SIM
