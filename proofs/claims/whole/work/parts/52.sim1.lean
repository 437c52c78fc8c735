/-! the people: each call of the class answers as the model's, and the states stay related -/
theorem upd_c {f g : Nat → Int32} {n : Nat} {v : Int32} (h : ∀ j, j < 10 → f j = g j) : ∀ j, j < 10 → upd f n v j = upd g n v j := by
  intro j hj
  unfold upd
  by_cases e : j = n
  · rw [if_pos e, if_pos e]
  · rw [if_neg e, if_neg e]; exact h j hj
section SIM
variable {P F L Y : Nat → Nat → Int32} {J : Nat → Int64} {tx : Int32} {M : Nat → Nat → Int32}
theorem hb0 (h : REL P F L Y J tx M) : f_X3_hasBegun Y J = 0 ↔ M 0 6 = -9 := by
  unfold f_X3_hasBegun
  rw [h.2.2.2.2.1.1]
  exact ite01 Iff.rfl
theorem lt10 {x : Int32} (h : k_n x 10) : x < 10 ↔ ¬ x = 10 := by
  obtain ⟨a, ha, rfl⟩ := h.get
  rw [show (10 : Int32) = nI 10 from rfl, nI_ltI (by omega) (by omega), nI_eq (by omega) (by omega)]
  omega
theorem n_add1 {x : Int32} (h : k_n x 10) (hx : ¬ x = 10) : k_n (x + 1) 10 := by
  obtain ⟨a, ha, rfl⟩ := h.get
  rw [nI_1]
  have : a ≠ 10 := fun q => hx (by rw [q]; rfl)
  exact k_n.mk (by omega)
theorem sim_servant (h : REL P F L Y J tx M) (i1 i2 i3 : Int32) : (f_X4_servant tx P Y J i1 i2 i3).1 = (f_X5_servant M i1 i2 i3).1 ∧ REL (f_X4_servant tx P Y J i1 i2 i3).2 F L Y J tx (f_X5_servant M i1 i2 i3).2 := by
  unfold f_X4_servant f_X5_servant f_X4_isKind
  rw [← w_eq (y := 0) (z := 2) rfl rfl, ← w_eq (y := 1) (z := 9) rfl rfl, ← w_eq (y := 1) (z := 60) rfl rfl]
  by_cases q1 : f_X4_isWithin i1 0 2 = 0
  · rw [if_pos q1, if_pos q1]; exact ⟨rfl, h⟩
  rw [if_neg q1, if_neg q1]
  by_cases q2 : f_X4_isWithin i2 1 9 = 0
  · rw [if_pos q2, if_pos q2]; exact ⟨rfl, h⟩
  rw [if_neg q2, if_neg q2]
  by_cases q3 : f_X4_isWithin i3 1 60 = 0
  · rw [if_pos q3, if_pos q3]; exact ⟨rfl, h⟩
  rw [if_neg q3, if_neg q3]
  by_cases q4 : M 0 6 = -9
  · rw [if_pos ((hb0 h).mpr q4), if_pos q4]
    have hP := h.1
    unfold f_X2_addServant
    rw [hP.1]
    by_cases q5 : M 0 1 = 10
    · rw [if_pos q5, if_neg (fun z => (lt10 hP.2.2.1).mp z q5)]; exact ⟨rfl, h⟩
    · rw [if_neg q5, if_pos ((lt10 hP.2.2.1).mpr q5)]
      refine ⟨rfl, ⟨rfl, hP.2.1, n_add1 hP.2.2.1 q5, hP.2.2.2.1, fun j hj => ⟨upd_c (fun j hj => (hP.2.2.2.2.1 j hj).1) j hj, upd_c (fun j hj => (hP.2.2.2.2.1 j hj).2.1) j hj, upd_c (fun j hj => (hP.2.2.2.2.1 j hj).2.2.1) j hj, (hP.2.2.2.2.1 j hj).2.2.2⟩, fun m hm s hs => ?_, hP.2.2.2.2.2.2⟩, h.2⟩
      show k_st (k_st (k_st (k_st P 1 _) 2 _) 3 _) 0 _ (8 + m) s = M 6 (10 * m + s)
      rw [k_st_ne _ _ (by omega), k_st_ne _ _ (by omega), k_st_ne _ _ (by omega), k_st_ne _ _ (by omega)]
      exact hP.2.2.2.2.2.1 m hm s hs
  · rw [if_neg (fun z => q4 ((hb0 h).mp z)), if_neg q4]; exact ⟨rfl, h⟩
theorem sim_master (h : REL P F L Y J tx M) (i1 i2 : Int32) : (f_X4_master tx P Y J i1 i2).1 = (f_X5_master M i1 i2).1 ∧ REL (f_X4_master tx P Y J i1 i2).2 F L Y J tx (f_X5_master M i1 i2).2 := by
  unfold f_X4_master f_X5_master f_X4_isKind
  rw [← w_eq (y := 0) (z := 2) rfl rfl, ← w_eq (y := 1) (z := 90) rfl rfl]
  by_cases q1 : f_X4_isWithin i1 0 2 = 0
  · rw [if_pos q1, if_pos q1]; exact ⟨rfl, h⟩
  rw [if_neg q1, if_neg q1]
  by_cases q2 : f_X4_isWithin i2 1 90 = 0
  · rw [if_pos q2, if_pos q2]; exact ⟨rfl, h⟩
  rw [if_neg q2, if_neg q2]
  by_cases q4 : M 0 6 = -9
  · rw [if_pos ((hb0 h).mpr q4), if_pos q4]
    have hP := h.1
    unfold f_X2_addMaster
    rw [hP.2.1]
    by_cases q5 : M 0 2 = 10
    · rw [if_pos q5, if_neg (fun z => (lt10 hP.2.2.2.1).mp z q5)]; exact ⟨rfl, h⟩
    · rw [if_neg q5, if_pos ((lt10 hP.2.2.2.1).mpr q5)]
      refine ⟨rfl, ⟨hP.1, rfl, hP.2.2.1, n_add1 hP.2.2.2.1 q5, fun j hj => ⟨(hP.2.2.2.2.1 j hj).1, (hP.2.2.2.2.1 j hj).2.1, (hP.2.2.2.2.1 j hj).2.2.1, upd_c (fun j hj => (hP.2.2.2.2.1 j hj).2.2.2.1) j hj, upd_c (fun j hj => (hP.2.2.2.2.1 j hj).2.2.2.2) j hj⟩, fun m hm s hs => ?_, hP.2.2.2.2.2.2⟩, h.2⟩
      show k_st (k_st (k_st P 4 _) 5 _) 0 _ (8 + m) s = M 6 (10 * m + s)
      rw [k_st_ne _ _ (by omega), k_st_ne _ _ (by omega), k_st_ne _ _ (by omega)]
      exact hP.2.2.2.2.2.1 m hm s hs
  · rw [if_neg (fun z => q4 ((hb0 h).mp z)), if_neg q4]; exact ⟨rfl, h⟩
theorem two_of (h : REL P F L Y J tx M) {i j : Int32} (q1 : f_X5_noMaster M i = 0) (q2 : f_X5_noServant M j = 0) : ∃ a b : Nat, a < 10 ∧ b < 10 ∧ i = nI a ∧ j = nI b := by
  obtain ⟨a, ha, e1⟩ := vp_in_of (k_nm h.1.2.2.2.1 q1) (by omega)
  obtain ⟨b, hb, e2⟩ := vp_in_of (k_ns h.1.2.2.1 q2) (by omega)
  exact ⟨a, b, ha, hb, e1, e2⟩
/-- a bit set, or not, in a row of bits, beside a row of booleans -/
theorem bits_upd {x : Nat → Int32} {m7 : Nat → Int32} {a b : Nat} {w : Int32} {v : Int32} (ha : a < 10) (hb : b < 10) (h : ∀ m, m < 10 → ∀ s, s < 10 → (bt (x m) s = false ↔ m7 (10 * m + s) = 0)) (hw : ∀ s, s < 10 → ¬ s = b → bt w s = bt (x a) s) (hv : bt w b = false ↔ v = 0) :
    ∀ m, m < 10 → ∀ s, s < 10 → (bt (upd x a w m) s = false ↔ upd m7 (10 * a + b) v (10 * m + s) = 0) := by
  intro m hm s hs
  by_cases e : m = a
  · subst e
    rw [pk_us]
    by_cases e2 : s = b
    · subst e2; rw [pk_us]; exact hv
    · rw [pk_un (by omega), hw s hs e2]; exact h m hm s hs
  · rw [pk_un e, pk_un (by omega)]; exact h m hm s hs
theorem sim_bar (h : REL P F L Y J tx M) (i1 i2 i3 : Int32) (h3 : i3 = 0 ∨ i3 = 1) : (f_X4_bar tx P i1 i2 i3).1 = (f_X5_bar M i1 i2 i3).1 ∧ REL (f_X4_bar tx P i1 i2 i3).2 F L Y J tx (f_X5_bar M i1 i2 i3).2 := by
  unfold f_X4_bar f_X5_bar
  by_cases q2 : f_X5_noServant M i1 = 0
  · by_cases q1 : f_X5_noMaster M i2 = 0
    · rw [if_neg (fun z => (hb_eq h.1).mp z ⟨q1, q2⟩), if_pos q2, if_pos q1]
      obtain ⟨a, b, ha, hb, rfl, rfl⟩ := two_of h q1 q2
      have hP := h.1
      have key : REL (f_X2_setBar P (nI a) (nI b) i3) F L Y J tx (k_st M 7 (upd (M 7) ((10 * nI a) + nI b).toNatClampNeg (vp_nar .boolean i3))) := by
        rw [ix10 ha hb]
        unfold f_X2_setBar
        rcases h3 with rfl | rfl
        · rw [if_pos rfl, nI_clamp (by omega)]
          refine ⟨⟨hP.1, hP.2.1, hP.2.2.1, hP.2.2.2.1, hP.2.2.2.2.1, fun m hm s hs => ?_, bits_upd ha hb hP.2.2.2.2.2.2 (fun s hs e => ?_) ?_⟩, h.2⟩
          · rw [k_st_ne _ _ (by omega)]; exact hP.2.2.2.2.2.1 m hm s hs
          · rw [bt_clr hb (by omega)]; simp [show ¬ b = s from fun z => e z.symm]
          · rw [bt_clr hb (by omega)]; simp; decide
        · rw [if_neg (by decide), nI_clamp (by omega)]
          refine ⟨⟨hP.1, hP.2.1, hP.2.2.1, hP.2.2.2.1, hP.2.2.2.2.1, fun m hm s hs => ?_, bits_upd ha hb hP.2.2.2.2.2.2 (fun s hs e => ?_) ?_⟩, h.2⟩
          · rw [k_st_ne _ _ (by omega)]; exact hP.2.2.2.2.2.1 m hm s hs
          · rw [bt_set hb]; simp [show ¬ b = s from fun z => e z.symm]
          · rw [bt_set hb]; simp; decide
      by_cases q3 : M 7 (10 * a + b) = 0
      · rw [if_pos ((bar_eq hP ha hb).mpr q3), if_pos (by rw [ix10 ha hb]; exact q3)]; exact ⟨rfl, key⟩
      · rw [if_neg (fun z => q3 ((bar_eq hP ha hb).mp z)), if_neg (by rw [ix10 ha hb]; exact q3)]; exact ⟨rfl, key⟩
    · rw [if_pos ((hb_eq h.1).mpr fun z => q1 z.1), if_pos q2, if_neg q1]; exact ⟨rfl, h⟩
  · rw [if_pos ((hb_eq h.1).mpr fun z => q2 z.2), if_neg q2]; exact ⟨rfl, h⟩
theorem tell_rel (h : REL P F L Y J tx M) {a b : Nat} (ha : a < 10) (hb : b < 10) (v : Int32) : REL (f_X2_tell P (nI a) (nI b) v) F L Y J tx (k_st M 6 (upd (M 6) ((10 * nI a) + nI b).toNatClampNeg v)) := by
  have hP := h.1
  rw [ix10 ha hb]
  unfold f_X2_tell
  rw [nI_clamp (by omega), nI_clamp (by omega)]
  have c0 : ∀ c, c < 8 → k_st P (8 + a) (upd (P (8 + a)) b v) c = P c := fun c hc => k_st_ne _ _ (by omega)
  refine ⟨⟨by rw [c0 0 (by omega)]; exact hP.1, by rw [c0 0 (by omega)]; exact hP.2.1, hP.2.2.1, hP.2.2.2.1, fun j hj => ?_, fun m hm s hs => ?_, fun m hm s hs => ?_⟩, h.2⟩
  · rw [c0 1 (by omega), c0 2 (by omega), c0 3 (by omega), c0 4 (by omega), c0 5 (by omega)]; exact hP.2.2.2.2.1 j hj
  · show k_st P (8 + a) (upd (P (8 + a)) b v) (8 + m) s = upd (M 6) (10 * a + b) v (10 * m + s)
    by_cases e : m = a
    · subst e
      rw [k_st_eq]
      by_cases e2 : s = b
      · subst e2; rw [pk_us, pk_us]
      · rw [pk_un e2, pk_un (by omega)]; exact hP.2.2.2.2.2.1 m hm s hs
    · rw [k_st_ne _ _ (by omega), pk_un (by omega)]; exact hP.2.2.2.2.2.1 m hm s hs
  · rw [c0 7 (by omega)]; exact hP.2.2.2.2.2.2 m hm s hs
theorem sim_hear (h : REL P F L Y J tx M) (i1 i2 i3 : Int32) : (f_X4_hear tx P i1 i2 i3).1 = (f_X5_hear M i1 i2 i3).1 ∧ REL (f_X4_hear tx P i1 i2 i3).2 F L Y J tx (f_X5_hear M i1 i2 i3).2 := by
  unfold f_X4_hear f_X5_hear
  rw [← w_eq (y := 1) (z := 9) rfl rfl]
  by_cases q1 : f_X5_noMaster M i1 = 0
  · by_cases q2 : f_X5_noServant M i2 = 0
    · rw [if_neg (fun z => (hb_eq h.1).mp z ⟨q1, q2⟩), if_pos q1, if_pos q2]
      obtain ⟨a, b, ha, hb, rfl, rfl⟩ := two_of h q1 q2
      by_cases q3 : f_X4_isWithin i3 1 9 = 0
      · rw [if_pos q3, if_pos q3]; exact ⟨rfl, h⟩
      · rw [if_neg q3, if_neg q3]; exact ⟨held_eq h.1 ha hb, tell_rel h ha hb i3⟩
    · rw [if_pos ((hb_eq h.1).mpr fun z => q2 z.2), if_pos q1, if_neg q2]; exact ⟨rfl, h⟩
  · rw [if_pos ((hb_eq h.1).mpr fun z => q1 z.1), if_neg q1]; exact ⟨rfl, h⟩
theorem sim_pass (h : REL P F L Y J tx M) (i1 i2 i3 : Int32) : (f_X4_pass tx P i1 i2 i3).1 = (f_X5_pass M i1 i2 i3).1 ∧ REL (f_X4_pass tx P i1 i2 i3).2 F L Y J tx (f_X5_pass M i1 i2 i3).2 := by
  unfold f_X4_pass f_X5_pass
  by_cases q1 : f_X5_noMaster M i1 = 0
  · by_cases q3 : f_X5_noServant M i3 = 0
    · by_cases q2 : f_X5_noMaster M i2 = 0
      · rw [if_neg (fun z => (hb_eq h.1).mp z ⟨q1, q3⟩), if_neg (fun z => (hm_eq h.1).mp z q2), if_pos q1, if_pos q2, if_pos q3]
        by_cases q4 : i1 = i2
        · rw [if_pos q4, if_pos q4]; exact ⟨rfl, h⟩
        rw [if_neg q4, if_neg q4]
        obtain ⟨a, b, ha, hb, rfl, rfl⟩ := two_of h q1 q3
        obtain ⟨c, hc, rfl⟩ := vp_in_of (k_nm h.1.2.2.2.1 q2) (by omega)
        have e0 : f_X2_hasHeard P (nI a) (nI b) = 0 ↔ M 6 ((10 * nI a) + nI b).toNatClampNeg = 0 := by
          unfold f_X2_hasHeard
          rw [nI_clamp (by omega), nI_clamp (by omega), h.1.2.2.2.2.2.1 a ha b hb, ix10 ha hb]
          exact ite01 Iff.rfl
        by_cases q5 : M 6 ((10 * nI a) + nI b).toNatClampNeg = 0
        · rw [if_pos (e0.mpr q5), if_pos q5]; exact ⟨rfl, h⟩
        · rw [if_neg (fun z => q5 (e0.mp z)), if_neg q5]
          have e1 : f_X2_heldFor P (nI a) (nI b) = M 6 ((10 * nI a) + nI b).toNatClampNeg := by
            rw [held_eq h.1 ha hb]; unfold f_X5_held; rw [if_neg q5]
          rw [e1]
          exact ⟨by rw [pk_us], tell_rel h hc hb _⟩
      · rw [if_neg (fun z => (hb_eq h.1).mp z ⟨q1, q3⟩), if_pos ((hm_eq h.1).mpr q2), if_pos q1, if_neg q2]; exact ⟨rfl, h⟩
    · rw [if_pos ((hb_eq h.1).mpr fun z => q3 z.2), if_pos q1]
      by_cases q2 : f_X5_noMaster M i2 = 0
      · rw [if_pos q2, if_neg q3]; exact ⟨rfl, h⟩
      · rw [if_neg q2]; exact ⟨rfl, h⟩
  · rw [if_pos ((hb_eq h.1).mpr fun z => q1 z.1), if_neg q1]; exact ⟨rfl, h⟩
theorem sim_holds (h : REL P F L Y J tx M) (i1 i2 : Int32) : f_X4_holds tx P i1 i2 = f_X5_holds M i1 i2 := by
  unfold f_X4_holds f_X5_holds
  by_cases q1 : f_X5_noMaster M i1 = 0
  · by_cases q2 : f_X5_noServant M i2 = 0
    · rw [if_neg (fun z => (hb_eq h.1).mp z ⟨q1, q2⟩), if_pos q1, if_pos q2]
      obtain ⟨a, b, ha, hb, rfl, rfl⟩ := two_of h q1 q2
      exact held_eq h.1 ha hb
    · rw [if_pos ((hb_eq h.1).mpr fun z => q2 z.2), if_pos q1, if_neg q2]
  · rw [if_pos ((hb_eq h.1).mpr fun z => q1 z.1), if_neg q1]
theorem sim_offer (h : REL P F L Y J tx M) (i1 i2 : Int32) : f_X4_offer tx P i1 i2 = f_X5_offer M i1 i2 := by
  unfold f_X4_offer f_X5_offer
  by_cases q1 : f_X5_noMaster M i1 = 0
  · by_cases q2 : f_X5_noServant M i2 = 0
    · rw [if_neg (fun z => (hb_eq h.1).mp z ⟨q1, q2⟩), if_pos q1, if_pos q2]
      obtain ⟨a, b, ha, hb, rfl, rfl⟩ := two_of h q1 q2
      exact offer_eq h.1 ha hb
    · rw [if_pos ((hb_eq h.1).mpr fun z => q2 z.2), if_pos q1, if_neg q2]
  · rw [if_pos ((hb_eq h.1).mpr fun z => q1 z.1), if_neg q1]
theorem sim_next (h : REL P F L Y J tx M) (i1 : Int32) : f_X4_next tx P F i1 = f_X5_next M i1 := by
  unfold f_X4_next f_X5_next
  by_cases q1 : f_X5_noMaster M i1 = 0
  · rw [if_neg (fun z => (hm_eq h.1).mp z q1), if_pos q1]
    obtain ⟨a, ha, rfl⟩ := vp_in_of (k_nm h.1.2.2.2.1 q1) (by omega)
    exact next_eq h.1 h.2.1 ha
  · rw [if_pos ((hm_eq h.1).mpr q1), if_neg q1]
theorem sim_about (h : REL P F L Y J tx M) (i1 i2 : Int32) : f_X4_about tx P F Y J i1 i2 = f_X5_about M i1 i2 := by
  unfold f_X4_about f_X5_about
  by_cases q1 : f_X5_noServant M i1 = 0
  · rw [if_neg (fun z => (hs_eq h.1).mp z q1), if_pos q1]
    obtain ⟨b, hb, rfl⟩ := vp_in_of (k_ns h.1.2.2.1 q1) (by omega)
    have e1 := h.1.2.2.2.2.1 b hb
    have e2 := (h.2.1.1 b hb)
    have e3 := h.2.2.1.1 b hb
    have e4 := h.2.2.2.2.1.2.2.1 b hb
    have e5 : f_X3_endOf F Y J (nI b) = if M 9 b = -9 then -9 else if M 0 6 = -9 then -9 else M 14 b := by
      unfold f_X3_endOf
      by_cases q : M 0 6 = -9
      · rw [if_pos ((hb0 h).mpr q)]; simp [q]
      · rw [if_neg (fun z => q ((hb0 h).mp z))]
        by_cases q9 : M 9 b = -9
        · rw [if_pos ((bd_eq h.2.1 hb).mpr q9), if_pos q9]
        · rw [if_neg (fun z => q9 ((bd_eq h.2.1 hb).mp z)), if_neg q9, if_neg q, nI_clamp (by omega)]; exact e4.2.1 q
    rw [e5, nI_clamp (by omega), e1.1, e1.2.1, e1.2.2.1, e2.1]
    by_cases q9 : M 9 b = -9
    · rw [(e3.1 q9).1, (e3.1 q9).2]; simp only [if_pos q9]
    · rw [e2.2.2 q9, e3.2 q9]; simp only [if_neg q9]
  · rw [if_pos ((hs_eq h.1).mpr q1), if_neg q1]
theorem sim_bargains (h : REL P F L Y J tx M) : f_X4_bargains tx F L = f_X5_bargains M := h.2.2.2.1.1
theorem bg100 (h : REL P F L Y J tx M) : k_n (M 0 4) 100 := by
  rw [h.2.2.2.1.2.2]
  exact k_n.mk (cntZ_le _ _)
theorem sim_bargain (h : REL P F L Y J tx M) (i1 i2 : Int32) : f_X4_bargain tx F L i1 i2 = f_X5_bargain M i1 i2 := by
  unfold f_X4_bargain f_X5_bargain
  rw [← w_eq (x := i2) (y := 0) (z := 5) (y' := 0) (z' := 5) rfl rfl]
  have e0 : f_X1_has L i1 = 0 ↔ f_X5_in i1.toInt64 0 ((M 0 4) - 1).toInt64 = 0 := by
    unfold f_X1_has
    rw [h.2.2.2.1.1]
    exact no_eqN (bg100 h) (by omega)
  by_cases q1 : f_X5_in i1.toInt64 0 ((M 0 4) - 1).toInt64 = 0
  · rw [if_pos (e0.mpr q1), if_pos q1]
  · rw [if_neg (fun z => q1 (e0.mp z)), if_neg q1]
    by_cases q2 : f_X4_isWithin i2 0 5 = 0
    · rw [if_pos q2, if_pos q2]
    · rw [if_neg q2, if_neg q2]
      unfold f_X1_read
      rw [h.2.2.2.1.2.1, Int32.mul_comm]
end SIM
