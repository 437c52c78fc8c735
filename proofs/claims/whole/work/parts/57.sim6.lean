section SIM
variable {P F L Y : Nat → Nat → Int32} {J : Nat → Int64} {tx : Int32} {M : Nat → Nat → Int32}
def RG (P F L M : Nat → Nat → Int32) : Prop := RPp P M ∧ RBf F (M 9) (M 10) (M 12) (M 8) ∧ RXf F M ∧ RLd L M
/-- nobody asks anybody any more -/
def quiet (P F : Nat → Nat → Int32) (NM : Nat) : Prop := ∀ m, m < NM → ¬ F 4 m = -9 ∨ f_X0_choiceOf P F (nI m) = -9
def FR3 (M M' : Nat → Nat → Int32) : Prop := (∀ c, c < 8 → ¬ c = 0 → M' c = M c) ∧ (∀ c, 14 ≤ c → M' c = M c) ∧ (∀ i, ¬ i = 3 → ¬ i = 4 → M' 0 i = M 0 i)
theorem ask_none {a : Nat} (ha : a < 10) (hG : RG P F L M) (h : ¬ F 4 a = -9 ∨ f_X0_choiceOf P F (nI a) = -9) : f_X5_ask M (nI a) = M := by
  unfold f_X5_ask
  rw [nI_clamp (by omega)]
  have e := (hG.2.1.2.1 a ha).1
  rcases h with h | h
  · rw [if_neg (fun z => h (e.trans z))]
  · rw [next_eq hG.1 hG.2.1 ha] at h
    by_cases q : M 12 a = -9
    · rw [if_pos q, if_pos h]
    · rw [if_neg q]
theorem play_lp {t NM : Nat} (ht : t < 240) (hN : NM ≤ 10) (i1 : Int32) (jo : Nat) : ∀ (r j : Nat) (a : Int32) (F L M : Nat → Nat → Int32), j + r = NM → RG P F L M → M 0 3 = nI t →
    ∃ (a' : Int32) (F' L' M' : Nat → Nat → Int32), g_X0_playMinute_lp 100 P (nI t) 0 r j a F L = (a', F', L') ∧ g_X5_go_in i1 jo NM r j M = M' ∧ RG P F' L' M' ∧ FRm M M' ∧ F' 0 = F 0 ∧ (a' = 0 → a = 0 ∧ F' = F ∧ L' = L ∧ M' = M ∧ ∀ m, j ≤ m → m < NM → (¬ F 4 m = -9 ∨ f_X0_choiceOf P F (nI m) = -9)) := by
  intro r
  induction r with
  | zero =>
    intro j a F L M hj hG h3
    exact ⟨a, F, L, M, by rw [g_X0_playMinute_lp], by rw [g_X5_go_in], hG, FRm.rf, rfl, fun h => ⟨h, rfl, rfl, rfl, fun m h1 h2 => absurd h2 (by omega)⟩⟩
  | succ r ih =>
    intro j a F L M hj hG h3
    have hj10 : j < 10 := by omega
    have e4 := (hG.2.1.2.1 j hj10).1
    have next : (¬ F 4 j = -9 ∨ f_X0_choiceOf P F (nI j) = -9) → f_X5_ask M (nI j) = M := fun h => ask_none hj10 hG h
    have same : (¬ F 4 j = -9 ∨ f_X0_choiceOf P F (nI j) = -9) → g_X0_playMinute_lp 100 P (nI t) 0 (r + 1) j a F L = g_X0_playMinute_lp 100 P (nI t) 0 r (j + 1) a F L := by
      intro h
      rw [g_X0_playMinute_lp, if_pos rfl, nI_clamp (by omega)]
      by_cases q : F 4 j = -9
      · have hc := h.resolve_left (fun z => z q)
        have ea : f_X0_askBest 100 P F L (nI t) (nI j) = (0, F, L) := by unfold f_X0_askBest; rw [if_pos hc]
        rw [if_pos q, ea, if_pos rfl]
      · rw [if_neg q]
    by_cases hq : ¬ F 4 j = -9 ∨ f_X0_choiceOf P F (nI j) = -9
    · obtain ⟨a', F', L', M', e1, e2, g1, g2, g3, g4⟩ := ih (j + 1) a F L M (by omega) hG h3
      refine ⟨a', F', L', M', by rw [same hq]; exact e1, by rw [g_X5_go_in, next hq]; exact e2, g1, g2, g3, fun h => ?_⟩
      obtain ⟨z1, z2, z3, z4, z5⟩ := g4 h
      refine ⟨z1, z2, z3, z4, fun m h1 h2 => ?_⟩
      by_cases e : m = j
      · subst e; exact hq
      · exact z5 m (by omega) h2
    · have q4 : F 4 j = -9 := Classical.byContradiction fun z => hq (Or.inl z)
      have qc : ¬ f_X5_nextOf M (nI j) = -9 := fun z => hq (Or.inr ((next_eq hG.1 hG.2.1 hj10).trans z))
      obtain ⟨F1, L1, M1, k1, k2, k3, k4, k5, k6, k7⟩ := ask_sim hj10 ht hG.1 hG.2.1 hG.2.2.1 hG.2.2.2 h3 (e4.symm.trans q4) qc
      obtain ⟨a', F', L', M', e1, e2, g1, g2, g3, g4⟩ := ih (j + 1) 1 F1 L1 M1 (by omega) ⟨k6.pp hG.1, k3, k4, k5⟩ (by rw [k6.2.2 3 (by omega)]; exact h3)
      refine ⟨a', F', L', M', ?_, by rw [g_X5_go_in, k2]; exact e2, g1, k6.tr g2, g3.trans k7, fun h => absurd (g4 h).1 one_ne⟩
      rw [g_X0_playMinute_lp, if_pos rfl, nI_clamp (by omega), if_pos q4, k1, if_neg one_ne]
      exact e1
theorem go_quiet {NM : Nat} (hN : NM ≤ 10) (hq : quiet P F NM) (hG : RG P F L M) (i1 : Int32) (jo : Nat) : ∀ (r j : Nat), j + r = NM → g_X5_go_in i1 jo NM r j M = M := by
  intro r
  induction r with
  | zero => intro j _; rw [g_X5_go_in]
  | succ r ih =>
    intro j hj
    rw [g_X5_go_in, ask_none (by omega) hG (hq j (by omega))]
    exact ih (j + 1) (by omega)
theorem out_quiet {NM : Nat} (hN : NM ≤ 10) (hq : quiet P F NM) (i1 : Int32) : ∀ (r k t : Nat) (M : Nat → Nat → Int32), t ≤ 240 → RG P F L M → M 0 3 = nI t → ∃ M' : Nat → Nat → Int32, g_X5_go_out i1 NM r k M = M' ∧ RG P F L M' ∧ M' 0 3 = nI (min (t + r) 240) ∧ FR3 M M' := by
  intro r
  induction r with
  | zero =>
    intro k t M ht hG h3
    exact ⟨M, by rw [g_X5_go_out], hG, by rw [h3, Nat.add_zero, Nat.min_eq_left ht], fun _ _ _ => rfl, fun _ _ => rfl, fun _ _ _ => rfl⟩
  | succ r ih =>
    intro k t M ht hG h3
    rw [g_X5_go_out, h3]
    by_cases q : t = 240
    · subst q
      rw [if_pos (show (240 : Int32) ≤ nI 240 from by decide)]
      exact ⟨M, rfl, hG, by rw [h3, Nat.min_eq_right (by omega)], fun _ _ _ => rfl, fun _ _ => rfl, fun _ _ _ => rfl⟩
    · rw [if_neg (k_ngec (x := 240) (c := 240) (j := t) (by decide) (by omega) (by omega)), go_quiet hN hq hG i1 k NM 0 (by omega)]
      obtain ⟨M', e1, e2, e3, e4⟩ := ih (k + 1) (t + 1) (k_st M 0 (k_st (M 0) 3 (M 0 3 + 1))) (by omega) hG (by show M 0 3 + 1 = nI (t + 1); rw [h3, nI_1])
      refine ⟨M', e1, e2, by rw [e3, show t + 1 + r = t + (r + 1) by omega], fun c h1 h2 => ?_, fun c h1 => ?_, fun i h1 h2 => ?_⟩
      · rw [e4.1 c h1 h2, k_st_ne _ _ h2]
      · rw [e4.2.1 c h1, k_st_ne _ _ (by omega)]
      · rw [e4.2.2 i h1 h2]
        show k_st (M 0) 3 (M 0 3 + 1) i = M 0 i
        rw [k_st_ne _ _ h1]
theorem go_main {NM : Nat} (hN : NM ≤ 10) (hP1 : P 0 1 = nI NM) (i1 en : Int32) : ∀ (r k t : Nat) (asking : Int32) (F L M : Nat → Nat → Int32), t ≤ 240 → RG P F L M → M 0 3 = nI t → (asking = 0 → quiet P F NM) →
    ∃ (a' : Int32) (F' L' M' : Nat → Nat → Int32), g_X0_goOn_lp 100 P i1 0 en (min r (240 - t)) t asking F L = (a', F', L') ∧ g_X5_go_out i1 NM r k M = M' ∧ RG P F' L' M' ∧ M' 0 3 = nI (min (t + r) 240) ∧ FR3 M M' ∧ F' 0 = F 0 := by
  intro r
  induction r with
  | zero =>
    intro k t asking F L M ht hG h3 hq
    exact ⟨asking, F, L, M, by rw [Nat.zero_min, g_X0_goOn_lp], by rw [g_X5_go_out], hG, by rw [h3, Nat.add_zero, Nat.min_eq_left ht], ⟨fun _ _ _ => rfl, fun _ _ => rfl, fun _ _ _ => rfl⟩, rfl⟩
  | succ r ih =>
    intro k t asking F L M ht hG h3 hq
    by_cases qa : asking = 0
    · obtain ⟨M', e1, e2, e3, e4⟩ := out_quiet hN (hq qa) i1 (r + 1) k t M ht hG h3
      refine ⟨asking, F, L, M', ?_, e1, e2, e3, e4, rfl⟩
      cases min (r + 1) (240 - t) with
      | zero => rw [g_X0_goOn_lp]
      | succ n => rw [g_X0_goOn_lp, if_pos qa]
    · by_cases q : t = 240
      · subst q
        refine ⟨asking, F, L, M, by rw [Nat.sub_self, Nat.min_zero, g_X0_goOn_lp], ?_, hG, by rw [h3, Nat.min_eq_right (by omega)], ⟨fun _ _ _ => rfl, fun _ _ => rfl, fun _ _ _ => rfl⟩, rfl⟩
        rw [g_X5_go_out, h3, if_pos (show (240 : Int32) ≤ nI 240 from by decide)]
      · obtain ⟨a1, F1, L1, M1, p1, p2, p3, p4, p5, p6⟩ := play_lp (P := P) (show t < 240 by omega) hN i1 k NM 0 0 F L M (by omega) hG h3
        have h31 : M1 0 3 = nI t := by rw [p4.2.2 3 (by omega)]; exact h3
        obtain ⟨a', F', L', M', e1, e2, e3, e4, e5, e6⟩ := ih (k + 1) (t + 1) a1 F1 L1 (k_st M1 0 (k_st (M1 0) 3 (M1 0 3 + 1))) (by omega) p3 (by show M1 0 3 + 1 = nI (t + 1); rw [h31, nI_1]) (fun z => by
          obtain ⟨-, z2, z3, z4, z5⟩ := p6 z
          rw [z2]
          exact fun m hm => z5 m (by omega) hm)
        have epl : f_X0_playMinute 100 P F L (nI t) 0 = (a1, F1, L1) := by
          unfold f_X0_playMinute
          rw [hP1, nI_clamp (by omega), p1]
        refine ⟨a', F', L', M', ?_, ?_, e3, by rw [e4, show t + 1 + r = t + (r + 1) by omega], ⟨fun c h1 h2 => ?_, fun c h1 => ?_, fun i h1 h2 => ?_⟩, e6.trans p5⟩
        · rw [show min (r + 1) (240 - t) = min r (240 - (t + 1)) + 1 by omega, g_X0_goOn_lp, if_neg qa, epl]
          exact e1
        · rw [g_X5_go_out, h3, if_neg (k_ngec (x := 240) (c := 240) (j := t) (by decide) (by omega) (by omega)), p2]
          exact e2
        · rw [e5.1 c h1 h2, k_st_ne _ _ h2, p4.1 c h1 h2]
        · rw [e5.2.1 c h1, k_st_ne _ _ (by omega), p4.2.1 c h1]
        · rw [e5.2.2 i h1 h2]
          show k_st (M1 0) 3 (M1 0 3 + 1) i = M 0 i
          rw [k_st_ne _ _ h1, p4.2.2 i h2]
theorem ge_lp (i1 : Int32) : ∀ (r j : Nat) (M : Nat → Nat → Int32), j + r = 10 → (∀ c, ¬ c = 14 → g_X5_go_end i1 r j M c = M c) ∧ ((∀ i, i < j → M 14 i = 363) → ∀ i, i < 10 → g_X5_go_end i1 r j M 14 i = 363) := by
  intro r
  induction r with
  | zero => intro j M hj; rw [g_X5_go_end]; exact ⟨fun _ _ => rfl, fun h i hi => h i (by omega)⟩
  | succ r ih =>
    intro j M hj
    rw [g_X5_go_end, nI_clamp (by omega)]
    obtain ⟨a, b⟩ := ih (j + 1) (k_st M 14 (upd (M 14) j 363)) (by omega)
    refine ⟨fun c h1 => by rw [a c h1, k_st_ne _ _ h1], fun h i hi => b (fun i2 hi2 => ?_) i hi⟩
    show upd (M 14) j 363 i2 = 363
    by_cases e : i2 = j
    · subst e; exact pk_us
    · rw [pk_un e]; exact h i2 (by omega)
theorem sim_go (h : REL P F L Y J tx M) (i1 : Int32) : (f_X4_go tx P F L Y J i1).1 = (f_X5_go M i1).1 ∧ REL P (f_X4_go tx P F L Y J i1).2.1 (f_X4_go tx P F L Y J i1).2.2.1 (f_X4_go tx P F L Y J i1).2.2.2 J tx (f_X5_go M i1).2 := by
  unfold f_X4_go f_X5_go
  rw [← w_eq (y := 1) (z := 240) rfl rfl]
  by_cases q1 : f_X4_isWithin i1 1 240 = 0
  · rw [if_pos q1, if_pos q1]; exact ⟨rfl, h⟩
  rw [if_neg q1, if_neg q1]
  by_cases q2 : M 0 6 = -9
  · rw [if_pos ((hb0 h).mpr q2), if_pos q2]
    obtain ⟨hk, -⟩ := k_iw (a := 1) (b := 240) rfl rfl (by decide) (by decide) q1
    obtain ⟨n, hn, en⟩ := hk.get
    obtain ⟨t, ht, e3⟩ := h.2.2.2.2.2.2.2.2.get
    obtain ⟨NM, hNM, eN⟩ := h.1.2.2.2.1.get
    have eF0 : F 0 0 = nI t := h.2.2.2.2.2.2.2.1.trans e3
    have hen : (if 240 < ((F 0 0) + i1) then (240 : Int32) else ((F 0 0) + i1)) = nI (min (t + n) 240) := by
      rw [eF0, en, nI_add, show (240 : Int32) = nI 240 from rfl]
      by_cases z : 240 < t + n
      · rw [if_pos (nI_lt z (by omega)), Nat.min_eq_right (by omega)]
      · rw [if_neg (nI_nlt (by omega) (by omega)), Nat.min_eq_left (by omega)]
    obtain ⟨a', F', L', M', g1, g2, g3, g4, g5, g6⟩ := go_main (P := P) hNM (h.1.2.1.trans eN) i1 (nI (min (t + n) 240)) n 0 t 1 F L M ht ⟨h.1, h.2.1, h.2.2.1, h.2.2.2.1⟩ e3 (fun z => absurd z one_ne)
    have ego : f_X0_goOn 100 P F L i1 0 = (k_st F' 0 (k_st (F' 0) 0 (nI (min (t + n) 240))), L') := by
      unfold f_X0_goOn
      rw [hen, eF0, nI_clamp (by omega), nI_clamp (by omega), show min (t + n) 240 - t = min n (240 - t) by omega, g1]
    have eout : g_X5_go_out i1 (M 0 2).toNatClampNeg i1.toNatClampNeg 0 M = M' := by
      rw [eN, nI_clamp (by omega), en, nI_clamp (by omega), ← en]; exact g2
    rw [ego, eout]
    have eq3 : M' 0 3 = nI (min (t + n) 240) := g4
    have i240 : (k_st F' 0 (k_st (F' 0) 0 (nI (min (t + n) 240)))) 0 0 = 240 ↔ M' 0 3 = 240 := by rw [eq3]; exact Iff.rfl
    have hy := h.2.2.2.2.1
    have s6 : M' 0 6 = M 0 6 := g5.2.2 6 (by omega) (by omega)
    have s5 : M' 0 5 = M 0 5 := g5.2.2 5 (by omega) (by omega)
    have s0 : M' 0 0 = M 0 0 := g5.2.2 0 (by omega) (by omega)
    have k240 : k_n (M' 0 3) 240 := by rw [eq3]; exact k_n.mk (by omega)
    by_cases q3 : M' 0 3 = 240
    · rw [if_pos (i240.mpr q3), if_pos q3]
      obtain ⟨a, b⟩ := ge_lp i1 10 0 (k_st M' 0 (k_st (M' 0) 6 0)) (by omega)
      have b' := b (fun i hi => absurd hi (by omega))
      generalize hE : g_X5_go_end i1 10 0 (k_st M' 0 (k_st (M' 0) 6 0)) = E at a b'
      have ae : ∀ c, ¬ c = 14 → ¬ c = 0 → E c = M' c := fun c h1 h2 => by rw [a c h1, k_st_ne _ _ h2]
      have a0 : E 0 = k_st (M' 0) 6 0 := by rw [a 0 (by omega), k_st_eq]
      refine ⟨?_, ?_⟩
      · show nI (min (t + n) 240) = E 0 3
        rw [a0]; exact eq3.symm
      · show REL P (k_st F' 0 (k_st (F' 0) 0 (nI (min (t + n) 240)))) L' (f_X3_begin Y J) J tx E
        unfold REL RPp RXf RLd RYr
        rw [a0, ae 1 (by omega) (by omega), ae 2 (by omega) (by omega), ae 3 (by omega) (by omega), ae 4 (by omega) (by omega), ae 5 (by omega) (by omega), ae 6 (by omega) (by omega), ae 7 (by omega) (by omega), ae 8 (by omega) (by omega), ae 9 (by omega) (by omega), ae 10 (by omega) (by omega), ae 11 (by omega) (by omega), ae 12 (by omega) (by omega), ae 13 (by omega) (by omega), ae 15 (by omega) (by omega), ae 16 (by omega) (by omega), ae 17 (by omega) (by omega), g5.2.1 15 (by omega), g5.2.1 16 (by omega), g5.2.1 17 (by omega)]
        refine ⟨g3.1, g3.2.1, g3.2.2.1, g3.2.2.2, ⟨rfl, Or.inr (k_n.mk (j := 0) (by omega)), fun j hj => ⟨fun z => absurd z (show ¬ (0 : Int32) = -9 by decide), fun _ => ?_, (hy.2.2.1 j hj).2.2⟩, hy.2.2.2⟩, ?_, ?_, ?_, ?_⟩
        · rw [b' j hj]; exact (hy.2.2.1 j hj).1 q2
        · show tx = M' 0 5; rw [s5]; exact h.2.2.2.2.2.1
        · show M' 0 0 = 0; rw [s0]; exact h.2.2.2.2.2.2.1
        · exact eq3.symm
        · exact k240
    · rw [if_neg (fun z => q3 (i240.mp z)), if_neg q3]
      refine ⟨eq3.symm, ?_⟩
      show REL P (k_st F' 0 (k_st (F' 0) 0 (nI (min (t + n) 240)))) L' Y J tx M'
      refine ⟨g3.1, g3.2.1, g3.2.2.1, g3.2.2.2, ?_, by rw [s5]; exact h.2.2.2.2.2.1, by rw [s0]; exact h.2.2.2.2.2.2.1, eq3.symm, k240⟩
      unfold RYr
      rw [s6, g5.2.1 14 (by omega), g5.2.1 15 (by omega), g5.2.1 16 (by omega), g5.2.1 17 (by omega)]
      exact hy
  · rw [if_neg (fun z => q2 ((hb0 h).mp z)), if_neg q2]; exact ⟨rfl, h⟩
end SIM
