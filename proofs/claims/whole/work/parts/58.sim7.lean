/-! what a whole fair would bring -/
section SIM
variable {P F L G H Y : Nat → Nat → Int32} {J : Nat → Int64} {tx : Int32} {M : Nat → Nat → Int32}
/-- a master's turn in the fair that the model foretells -/
def fs (M : Nat → Nat → Int32) (m : Int32) (jo : Nat) : Nat → Nat → Int32 :=
  if ((M 21) m.toNatClampNeg) = (-9) then (if (f_X5_nextOf_t M m) = (-9) then M
    else if ((M 19) (f_X5_nextOf_t M m).toNatClampNeg) = (-9) then (k_st (k_st (k_st (k_st M 18 (upd (M 18) ((10 * m) + (f_X5_nextOf_t M m)).toNatClampNeg (vp_nar .boolean 1))) 19 (upd (M 19) (f_X5_nextOf_t M m).toNatClampNeg m)) 20 (upd (M 20) (f_X5_nextOf_t M m).toNatClampNeg (f_X5_offerOf M m (f_X5_nextOf_t M m)))) 21 (upd (M 21) m.toNatClampNeg (f_X5_nextOf_t M m)))
    else if 120 ≤ (nI jo) then (k_st M 18 (upd (M 18) ((10 * m) + (f_X5_nextOf_t M m)).toNatClampNeg (vp_nar .boolean 1)))
    else if (f_X5_offerOf M m (f_X5_nextOf_t M m)) ≤ ((M 20) (f_X5_nextOf_t M m).toNatClampNeg) then (k_st M 18 (upd (M 18) ((10 * m) + (f_X5_nextOf_t M m)).toNatClampNeg (vp_nar .boolean 1)))
    else (k_st (k_st (k_st (k_st (k_st M 18 (upd (M 18) ((10 * m) + (f_X5_nextOf_t M m)).toNatClampNeg (vp_nar .boolean 1))) 21 (upd (M 21) ((M 19) (f_X5_nextOf_t M m).toNatClampNeg).toNatClampNeg (-9))) 19 (upd (M 19) (f_X5_nextOf_t M m).toNatClampNeg m)) 20 (upd (M 20) (f_X5_nextOf_t M m).toNatClampNeg (f_X5_offerOf M m (f_X5_nextOf_t M m)))) 21 (upd (upd (M 21) ((M 19) (f_X5_nextOf_t M m).toNatClampNeg).toNatClampNeg (-9)) m.toNatClampNeg (f_X5_nextOf_t M m))))
  else M
theorem fin_step {i1 : Int32} {jo NM r j : Nat} : g_X5_foretell_in i1 jo NM (r + 1) j M = g_X5_foretell_in i1 jo NM r (j + 1) (fs M (if i1 = 0 then nI j else ((M 0 2) - 1) - nI j) jo) := by
  rw [g_X5_foretell_in]
  by_cases q : i1 = 0
  · rw [if_pos q, if_pos q]
    unfold fs
    simp only [apply_ite (g_X5_foretell_in i1 jo NM r (j + 1))]
  · rw [if_neg q, if_neg q]
    unfold fs
    simp only [apply_ite (g_X5_foretell_in i1 jo NM r (j + 1))]
theorem fs_none {a t : Nat} (ha : a < 10) (hP : RPp P M) (hF : RBf G (M 19) (M 20) (M 21) (M 18)) (h : ¬ G 4 a = -9 ∨ f_X0_choiceOf P G (nI a) = -9) : fs M (nI a) t = M := by
  unfold fs
  rw [nI_clamp (by omega)]
  have e := (hF.2.1 a ha).1
  rcases h with h | h
  · rw [if_neg (fun z => h (e.trans z))]
  · rw [next_t_eq hP hF ha] at h
    by_cases q : M 21 a = -9
    · rw [if_pos q, if_pos h]
    · rw [if_neg q]
theorem fs_sim {a t : Nat} (ha : a < 10) (ht : t < 240) (hP : RPp P M) (hF : RBf G (M 19) (M 20) (M 21) (M 18)) (hH : ¬ H 0 0 < nI 0) (h4 : G 4 a = -9) (hc : ¬ f_X0_choiceOf P G (nI a) = -9) :
    ∃ G' M' : Nat → Nat → Int32, f_X0_askBest 0 P G H (nI t) (nI a) = (1, G', H) ∧ fs M (nI a) t = M' ∧ RBf G' (M' 19) (M' 20) (M' 21) (M' 18) ∧ (∀ c, c < 18 → M' c = M c) ∧ G' 0 = G 0 := by
  have hw : ∀ v0 v1 v2 v3 v4 v5 : Int32, f_X1_write 0 H v0 v1 v2 v3 v4 v5 = H := fun v0 v1 v2 v3 v4 v5 => by unfold f_X1_write; rw [if_neg hH]
  have eN := next_t_eq hP hF ha
  have hc' : ¬ f_X5_nextOf_t M (nI a) = -9 := fun z => hc (eN.trans z)
  obtain ⟨c, hc10, ec⟩ := vp_in_of (k_tch hP.2.2.1 hc') (by omega)
  have ecc : f_X0_choiceOf P G (nI a) = nI c := eN.trans ec
  have hne : ¬ nI c = -9 := nI_ne9 (by omega)
  have e1c := (hF.1 c hc10).1
  have h21 : M 21 a = -9 := (hF.2.1 a ha).1.symm.trans h4
  unfold f_X0_askBest fs
  simp only [ecc, ec, offer_eq hP ha hc10, nI_clamp (show a < 2 ^ 31 by omega), nI_clamp (show c < 2 ^ 31 by omega), ix10 ha hc10, vz1, h21, if_true, e1c, if_neg hne, hw]
  have tk := takes_eq (F5 := k_st G 5 (upd (G 5) a (G 5 a ||| ((1 : Int32) <<< (nI c &&& 31))))) (o := f_X5_offerOf M (nI a) (nI c)) hF hc10 ht rfl rfl
  by_cases q9 : M 19 c = -9
  · rw [if_neg (fun z => (tk.mp z).1 q9), if_pos q9, if_pos q9]
    refine ⟨_, _, rfl, rfl, ?_⟩
    unfold f_X0_bind
    rw [nI_clamp (by omega), nI_clamp (by omega), if_pos (show (k_st G 5 _) 1 c = -9 from e1c.trans q9)]
    refine ⟨RBf_bind hF ha hc10 (Or.inl ⟨q9, rfl, rfl⟩) rfl rfl rfl rfl rfl rfl rfl rfl, fun c h1 => ?_, rfl⟩
    simp only [k_st_ne _ _ (show ¬ c = 18 by omega), k_st_ne _ _ (show ¬ c = 19 by omega), k_st_ne _ _ (show ¬ c = 20 by omega), k_st_ne _ _ (show ¬ c = 21 by omega)]
  · obtain ⟨o, ho, e9⟩ := vp_in_of ((hF.1 c hc10).2.1.in q9) (by omega)
    have e120 : (120 : Int32) ≤ nI t ↔ 120 ≤ t := by rw [show (120 : Int32) = nI 120 from rfl, nI_leI (by omega) (by omega)]
    by_cases qt : 120 ≤ t ∨ f_X5_offerOf M (nI a) (nI c) ≤ M 20 c
    · rw [if_pos (tk.mpr ⟨q9, qt⟩), if_neg q9]
      have fin : ∃ G' M' : Nat → Nat → Int32, ((1 : Int32), k_st G 5 (upd (G 5) a (G 5 a ||| ((1 : Int32) <<< (nI c &&& 31)))), H) = (1, G', H) ∧ k_st M 18 (upd (M 18) (10 * a + c) 1) = M' ∧ RBf G' (M' 19) (M' 20) (M' 21) (M' 18) ∧ (∀ c, c < 18 → M' c = M c) ∧ G' 0 = G 0 :=
        ⟨_, _, rfl, rfl, RBf_ask hF ha hc10 rfl rfl rfl rfl rfl, fun c h1 => by rw [k_st_ne _ _ (by omega)], rfl⟩
      by_cases q1 : 120 ≤ t
      · rw [if_pos (e120.mpr q1)]; exact fin
      · rw [if_neg (fun z => q1 (e120.mp z)), if_pos (qt.resolve_left q1)]; exact fin
    · rw [if_neg (fun z => qt (tk.mp z).2), if_neg q9, if_neg q9, if_neg (fun z => qt (Or.inl (e120.mp z))), if_neg (fun z => qt (Or.inr z))]
      refine ⟨_, _, rfl, rfl, ?_⟩
      unfold f_X0_bind
      rw [nI_clamp (by omega), nI_clamp (by omega), if_neg (show ¬ (k_st G 5 _) 1 c = -9 from fun z => q9 (e1c.symm.trans z))]
      have e1o : (k_st G 5 (upd (G 5) a (G 5 a ||| ((1 : Int32) <<< (nI c &&& 31))))) 1 c = nI o := e1c.trans e9
      rw [e1o, e9, nI_clamp (by omega)]
      refine ⟨RBf_bind hF ha hc10 (Or.inr ⟨o, ho, e9, rfl, rfl⟩) rfl rfl rfl rfl rfl rfl rfl rfl, fun c h1 => ?_, rfl⟩
      simp only [k_st_ne _ _ (show ¬ c = 18 by omega), k_st_ne _ _ (show ¬ c = 19 by omega), k_st_ne _ _ (show ¬ c = 20 by omega), k_st_ne _ _ (show ¬ c = 21 by omega)]
theorem pp_congr {M' : Nat → Nat → Int32} (hP : RPp P M) (e : ∀ c, c < 18 → M' c = M c) : RPp P M' := by
  unfold RPp
  rw [e 0 (by omega), e 1 (by omega), e 2 (by omega), e 3 (by omega), e 4 (by omega), e 5 (by omega), e 6 (by omega), e 7 (by omega)]
  exact hP
/-- the j-th master, by number or from the last on -/
def mj (i2 : Int32) (NM j : Nat) : Nat := if i2 = 0 then j else NM - 1 - j
theorem mj_lt {i2 : Int32} {NM j : Nat} (h : j < NM) : mj i2 NM j < NM := by unfold mj; split <;> omega
theorem mj_eq {i2 : Int32} {NM j : Nat} {x : Int32} (h : j < NM) (hN : NM ≤ 10) (hx : x = nI NM) : (if i2 = 0 then nI j else (x - 1) - nI j) = nI (mj i2 NM j) := by
  unfold mj
  by_cases q : i2 = 0
  · rw [if_pos q, if_pos q]
  · rw [if_neg q, if_neg q, hx, show (1 : Int32) = nI 1 from rfl, pk_sub (by omega), pk_sub (by omega)]
theorem fplay_step {i2 : Int32} {t NM r j : Nat} {a : Int32} (hj : j < NM) (hN : NM ≤ 10) (hP1 : P 0 1 = nI NM) : g_X0_playMinute_lp 0 P (nI t) i2 (r + 1) j a G H = (if G 4 (mj i2 NM j) = -9 then (if (f_X0_askBest 0 P G H (nI t) (nI (mj i2 NM j))).1 = 0 then g_X0_playMinute_lp 0 P (nI t) i2 r (j + 1) a (f_X0_askBest 0 P G H (nI t) (nI (mj i2 NM j))).2.1 (f_X0_askBest 0 P G H (nI t) (nI (mj i2 NM j))).2.2 else g_X0_playMinute_lp 0 P (nI t) i2 r (j + 1) 1 (f_X0_askBest 0 P G H (nI t) (nI (mj i2 NM j))).2.1 (f_X0_askBest 0 P G H (nI t) (nI (mj i2 NM j))).2.2) else g_X0_playMinute_lp 0 P (nI t) i2 r (j + 1) a G H) := by
  have e := mj_eq (i2 := i2) (x := P 0 1) hj hN hP1
  have hm := mj_lt (i2 := i2) hj
  rw [g_X0_playMinute_lp]
  by_cases q : i2 = 0
  · rw [if_pos q] at e
    rw [if_pos q, e, nI_clamp (by omega)]
  · rw [if_neg q] at e
    rw [if_neg q, e, nI_clamp (by omega)]
theorem fplay_lp {t NM : Nat} {i2 : Int32} (ht : t < 240) (hN : NM ≤ 10) (hP1 : P 0 1 = nI NM) (hH : ¬ H 0 0 < nI 0) : ∀ (r j : Nat) (a : Int32) (G M : Nat → Nat → Int32), j + r = NM → RPp P M → RBf G (M 19) (M 20) (M 21) (M 18) →
    ∃ (a' : Int32) (G' M' : Nat → Nat → Int32), g_X0_playMinute_lp 0 P (nI t) i2 r j a G H = (a', G', H) ∧ g_X5_foretell_in i2 t NM r j M = M' ∧ RBf G' (M' 19) (M' 20) (M' 21) (M' 18) ∧ (∀ c, c < 18 → M' c = M c) ∧ G' 0 = G 0 ∧ (a' = 0 → a = 0 ∧ G' = G ∧ M' = M ∧ ∀ m, j ≤ m → m < NM → (¬ G 4 (mj i2 NM m) = -9 ∨ f_X0_choiceOf P G (nI (mj i2 NM m)) = -9)) := by
  intro r
  induction r with
  | zero =>
    intro j a G M hj hP hF
    exact ⟨a, G, M, by rw [g_X0_playMinute_lp], by rw [g_X5_foretell_in], hF, fun _ _ => rfl, rfl, fun h => ⟨h, rfl, rfl, fun m h1 h2 => absurd h2 (by omega)⟩⟩
  | succ r ih =>
    intro j a G M hj hP hF
    have hjN : j < NM := by omega
    have hm := mj_lt (i2 := i2) hjN
    have hm10 : mj i2 NM j < 10 := by omega
    have emj : (if i2 = 0 then nI j else ((M 0 2) - 1) - nI j) = nI (mj i2 NM j) := mj_eq hjN hN (hP.2.1.symm.trans hP1)
    by_cases hq : ¬ G 4 (mj i2 NM j) = -9 ∨ f_X0_choiceOf P G (nI (mj i2 NM j)) = -9
    · obtain ⟨a', G', M', e1, e2, g1, g2, g3, g4⟩ := ih (j + 1) a G M (by omega) hP hF
      refine ⟨a', G', M', ?_, by rw [fin_step, emj, fs_none hm10 hP hF hq]; exact e2, g1, g2, g3, fun h => ?_⟩
      · rw [fplay_step hjN hN hP1]
        by_cases q : G 4 (mj i2 NM j) = -9
        · have hc := hq.resolve_left (fun z => z q)
          have ea : f_X0_askBest 0 P G H (nI t) (nI (mj i2 NM j)) = (0, G, H) := by unfold f_X0_askBest; rw [if_pos hc]
          rw [if_pos q, ea, if_pos rfl]; exact e1
        · rw [if_neg q]; exact e1
      · obtain ⟨z1, z2, z4, z5⟩ := g4 h
        refine ⟨z1, z2, z4, fun m h1 h2 => ?_⟩
        by_cases e : m = j
        · subst e; exact hq
        · exact z5 m (by omega) h2
    · have q4 : G 4 (mj i2 NM j) = -9 := Classical.byContradiction fun z => hq (Or.inl z)
      have qc : ¬ f_X0_choiceOf P G (nI (mj i2 NM j)) = -9 := fun z => hq (Or.inr z)
      obtain ⟨G1, M1, k1, k2, k3, k6, k7⟩ := fs_sim hm10 ht hP hF hH q4 qc
      obtain ⟨a', G', M', e1, e2, g1, g2, g3, g4⟩ := ih (j + 1) 1 G1 M1 (by omega) (pp_congr hP k6) k3
      refine ⟨a', G', M', ?_, by rw [fin_step, emj, k2]; exact e2, g1, fun c hc => (g2 c hc).trans (k6 c hc), g3.trans k7, fun h => absurd (g4 h).1 one_ne⟩
      rw [fplay_step hjN hN hP1, if_pos q4, k1, if_neg one_ne]
      exact e1
theorem fq_in {NM t : Nat} {i2 : Int32} (hN : NM ≤ 10) (hP1 : P 0 1 = nI NM) (hP : RPp P M) (hF : RBf G (M 19) (M 20) (M 21) (M 18)) (hq : ∀ m, m < NM → (¬ G 4 (mj i2 NM m) = -9 ∨ f_X0_choiceOf P G (nI (mj i2 NM m)) = -9)) : ∀ (r j : Nat), j + r = NM → g_X5_foretell_in i2 t NM r j M = M := by
  intro r
  induction r with
  | zero => intro j _; rw [g_X5_foretell_in]
  | succ r ih =>
    intro j hj
    have hm := mj_lt (i2 := i2) (show j < NM by omega)
    rw [fin_step, mj_eq (show j < NM by omega) hN (hP.2.1.symm.trans hP1), fs_none (by omega) hP hF (hq j (by omega))]
    exact ih (j + 1) (by omega)
theorem fq_out {NM : Nat} {i2 : Int32} (hN : NM ≤ 10) (hP1 : P 0 1 = nI NM) (hP : RPp P M) (hF : RBf G (M 19) (M 20) (M 21) (M 18)) (hq : ∀ m, m < NM → (¬ G 4 (mj i2 NM m) = -9 ∨ f_X0_choiceOf P G (nI (mj i2 NM m)) = -9)) : ∀ (r j : Nat), g_X5_foretell_out i2 NM r j M = M := by
  intro r
  induction r with
  | zero => intro j; rw [g_X5_foretell_out]
  | succ r ih => intro j; rw [g_X5_foretell_out, fq_in hN hP1 hP hF hq NM 0 (by omega)]; exact ih (j + 1)
theorem fore_main {NM : Nat} {i1 i2 en : Int32} (hN : NM ≤ 10) (hP1 : P 0 1 = nI NM) (hH : ¬ H 0 0 < nI 0) : ∀ (r j : Nat) (asking : Int32) (G M : Nat → Nat → Int32), j + r = 240 → RPp P M → RBf G (M 19) (M 20) (M 21) (M 18) → (asking = 0 → ∀ m, m < NM → (¬ G 4 (mj i2 NM m) = -9 ∨ f_X0_choiceOf P G (nI (mj i2 NM m)) = -9)) →
    ∃ (a' : Int32) (G' M' : Nat → Nat → Int32), g_X0_goOn_lp 0 P i1 i2 en r j asking G H = (a', G', H) ∧ g_X5_foretell_out i2 NM r j M = M' ∧ RBf G' (M' 19) (M' 20) (M' 21) (M' 18) ∧ (∀ c, c < 18 → M' c = M c) := by
  intro r
  induction r with
  | zero => intro j asking G M _ hP hF _; exact ⟨asking, G, M, by rw [g_X0_goOn_lp], by rw [g_X5_foretell_out], hF, fun _ _ => rfl⟩
  | succ r ih =>
    intro j asking G M hj hP hF hq
    by_cases qa : asking = 0
    · exact ⟨asking, G, M, by rw [g_X0_goOn_lp, if_pos qa], fq_out hN hP1 hP hF (hq qa) _ _, hF, fun _ _ => rfl⟩
    · obtain ⟨a1, G1, M1, p1, p2, p3, p4, p5, p6⟩ := fplay_lp (i2 := i2) (show j < 240 by omega) hN hP1 hH NM 0 0 G M (by omega) hP hF
      obtain ⟨a', G', M', e1, e2, e3, e4⟩ := ih (j + 1) a1 G1 M1 (by omega) (pp_congr hP p4) p3 (fun z => by
        obtain ⟨-, z2, z4, z5⟩ := p6 z
        rw [z2]
        exact fun m hm => z5 m (by omega) hm)
      have epl : f_X0_playMinute 0 P G H (nI j) i2 = (a1, G1, H) := by
        unfold f_X0_playMinute
        rw [hP1, nI_clamp (by omega), p1]
      refine ⟨a', G', M', ?_, ?_, e3, fun c hc => (e4 c hc).trans (p4 c hc)⟩
      · rw [g_X0_goOn_lp, if_neg qa, epl]; exact e1
      · rw [g_X5_foretell_out, p2]; exact e2
theorem k_fa0 (i1 : Int32) : ∀ (r j : Nat) (M : Nat → Nat → Int32), j + r = 100 → (∀ i, i < j → M 18 i = 0) → ∀ i, i < 100 → (g_X5_foretell_a i1 r j M) 18 i = 0 := by
  intro r
  induction r with
  | zero => intro j M hj h i hi; rw [g_X5_foretell_a]; exact h i (by omega)
  | succ r ih =>
    intro j M hj h i hi
    rw [g_X5_foretell_a, nI_clamp (by omega), vz0]
    refine ih (j + 1) _ (by omega) (fun i2 hi2 => ?_) i hi
    show upd (M 18) j 0 i2 = 0
    by_cases e : i2 = j
    · subst e; exact pk_us
    · rw [pk_un e]; exact h i2 (by omega)
theorem fore_start (hP : RPp P M) (i1 : Int32) : RBf (f_X0_startAnew G H).1 ((g_X5_foretell_b i1 10 0 (g_X5_foretell_a i1 100 0 M)) 19) ((g_X5_foretell_b i1 10 0 (g_X5_foretell_a i1 100 0 M)) 20) ((g_X5_foretell_b i1 10 0 (g_X5_foretell_a i1 100 0 M)) 21) ((g_X5_foretell_b i1 10 0 (g_X5_foretell_a i1 100 0 M)) 18) := by
  obtain ⟨a, b⟩ := k_fb i1 10 0 (g_X5_foretell_a i1 100 0 M) (by omega)
  have b' := b (fun i hi => absurd hi (by omega))
  have e18 := a 18 (by omega) (by omega)
  have z18 := k_fa0 i1 100 0 M (by omega) (fun i hi => absurd hi (by omega))
  refine ⟨fun j hj => ?_, fun j hj => ?_, fun m hm q => absurd (b' m hm).2 q, fun m hm s hs => ?_⟩
  · have e1 : (f_X0_startAnew G H).1 1 j = -9 := k_fill (n := 10) (by omega) hj
    rw [e1, (b' j hj).1]; exact ⟨rfl, Or.inl rfl, fun z => absurd rfl z⟩
  · have e1 : (f_X0_startAnew G H).1 4 j = -9 := k_fill (n := 10) (by omega) hj
    rw [e1, (b' j hj).2]; exact ⟨rfl, Or.inl rfl⟩
  · have e1 : (f_X0_startAnew G H).1 5 m = 0 := k_fill (n := 10) (by omega) hm
    rw [e1, e18, z18 _ (by omega), bt_0]; exact ⟨fun _ => rfl, fun _ => rfl⟩
theorem fore_all (h : REL P F L Y J tx M) (i : Int32) : ∃ G' M' : Nat → Nat → Int32, (f_X0_goOn 0 P (f_X0_startAnew G H).1 (f_X0_startAnew G H).2 240 i).1 = G' ∧ f_X5_foretell M i = M' ∧ RPp P M' ∧ RBf G' (M' 19) (M' 20) (M' 21) (M' 18) ∧ (∀ c, c < 18 → M' c = M c) := by
  obtain ⟨NM, hNM, eN⟩ := h.1.2.2.2.1.get
  obtain ⟨a, -⟩ := k_fb i 10 0 (g_X5_foretell_a i 100 0 M) (by omega)
  have e0 : ∀ c, c < 18 → (g_X5_foretell_b i 10 0 (g_X5_foretell_a i 100 0 M)) c = M c := fun c hc => by rw [a c (by omega) (by omega), k_fa i 100 0 M c (by omega)]
  obtain ⟨a', G', M', g1, g2, g3, g4⟩ := fore_main (P := P) (i1 := 240) (i2 := i) (en := 240) (H := (f_X0_startAnew G H).2) hNM (h.1.2.1.trans eN) (show ¬ (0 : Int32) < nI 0 by decide) 240 0 1 (f_X0_startAnew G H).1 (g_X5_foretell_b i 10 0 (g_X5_foretell_a i 100 0 M)) (by omega) (pp_congr h.1 e0) (fore_start h.1 i) (fun z => absurd z one_ne)
  refine ⟨_, M', rfl, ?_, pp_congr h.1 (fun c hc => (g4 c hc).trans (e0 c hc)), ?_, fun c hc => (g4 c hc).trans (e0 c hc)⟩
  · unfold f_X5_foretell
    rw [eN, nI_clamp (by omega)]; exact g2
  · have e00 : (f_X0_startAnew G H).1 0 0 = 0 := rfl
    unfold f_X0_goOn
    rw [e00, show (if (240 : Int32) < 0 + 240 then (240 : Int32) else 0 + 240) = 240 by decide, show (240 : Int32).toNatClampNeg - (0 : Int32).toNatClampNeg = 240 by decide, show (0 : Int32).toNatClampNeg = 0 by decide, g1]
    exact g3
theorem fo_in (hP : RPp P M) (hF : RBf G (M 19) (M 20) (M 21) (M 18)) {b : Nat} {i1 i2 : Int32} (hb : b < 10) : ∀ (r j : Nat) (x : Int32), j + r ≤ 10 → g_X0_countTorn_in P G b r j x = g_X5_foretold_in M i1 i2 b r j x := by
  intro r
  induction r with
  | zero => intro j x _; rw [g_X0_countTorn_in, g_X5_foretold_in]
  | succ r ih =>
    intro j x hj
    rw [g_X0_countTorn_in, g_X5_foretold_in]
    simp only [torn_t_eq hP hF (show j < 10 by omega) hb, ih (j + 1) _ (by omega), Int32.add_zero]
theorem fo_torn (hP : RPp P M) (hF : RBf G (M 19) (M 20) (M 21) (M 18)) {i1 : Int32} : ∀ (r j : Nat) (x : Int32), j + r ≤ 10 → g_X0_countTorn_out P G r j x = g_X5_foretold_out M i1 1 r j x := by
  intro r
  induction r with
  | zero => intro j x _; rw [g_X0_countTorn_out, g_X5_foretold_out]
  | succ r ih =>
    intro j x hj
    rw [g_X0_countTorn_out, g_X5_foretold_out, if_pos rfl, hP.2.1, fo_in hP hF (show j < 10 by omega) _ _ _ (by have := hP.2.2.2.1.2; omega), ih (j + 1) _ (by omega)]
theorem fo_cnt (hF : RBf G (M 19) (M 20) (M 21) (M 18)) {i1 : Int32} : ∀ (r j : Nat) (x : Int32), j + r ≤ 10 → g_X0_countBound_lp P G r j x = g_X5_foretold_out M i1 0 r j x := by
  intro r
  induction r with
  | zero => intro j x _; rw [g_X0_countBound_lp, g_X5_foretold_out]
  | succ r ih =>
    intro j x hj
    rw [g_X0_countBound_lp, g_X5_foretold_out, if_neg (show ¬ (0 : Int32) = 1 by decide), nI_clamp (by omega)]
    by_cases q : M 19 j = -9
    · rw [if_pos q, if_pos ((bd_eq hF (by omega)).mpr q), ih (j + 1) _ (by omega), Int32.add_zero]
    · rw [if_neg q, if_neg (fun z => q ((bd_eq hF (by omega)).mp z)), if_pos rfl, ih (j + 1) _ (by omega)]
theorem fo_sum (hF : RBf G (M 19) (M 20) (M 21) (M 18)) {i1 i2 : Int32} (h1 : ¬ i2 = 1) (h0 : ¬ i2 = 0) : ∀ (r j : Nat) (x : Int32), j + r ≤ 10 → g_X0_sumWages_lp P G r j x = g_X5_foretold_out M i1 i2 r j x := by
  intro r
  induction r with
  | zero => intro j x _; rw [g_X0_sumWages_lp, g_X5_foretold_out]
  | succ r ih =>
    intro j x hj
    rw [g_X0_sumWages_lp, g_X5_foretold_out, if_neg h1, nI_clamp (by omega)]
    by_cases q : M 19 j = -9
    · rw [if_pos q, if_pos ((bd_eq hF (by omega)).mpr q), ih (j + 1) _ (by omega), Int32.add_zero]
    · rw [if_neg q, if_neg (fun z => q ((bd_eq hF (by omega)).mp z)), if_neg h0, (hF.1 j (by omega)).2.2 q, ih (j + 1) _ (by omega)]
theorem rel_congr {M' : Nat → Nat → Int32} (h : REL P F L Y J tx M) (e : ∀ c, c < 18 → M' c = M c) : REL P F L Y J tx M' := by
  unfold REL RPp RXf RLd RYr
  rw [e 0 (by omega), e 1 (by omega), e 2 (by omega), e 3 (by omega), e 4 (by omega), e 5 (by omega), e 6 (by omega), e 7 (by omega), e 8 (by omega), e 9 (by omega), e 10 (by omega), e 11 (by omega), e 12 (by omega), e 13 (by omega), e 14 (by omega), e 15 (by omega), e 16 (by omega), e 17 (by omega)]
  exact h
theorem sim_foretold (h : REL P F L Y J tx M) (i1 i2 : Int32) : (f_X4_foretold tx P G H i1 i2).1 = (f_X5_foretold M i1 i2).1 ∧ REL P F L Y J tx (f_X5_foretold M i1 i2).2 := by
  unfold f_X4_foretold f_X5_foretold
  rw [← w_eq (x := i1) (y := 0) (z := 1) rfl rfl, ← w_eq (x := i2) (y := 0) (z := 2) rfl rfl]
  by_cases q1 : f_X4_isWithin i1 0 1 = 0
  · rw [if_pos q1, if_pos q1]; exact ⟨rfl, h⟩
  rw [if_neg q1, if_neg q1]
  by_cases q2 : f_X4_isWithin i2 0 2 = 0
  · rw [if_pos q2, if_pos q2]; exact ⟨rfl, h⟩
  rw [if_neg q2, if_neg q2]
  have key : ∀ i : Int32, (if i2 = 0 then f_X0_countBound P (f_X0_goOn 0 P (f_X0_startAnew G H).1 (f_X0_startAnew G H).2 240 i).1 else if i2 = 1 then f_X0_countTorn P (f_X0_goOn 0 P (f_X0_startAnew G H).1 (f_X0_startAnew G H).2 240 i).1 else f_X0_sumWages P (f_X0_goOn 0 P (f_X0_startAnew G H).1 (f_X0_startAnew G H).2 240 i).1) = g_X5_foretold_out (f_X5_foretell M i) i1 i2 ((f_X5_foretell M i) 0 1).toNatClampNeg 0 0 ∧ REL P F L Y J tx (f_X5_foretell M i) := by
    intro i
    obtain ⟨G', M', e1, e2, e3, e4, e5⟩ := fore_all (G := G) (H := H) h i
    rw [e1, e2]
    refine ⟨?_, rel_congr h e5⟩
    have hb := e3.2.2.1.2
    by_cases z0 : i2 = 0
    · subst z0
      rw [if_pos rfl]
      unfold f_X0_countBound
      rw [fo_cnt e4 _ _ _ (by rw [e3.1]; omega), e3.1]
    · rw [if_neg z0]
      by_cases z1 : i2 = 1
      · subst z1
        rw [if_pos rfl]
        unfold f_X0_countTorn
        rw [fo_torn e3 e4 _ _ _ (by rw [e3.1]; omega), e3.1]
      · rw [if_neg z1]
        unfold f_X0_sumWages
        rw [fo_sum e4 z1 z0 _ _ _ (by rw [e3.1]; omega), e3.1]
  by_cases q3 : i1 = 1
  · rw [if_pos q3, if_pos q3]
    refine ⟨?_, (key 1).2⟩
    rw [← (key 1).1]
    by_cases z0 : i2 = 0
    · rw [if_pos z0, if_pos z0]
    · rw [if_neg z0, if_neg z0]
      by_cases z1 : i2 = 1
      · rw [if_pos z1, if_pos z1]
      · rw [if_neg z1, if_neg z1]
  · rw [if_neg q3, if_neg q3]
    refine ⟨?_, (key 0).2⟩
    rw [← (key 0).1]
    by_cases z0 : i2 = 0
    · rw [if_pos z0, if_pos z0]
    · rw [if_neg z0, if_neg z0]
      by_cases z1 : i2 = 1
      · rw [if_pos z1, if_pos z1]
      · rw [if_neg z1, if_neg z1]
end SIM
