/-! the fair: a master's turn, a minute, the minutes -/
section SIM
variable {P F L Y : Nat → Nat → Int32} {J : Nat → Int64} {tx : Int32} {M : Nat → Nat → Int32}
theorem RBf_ask {F' : Nat → Nat → Int32} {bo wg ha as as' : Nat → Int32} {a s : Nat} (h : RBf F bo wg ha as) (h1 : a < 10) (h2 : s < 10) (e1 : F' 1 = F 1) (e2 : F' 2 = F 2) (e4 : F' 4 = F 4) (e5 : F' 5 = upd (F 5) a (F 5 a ||| ((1 : Int32) <<< (nI s &&& 31)))) (eas : as' = upd as (10 * a + s) 1) : RBf F' bo wg ha as' := by
  unfold RBf
  rw [e1, e2, e4, e5, eas]
  refine ⟨h.1, h.2.1, h.2.2.1, bits_upd h1 h2 h.2.2.2 (fun i hi e => ?_) ?_⟩
  · rw [bt_set h2]; simp [show ¬ s = i from fun z => e z.symm]
  · rw [bt_set h2]; simp
theorem RBf_bind {F' : Nat → Nat → Int32} {bo wg ha as bo' wg' ha' as' fa hb : Nat → Int32} {a s : Nat} {w : Int32} (h : RBf F bo wg ha as) (h1 : a < 10) (h2 : s < 10) (ho : (bo s = -9 ∧ fa = F 4 ∧ hb = ha) ∨ ∃ o, o < 10 ∧ bo s = nI o ∧ fa = upd (F 4) o (-9) ∧ hb = upd ha o (-9))
    (e1 : F' 1 = upd (F 1) s (nI a)) (e2 : F' 2 = upd (F 2) s w) (e4 : F' 4 = upd fa a (nI s)) (e5 : F' 5 = upd (F 5) a (F 5 a ||| ((1 : Int32) <<< (nI s &&& 31)))) (ebo : bo' = upd bo s (nI a)) (ewg : wg' = upd wg s w) (eha : ha' = upd hb a (nI s)) (eas : as' = upd as (10 * a + s) 1) : RBf F' bo' wg' ha' as' := by
  have va : vp_in (nI a) 10 := vp_in_nI h1 (by omega)
  have vs : vp_in (nI s) 10 := vp_in_nI h2 (by omega)
  have hfa : ∀ j, j < 10 → fa j = hb j ∧ k_o (hb j) 10 ∧ (¬ hb j = -9 → hb j = ha j ∧ ¬ (hb j).toNatClampNeg = s) := by
    intro j hj
    rcases ho with ⟨h9, rfl, rfl⟩ | ⟨o, ho1, h9, rfl, rfl⟩
    · refine ⟨(h.2.1 j hj).1, (h.2.1 j hj).2, fun q => ⟨rfl, fun z => ?_⟩⟩
      have := h.2.2.1 j hj q
      rw [z, h9] at this
      exact nI_ne9 (by omega) this.symm
    · by_cases e : j = o
      · subst e; rw [pk_us, pk_us]; exact ⟨rfl, Or.inl rfl, fun q => absurd rfl q⟩
      · rw [pk_un e, pk_un e]
        refine ⟨(h.2.1 j hj).1, (h.2.1 j hj).2, fun q => ⟨rfl, fun z => ?_⟩⟩
        have := h.2.2.1 j hj q
        rw [z, h9, nI_eq (by omega) (by omega)] at this
        exact e this.symm
  unfold RBf
  rw [e1, e2, e4, e5, ebo, ewg, eha, eas]
  refine ⟨fun j hj => ?_, fun j hj => ?_, fun m hm q => ?_, bits_upd h1 h2 h.2.2.2 (fun i hi e => ?_) ?_⟩
  · by_cases e : j = s
    · subst e; rw [pk_us, pk_us, pk_us, pk_us]; exact ⟨rfl, Or.inr va, fun _ => rfl⟩
    · rw [pk_un e, pk_un e, pk_un e, pk_un e]; exact h.1 j hj
  · by_cases e : j = a
    · subst e; rw [pk_us, pk_us]; exact ⟨rfl, Or.inr vs⟩
    · rw [pk_un e, pk_un e]; exact ⟨(hfa j hj).1, (hfa j hj).2.1⟩
  · by_cases e : m = a
    · subst e; rw [pk_us, nI_clamp (by omega), pk_us]
    · rw [pk_un e] at q ⊢
      obtain ⟨z1, z2⟩ := (hfa m hm).2.2 q
      rw [pk_un z2, z1]
      exact h.2.2.1 m hm (by rw [← z1]; exact q)
  · rw [bt_set h2]; simp [show ¬ s = i from fun z => e z.symm]
  · rw [bt_set h2]; simp
theorem RXf_upd {F' M' : Nat → Nat → Int32} {a s : Nat} {w v : Int32} (h : RXf F M) (h1 : a < 10) (h2 : s < 10) (e2 : F' 2 = upd (F 2) s w) (e3 : F' 3 = upd (F 3) s v) (e5 : F' 5 = upd (F 5) a (F 5 a ||| ((1 : Int32) <<< (nI s &&& 31)))) (m9 : M' 9 = upd (M 9) s (nI a)) (m11 : M' 11 = upd (M 11) s v) : RXf F' M' := by
  unfold RXf
  rw [e2, e3, e5, m9, m11]
  refine ⟨fun j hj => ?_, fun m hm i hi => ?_⟩
  · by_cases e : j = s
    · subst e; rw [pk_us, pk_us, pk_us, pk_us]; exact ⟨fun z => absurd z (nI_ne9 (by omega)), fun _ => rfl⟩
    · rw [pk_un e, pk_un e, pk_un e, pk_un e]; exact h.1 j hj
  · by_cases e : m = a
    · subst e; rw [pk_us, bt_set h2, h.2 m hm i hi]; simp; omega
    · rw [pk_un e]; exact h.2 m hm i hi
theorem RXf_ask {F' M' : Nat → Nat → Int32} {a s : Nat} (h : RXf F M) (h1 : a < 10) (h2 : s < 10) (e2 : F' 2 = F 2) (e3 : F' 3 = F 3) (e5 : F' 5 = upd (F 5) a (F 5 a ||| ((1 : Int32) <<< (nI s &&& 31)))) (m9 : M' 9 = M 9) (m11 : M' 11 = M 11) : RXf F' M' := by
  unfold RXf
  rw [e2, e3, e5, m9, m11]
  refine ⟨h.1, fun m hm i hi => ?_⟩
  by_cases e : m = a
  · subst e; rw [pk_us, bt_set h2, h.2 m hm i hi]; simp; omega
  · rw [pk_un e]; exact h.2 m hm i hi
def W6 (f : Nat → Int32) (x v0 v1 v2 v3 v4 v5 : Int32) : Nat → Int32 := upd (upd (upd (upd (upd (upd f x.toNatClampNeg v0) (x + 1).toNatClampNeg v1) (x + 2).toNatClampNeg v2) (x + 3).toNatClampNeg v3) (x + 4).toNatClampNeg v4) (x + 5).toNatClampNeg v5
theorem write_eq {n : Nat} {v0 v1 v2 v3 v4 v5 : Int32} (h : L 0 0 < nI n) : f_X1_write n L v0 v1 v2 v3 v4 v5 1 = W6 (L 1) (6 * L 0 0) v0 v1 v2 v3 v4 v5 ∧ f_X1_write n L v0 v1 v2 v3 v4 v5 0 0 = L 0 0 + 1 := by
  unfold f_X1_write
  rw [if_pos h]
  refine ⟨?_, rfl⟩
  rw [Int32.mul_comm 6]
  rfl
theorem RLd_ask {L' M' : Nat → Nat → Int32} {n a s : Nat} {v0 v1 v2 v3 v4 v5 : Int32} (h : RLd L M) (hlt : L 0 0 < nI n) (hz : M 8 (10 * a + s) = 0) (h1 : a < 10) (h2 : s < 10) (eL : L' = f_X1_write n L v0 v1 v2 v3 v4 v5) (m13 : M' 13 = W6 (M 13) (6 * M 0 4) v0 v1 v2 v3 v4 v5) (m4 : M' 0 4 = M 0 4 + 1) (m8 : M' 8 = upd (M 8) (10 * a + s) 1) : RLd L' M' := by
  obtain ⟨w1, w2⟩ := write_eq (L := L) (v0 := v0) (v1 := v1) (v2 := v2) (v3 := v3) (v4 := v4) (v5 := v5) hlt
  subst eL
  refine ⟨by rw [w2, m4, h.1], by rw [w1, m13, h.1, h.2.1], ?_⟩
  rw [m4, m8, cntZ_upd (M 8) hz one_ne 100 (by omega), h.2.2, nI_1]
def FRm (M M' : Nat → Nat → Int32) : Prop := (∀ c, c < 8 → ¬ c = 0 → M' c = M c) ∧ (∀ c, 14 ≤ c → M' c = M c) ∧ (∀ i, ¬ i = 4 → M' 0 i = M 0 i)
theorem FRm.rf : FRm M M := ⟨fun _ _ _ => rfl, fun _ _ => rfl, fun _ _ => rfl⟩
theorem FRm.tr {M1 M2 : Nat → Nat → Int32} (h : FRm M M1) (h2 : FRm M1 M2) : FRm M M2 := ⟨fun c a b => (h2.1 c a b).trans (h.1 c a b), fun c a => (h2.2.1 c a).trans (h.2.1 c a), fun i a => (h2.2.2 i a).trans (h.2.2 i a)⟩
theorem FRm.pp {M1 : Nat → Nat → Int32} (h : FRm M M1) (hP : RPp P M) : RPp P M1 := by
  unfold RPp
  rw [h.2.2 1 (by omega), h.2.2 2 (by omega), h.1 1 (by omega) (by omega), h.1 2 (by omega) (by omega), h.1 3 (by omega) (by omega), h.1 4 (by omega) (by omega), h.1 5 (by omega) (by omega), h.1 6 (by omega) (by omega), h.1 7 (by omega) (by omega)]
  exact hP
theorem takes_eq {F5 : Nat → Nat → Int32} {bo wg ha as : Nat → Int32} {t c : Nat} {o : Int32} (hF : RBf F bo wg ha as) (hc : c < 10) (ht : t < 240) (e1 : F5 1 = F 1) (e2 : F5 2 = F 2) : f_X0_takes F5 (nI t) (nI c) o = 0 ↔ ¬ (bo c = -9) ∧ (120 ≤ t ∨ o ≤ wg c) := by
  unfold f_X0_takes f_X0_isBound
  rw [nI_clamp (by omega), e1, e2, (hF.1 c hc).1]
  by_cases q : bo c = -9
  · simp [q]
  · have e120 : (120 : Int32) ≤ nI t ↔ 120 ≤ t := by rw [show (120 : Int32) = nI 120 from rfl, nI_leI (by omega) (by omega)]
    rw [(hF.1 c hc).2.2 q]
    by_cases q1 : 120 ≤ t <;> by_cases q2 : o ≤ wg c <;> simp [q, e120, q1, q2]
theorem ask_sim {a t : Nat} (ha : a < 10) (ht : t < 240) (hP : RPp P M) (hF : RBf F (M 9) (M 10) (M 12) (M 8)) (hX : RXf F M) (hL : RLd L M) (h3 : M 0 3 = nI t) (h12 : M 12 a = -9) (hc : ¬ f_X5_nextOf M (nI a) = -9) :
    ∃ F' L' M' : Nat → Nat → Int32, f_X0_askBest 100 P F L (nI t) (nI a) = (1, F', L') ∧ f_X5_ask M (nI a) = M' ∧ RBf F' (M' 9) (M' 10) (M' 12) (M' 8) ∧ RXf F' M' ∧ RLd L' M' ∧ FRm M M' ∧ F' 0 = F 0 := by
  obtain ⟨hv, hz⟩ := (k_mchoice (vp_in_nI ha (by omega)) hP.2.2.1).resolve_left hc
  obtain ⟨c, hc10, ec⟩ := vp_in_of hv (by omega)
  rw [ec, nI_clamp (by omega), nI_clamp (by omega)] at hz
  have ecc : f_X0_choiceOf P F (nI a) = nI c := (next_eq hP hF ha).trans ec
  have hbg : k_n (M 0 4) 99 := by
    rw [hL.2.2]
    have := cntZ_lt (M 8) hz 100 (by omega)
    exact k_n.mk (by omega)
  have hlt : L 0 0 < nI 100 := by rw [hL.1]; exact hbg.lt (by have := hbg.2; omega)
  have hne : ¬ nI c = -9 := nI_ne9 (by omega)
  have e1c := (hF.1 c hc10).1
  have frm : ∀ M' : Nat → Nat → Int32, (∀ c, c < 8 → ¬ c = 0 → M' c = M c) → (∀ c, 14 ≤ c → M' c = M c) → M' 0 = k_st (M 0) 4 (M 0 4 + 1) → FRm M M' := fun M' z1 z2 z3 => ⟨z1, z2, fun i hi => by rw [z3, k_st_ne _ _ hi]⟩
  unfold f_X0_askBest f_X5_ask
  simp only [ecc, ec, offer_eq hP ha hc10, nI_clamp (show a < 2 ^ 31 by omega), nI_clamp (show c < 2 ^ 31 by omega), ix10 ha hc10, vz1, h12, if_true, e1c, if_neg hne]
  have tk := takes_eq (F5 := k_st F 5 (upd (F 5) a (F 5 a ||| ((1 : Int32) <<< (nI c &&& 31))))) (o := f_X5_offerOf M (nI a) (nI c)) hF hc10 ht rfl rfl
  by_cases q9 : M 9 c = -9
  · rw [if_neg (fun z => (tk.mp z).1 q9), if_pos q9, if_pos q9]
    refine ⟨_, _, _, rfl, rfl, ?_⟩
    unfold f_X0_bind
    rw [nI_clamp (by omega), nI_clamp (by omega), if_pos (show (k_st F 5 _) 1 c = -9 from e1c.trans q9)]
    refine ⟨RBf_bind hF ha hc10 (Or.inl ⟨q9, rfl, rfl⟩) rfl rfl rfl rfl rfl rfl rfl rfl, RXf_upd hX ha hc10 rfl rfl rfl rfl (by rw [← h3]; rfl), RLd_ask hL hlt hz ha hc10 rfl (by rw [← h3]; rfl) rfl rfl, frm _ (fun c h1 h2 => ?_) (fun c h1 => ?_) rfl, rfl⟩
    · simp only [k_st_ne _ _ (show ¬ c = 12 by omega), k_st_ne _ _ (show ¬ c = 11 by omega), k_st_ne _ _ (show ¬ c = 10 by omega), k_st_ne _ _ (show ¬ c = 9 by omega), k_st_ne _ _ (show ¬ c = 0 by omega), k_st_ne _ _ (show ¬ c = 13 by omega), k_st_ne _ _ (show ¬ c = 8 by omega)]
    · simp only [k_st_ne _ _ (show ¬ c = 12 by omega), k_st_ne _ _ (show ¬ c = 11 by omega), k_st_ne _ _ (show ¬ c = 10 by omega), k_st_ne _ _ (show ¬ c = 9 by omega), k_st_ne _ _ (show ¬ c = 0 by omega), k_st_ne _ _ (show ¬ c = 13 by omega), k_st_ne _ _ (show ¬ c = 8 by omega)]
  · obtain ⟨o, ho, e9⟩ := vp_in_of ((hF.1 c hc10).2.1.in q9) (by omega)
    have e120 : (120 : Int32) ≤ M 0 3 ↔ 120 ≤ t := by rw [h3, show (120 : Int32) = nI 120 from rfl, nI_leI (by omega) (by omega)]
    by_cases qt : 120 ≤ t ∨ f_X5_offerOf M (nI a) (nI c) ≤ M 10 c
    · rw [if_pos (tk.mpr ⟨q9, qt⟩), if_neg q9]
      by_cases q1 : 120 ≤ t
      · rw [if_pos (e120.mpr q1)]
        refine ⟨_, _, _, rfl, rfl, RBf_ask hF ha hc10 rfl rfl rfl rfl rfl, RXf_ask hX ha hc10 rfl rfl rfl rfl rfl, RLd_ask hL hlt hz ha hc10 rfl (by rw [← h3]; rfl) rfl rfl, frm _ (fun c h1 h2 => ?_) (fun c h1 => ?_) rfl, rfl⟩
        · simp only [k_st_ne _ _ (show ¬ c = 0 by omega), k_st_ne _ _ (show ¬ c = 13 by omega), k_st_ne _ _ (show ¬ c = 8 by omega)]
        · simp only [k_st_ne _ _ (show ¬ c = 0 by omega), k_st_ne _ _ (show ¬ c = 13 by omega), k_st_ne _ _ (show ¬ c = 8 by omega)]
      · rw [if_neg (fun z => q1 (e120.mp z)), if_pos (qt.resolve_left q1)]
        refine ⟨_, _, _, rfl, rfl, RBf_ask hF ha hc10 rfl rfl rfl rfl rfl, RXf_ask hX ha hc10 rfl rfl rfl rfl rfl, RLd_ask hL hlt hz ha hc10 rfl (by rw [← h3]; rfl) rfl rfl, frm _ (fun c h1 h2 => ?_) (fun c h1 => ?_) rfl, rfl⟩
        · simp only [k_st_ne _ _ (show ¬ c = 0 by omega), k_st_ne _ _ (show ¬ c = 13 by omega), k_st_ne _ _ (show ¬ c = 8 by omega)]
        · simp only [k_st_ne _ _ (show ¬ c = 0 by omega), k_st_ne _ _ (show ¬ c = 13 by omega), k_st_ne _ _ (show ¬ c = 8 by omega)]
    · rw [if_neg (fun z => qt (tk.mp z).2), if_neg q9, if_neg q9, if_neg (fun z => qt (Or.inl (e120.mp z))), if_neg (fun z => qt (Or.inr z))]
      refine ⟨_, _, _, rfl, rfl, ?_⟩
      unfold f_X0_bind
      rw [nI_clamp (by omega), nI_clamp (by omega), if_neg (show ¬ (k_st F 5 _) 1 c = -9 from fun z => q9 (e1c.symm.trans z))]
      have e1o : (k_st F 5 (upd (F 5) a (F 5 a ||| ((1 : Int32) <<< (nI c &&& 31))))) 1 c = nI o := e1c.trans e9
      rw [e1o, e9, nI_clamp (by omega)]
      refine ⟨RBf_bind hF ha hc10 (Or.inr ⟨o, ho, e9, rfl, rfl⟩) rfl rfl rfl rfl rfl rfl rfl rfl, RXf_upd hX ha hc10 rfl rfl rfl rfl (by rw [← h3]; rfl), RLd_ask hL hlt hz ha hc10 rfl (by rw [← h3]; rfl) rfl rfl, frm _ (fun c h1 h2 => ?_) (fun c h1 => ?_) rfl, rfl⟩
      · simp only [k_st_ne _ _ (show ¬ c = 12 by omega), k_st_ne _ _ (show ¬ c = 11 by omega), k_st_ne _ _ (show ¬ c = 10 by omega), k_st_ne _ _ (show ¬ c = 9 by omega), k_st_ne _ _ (show ¬ c = 0 by omega), k_st_ne _ _ (show ¬ c = 13 by omega), k_st_ne _ _ (show ¬ c = 8 by omega)]
      · simp only [k_st_ne _ _ (show ¬ c = 12 by omega), k_st_ne _ _ (show ¬ c = 11 by omega), k_st_ne _ _ (show ¬ c = 10 by omega), k_st_ne _ _ (show ¬ c = 9 by omega), k_st_ne _ _ (show ¬ c = 0 by omega), k_st_ne _ _ (show ¬ c = 13 by omega), k_st_ne _ _ (show ¬ c = 8 by omega)]
end SIM
