theorem k_choice_lp (sP sF : Nat → Nat → Int32) (i1 : Int32) : ∀ (r j : Nat) (a1 a2 : Int32), j + r ≤ 10 → k_o a1 10 → k_o (g_X0_choiceOf_lp sP sF i1 r j a1 a2).1 10 := by
  intro r
  induction r with
  | zero => intro j a1 a2 _ h; rw [g_X0_choiceOf_lp]; exact h
  | succ r ih =>
    intro j a1 a2 hj h
    have hv : k_o (nI j) 10 := Or.inr (vp_in_nI (by omega) (by omega))
    rw [g_X0_choiceOf_lp]
    repeat' split
    all_goals first | exact ih _ _ _ (by omega) h | exact ih _ _ _ (by omega) hv
theorem k_choice {sP sF : Nat → Nat → Int32} {i1 : Int32} (hNs : k_n (sP 0 0) 10) : k_o (f_X0_choiceOf sP sF i1) 10 :=
  k_choice_lp sP sF i1 _ _ _ _ (by have := hNs.2; omega) (Or.inl rfl)
