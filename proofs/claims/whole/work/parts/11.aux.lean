/-! numbers: k_n x b: x is a number 0 .. b -/
def k_n (x : Int32) (b : Nat) : Prop := x = nI x.toNatClampNeg ∧ x.toNatClampNeg ≤ b
theorem k_n.le {x : Int32} {b b' : Nat} (h : k_n x b) (hb : b ≤ b') : k_n x b' := ⟨h.1, Nat.le_trans h.2 hb⟩
theorem k_n.mk {j b : Nat} (h : j ≤ b) (hb : b < 2 ^ 31 := by omega) : k_n (nI j) b := by
  have e := nI_clamp (n := j) (by omega)
  exact ⟨by rw [e], by rw [e]; exact h⟩
theorem k_n.get {x : Int32} {b : Nat} (h : k_n x b) : ∃ j : Nat, j ≤ b ∧ x = nI j := ⟨_, h.2, h.1⟩
theorem k_n.ge {x : Int32} {b j : Nat} (h : k_n x b) (hj : x.toNatClampNeg ≤ j) (hj2 : j < 2 ^ 31 := by omega) : x ≤ nI j := by
  rw [h.1]; exact nI_le hj hj2
theorem k_n.nge {x : Int32} {b j : Nat} (h : k_n x b) (hj : j < x.toNatClampNeg) (hb : b < 2 ^ 31 := by omega) : ¬ x ≤ nI j := by
  rw [h.1]; exact nI_ge hj (by have := h.2; omega)
theorem k_n.lt {x : Int32} {b j : Nat} (h : k_n x b) (hj : x.toNatClampNeg < j) (hj2 : j < 2 ^ 31 := by omega) : x < nI j := by
  rw [h.1]; exact nI_lt hj hj2
theorem k_n.nlt {x : Int32} {b j : Nat} (h : k_n x b) (hj : j ≤ x.toNatClampNeg) (hb : b < 2 ^ 31 := by omega) : ¬ x < nI j := by
  rw [h.1]; exact nI_nlt hj (by have := h.2; omega)
theorem k_n.in {x : Int32} {b c : Nat} (h : k_n x b) (hx : x < nI c) (hc : c < 2 ^ 31 := by omega) (hb : b < 2 ^ 31 := by omega) : vp_in x c := by
  rw [h.1] at hx ⊢
  have h2 := h.2
  exact vp_in_nI ((nI_ltI (by omega) hc).mp hx) hc
theorem k_n.in' {x : Int32} {b c : Nat} (h : k_n x b) (hb : b < c) (hc : c < 2 ^ 31 := by omega) : vp_in x c := by
  rw [h.1]
  have h2 := h.2
  exact vp_in_nI (by omega) hc
theorem k_n.of {x : Int32} {c : Nat} (h : vp_in x c) (hc : c < 2 ^ 31 := by omega) : k_n x (c - 1) := by
  obtain ⟨j, hj, rfl⟩ := vp_in_of h hc
  exact k_n.mk (by omega) (by omega)
theorem k_in_le {x : Int32} {a b : Nat} (h : vp_in x a) (hb : a ≤ b) : vp_in x b := fun q => h (q.imp id (fun z => Nat.le_trans hb z))
/-- an index 10 * m + s -/
theorem k_in10 {x y : Int32} (hx : vp_in x 10) (hy : vp_in y 10) : vp_in (10 * x + y) 100 := by
  obtain ⟨a, ha, rfl⟩ := vp_in_of hx (by omega)
  obtain ⟨b, hb, rfl⟩ := vp_in_of hy (by omega)
  rw [show (10 : Int32) = nI 10 from rfl, pk_mul, nI_add]
  exact vp_in_nI (by omega) (by omega)
theorem k_ix10 {x y : Int32} (hx : vp_in x 10) (hy : vp_in y 10) : (10 * x + y).toNatClampNeg = 10 * x.toNatClampNeg + y.toNatClampNeg := by
  obtain ⟨a, ha, rfl⟩ := vp_in_of hx (by omega)
  obtain ⟨b, hb, rfl⟩ := vp_in_of hy (by omega)
  rw [show (10 : Int32) = nI 10 from rfl, pk_mul, nI_add, nI_clamp (by omega), nI_clamp (by omega), nI_clamp (by omega)]
/-- NONE, or an index -/
def k_o (x : Int32) (n : Nat) : Prop := x = -9 ∨ vp_in x n
theorem k_o.in {x : Int32} {n : Nat} (h : k_o x n) (hx : ¬ x = -9) : vp_in x n := h.resolve_left hx
def w_A (k : K_X) (aa : Nat → Nat) (n : Nat) (Ar : Nat → Int32) : va_W := [(aa 0, k_aI k n Ar)]
theorem k_wr0 {c : Int32} {n : Nat} (h : k_n c n) (hn : n ≤ 100) (hl : c < nI n) : vp_in (c * 6) (n * 6) := by
  obtain ⟨j, hj, rfl⟩ := h.get
  have h2 := (nI_ltI (by omega) (by omega)).mp hl
  rw [show (6 : Int32) = nI 6 from rfl, pk_mul]
  exact vp_in_nI (by omega) (by omega)
theorem k_wr {c : Int32} {n : Nat} (h : k_n c n) (hn : n ≤ 100) (hl : c < nI n) {x : Int32} (i : Nat) (hi : i < 6) (hx : x = nI i) : vp_in (c * 6 + x) (n * 6) := by
  subst hx
  obtain ⟨j, hj, rfl⟩ := h.get
  have h2 := (nI_ltI (by omega) (by omega)).mp hl
  rw [show (6 : Int32) = nI 6 from rfl, pk_mul, nI_add]
  exact vp_in_nI (by omega) (by omega)
