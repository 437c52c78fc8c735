/-! numbers: k_n x b: x is a number 0 .. b -/
def k_n (x : Int32) (b : Nat) : Prop := x = nI x.toNatClampNeg ∧ x.toNatClampNeg ≤ b
theorem k_n.le {x : Int32} {b b' : Nat} (h : k_n x b) (hb : b ≤ b') : k_n x b' := ⟨h.1, Nat.le_trans h.2 hb⟩
theorem k_n.mk {j b : Nat} (h : j ≤ b) (hb : b < 2 ^ 31 := by omega) : k_n (nI j) b := by
  have e := nI_clamp (n := j) (by omega)
  exact ⟨by rw [e], by rw [e]; exact h⟩
theorem k_n.get {x : Int32} {b : Nat} (h : k_n x b) : ∃ j : Nat, j ≤ b ∧ x = nI j := ⟨_, h.2, h.1⟩
theorem k_n.ge {x : Int32} {b j : Nat} (h : k_n x b) (hj : x.toNatClampNeg ≤ j) (hj2 : j < 2 ^ 31 := by omega) : x ≤ nI j := by
  rw [h.1]; exact nI_le hj hj2
theorem k_n.nge {x : Int32} {b j : Nat} (h : k_n x b) (hj : j < x.toNatClampNeg) (hb : b < 2 ^ 31 := by omega) : ¬ x ≤ nI j := by
  rw [h.1]; exact nI_ge hj (by have := h.2; omega)
theorem k_n.lt {x : Int32} {b j : Nat} (h : k_n x b) (hj : x.toNatClampNeg < j) (hj2 : j < 2 ^ 31 := by omega) : x < nI j := by
  rw [h.1]; exact nI_lt hj hj2
theorem k_n.nlt {x : Int32} {b j : Nat} (h : k_n x b) (hj : j ≤ x.toNatClampNeg) (hb : b < 2 ^ 31 := by omega) : ¬ x < nI j := by
  rw [h.1]; exact nI_nlt hj (by have := h.2; omega)
theorem k_n.in {x : Int32} {b c : Nat} (h : k_n x b) (hx : x < nI c) (hc : c < 2 ^ 31 := by omega) (hb : b < 2 ^ 31 := by omega) : vp_in x c := by
  rw [h.1] at hx ⊢
  have h2 := h.2
  exact vp_in_nI ((nI_ltI (by omega) hc).mp hx) hc
theorem k_n.in' {x : Int32} {b c : Nat} (h : k_n x b) (hb : b < c) (hc : c < 2 ^ 31 := by omega) : vp_in x c := by
  rw [h.1]
  have h2 := h.2
  exact vp_in_nI (by omega) hc
theorem k_n.of {x : Int32} {c : Nat} (h : vp_in x c) (hc : c < 2 ^ 31 := by omega) : k_n x (c - 1) := by
  obtain ⟨j, hj, rfl⟩ := vp_in_of h hc
  exact k_n.mk (by omega) (by omega)
theorem k_in_le {x : Int32} {a b : Nat} (h : vp_in x a) (hb : a ≤ b) : vp_in x b := fun q => h (q.imp id (fun z => Nat.le_trans hb z))
/-- an index 10 * m + s -/
theorem k_in10 {x y : Int32} (hx : vp_in x 10) (hy : vp_in y 10) : vp_in (10 * x + y) 100 := by
  obtain ⟨a, ha, rfl⟩ := vp_in_of hx (by omega)
  obtain ⟨b, hb, rfl⟩ := vp_in_of hy (by omega)
  rw [show (10 : Int32) = nI 10 from rfl, pk_mul, nI_add]
  exact vp_in_nI (by omega) (by omega)
theorem k_ix10 {x y : Int32} (hx : vp_in x 10) (hy : vp_in y 10) : (10 * x + y).toNatClampNeg = 10 * x.toNatClampNeg + y.toNatClampNeg := by
  obtain ⟨a, ha, rfl⟩ := vp_in_of hx (by omega)
  obtain ⟨b, hb, rfl⟩ := vp_in_of hy (by omega)
  rw [show (10 : Int32) = nI 10 from rfl, pk_mul, nI_add, nI_clamp (by omega), nI_clamp (by omega), nI_clamp (by omega)]
/-- NONE, or an index -/
def k_o (x : Int32) (n : Nat) : Prop := x = -9 ∨ vp_in x n
theorem k_o.in {x : Int32} {n : Nat} (h : k_o x n) (hx : ¬ x = -9) : vp_in x n := h.resolve_left hx
def w_A (k : K_X) (aa : Nat → Nat) (n : Nat) (Ar : Nat → Int32) : va_W := [(aa 0, k_aI k n Ar)]
theorem k_wr0 {c : Int32} {n : Nat} (h : k_n c n) (hn : n ≤ 100) (hl : c < nI n) : vp_in (c * 6) (n * 6) := by
  obtain ⟨j, hj, rfl⟩ := h.get
  have h2 := (nI_ltI (by omega) (by omega)).mp hl
  rw [show (6 : Int32) = nI 6 from rfl, pk_mul]
  exact vp_in_nI (by omega) (by omega)
theorem k_wr {c : Int32} {n : Nat} (h : k_n c n) (hn : n ≤ 100) (hl : c < nI n) {x : Int32} (i : Nat) (hi : i < 6) (hx : x = nI i) : vp_in (c * 6 + x) (n * 6) := by
  subst hx
  obtain ⟨j, hj, rfl⟩ := h.get
  have h2 := (nI_ltI (by omega) (by omega)).mp hl
  rw [show (6 : Int32) = nI 6 from rfl, pk_mul, nI_add]
  exact vp_in_nI (by omega) (by omega)
theorem k_ofj {f : Nat → Int32} {j : Nat} (h : ∀ j, j < 10 → k_o (f j) 10) (hj : j < 10) : k_o (f (nI j).toNatClampNeg) 10 := by
  rw [nI_clamp (by omega)]
  exact h j hj
/-- what a fair keeps: who is bound is an index, or NONE; the ledger's count is within its room -/
def k_I (n : Nat) (F L : Nat → Nat → Int32) : Prop := (∀ j, j < 10 → k_o (F 1 j) 10) ∧ (∀ j, j < 10 → k_o (F 4 j) 10) ∧ k_n (L 0 0) n
theorem k_inrev {x : Int32} {b j : Nat} (h : k_n x b) (hj : j < x.toNatClampNeg) (hb : b ≤ 10) : vp_in ((x - 1) - nI j) 10 := by
  obtain ⟨a, ha, rfl⟩ := h.get
  rw [nI_clamp (by omega)] at hj
  rw [show (1 : Int32) = nI 1 from rfl, pk_sub (by omega), pk_sub (by omega)]
  exact vp_in_nI (by omega) (by omega)
theorem k_nz {v : Int32} (h : v = 0 ∨ v = 1) : narrow .boolean (.int v) = .int v := by
  rcases h with rfl | rfl <;> decide
theorem k_end {a b : Int32} (ha : k_n a 240) (hb : k_n b 240) : k_n (if 240 < (a + b) then 240 else (a + b)) 240 ∧ a.toNatClampNeg ≤ (if 240 < (a + b) then 240 else (a + b)).toNatClampNeg := by
  obtain ⟨i, hi, rfl⟩ := ha.get
  obtain ⟨j, hj, rfl⟩ := hb.get
  rw [nI_add, show (240 : Int32) = nI 240 from rfl, nI_clamp (by omega)]
  by_cases h : nI 240 < nI (i + j)
  · rw [if_pos h, nI_clamp (by omega)]
    exact ⟨k_n.mk (by omega), hi⟩
  · rw [if_neg h]
    have h2 : ¬ 240 < i + j := fun q => h (nI_lt q (by omega))
    rw [nI_clamp (by omega)]
    exact ⟨k_n.mk (by omega), by omega⟩
theorem k_updo {f : Nat → Int32} {i : Nat} {v : Int32} (h : ∀ j, j < 10 → k_o (f j) 10) (hv : k_o v 10) : ∀ j, j < 10 → k_o (upd f i v j) 10 := by
  intro j hj
  unfold upd
  by_cases e : j = i
  · rw [if_pos e]; exact hv
  · rw [if_neg e]; exact h j hj
theorem k_last {d i : Int32} (hd : k_n d 363) (hi : k_n i 363) (h1 : 1 ≤ i.toNatClampNeg) : k_n ((if 363 < ((d + i) - 1) then 363 else ((d + i) - 1)) + 1) 364 ∧ d.toNatClampNeg ≤ ((if 363 < ((d + i) - 1) then 363 else ((d + i) - 1)) + 1).toNatClampNeg := by
  obtain ⟨a, ha, rfl⟩ := hd.get
  obtain ⟨b, hb, rfl⟩ := hi.get
  rw [nI_clamp (by omega)] at h1
  rw [nI_add, show (363 : Int32) = nI 363 from rfl, show (1 : Int32) = nI 1 from rfl, pk_sub (by omega), nI_clamp (by omega)]
  by_cases h : nI 363 < nI (a + b - 1)
  · rw [if_pos h, nI_add, nI_clamp (by omega)]
    exact ⟨k_n.mk (by omega), by omega⟩
  · rw [if_neg h, nI_add]
    have h2 : ¬ 363 < a + b - 1 := fun q => h (nI_lt q (by omega))
    rw [nI_clamp (by omega)]
    exact ⟨k_n.mk (by omega), by omega⟩
theorem k_min1 {x y : Int32} {b : Nat} (hx : k_n (x + 1) b) (hy : k_n (y + 1) b) : k_n ((if y < x then y else x) + 1) b := by
  by_cases h : y < x
  · rw [if_pos h]; exact hy
  · rw [if_neg h]; exact hx
theorem k_sel {i x : Int32} {b : Nat} (h1 : ¬ i < 0) (h2 : ¬ x ≤ i) (h : k_n x b) (hb : b < 2 ^ 31 := by omega) : vp_in i b := by
  obtain ⟨j, hj, rfl⟩ := nI_of h1
  obtain ⟨a, ha, rfl⟩ := h.get
  exact vp_in_nI (Nat.lt_of_lt_of_le (Nat.lt_of_not_le fun q => h2 (nI_le q hj)) ha) (by omega)
theorem k_within {x : Int32} {a b : Nat} (h1 : ¬ x < nI a) (h2 : ¬ nI b < x) (hb : b < 2 ^ 31) (ha : a < 2 ^ 31 := by omega) : k_n x b ∧ a ≤ x.toNatClampNeg := by
  have h0 : ¬ x < 0 := fun q => h1 (Int32.lt_of_lt_of_le q (nI_pos' ha))
  obtain ⟨j, hj, rfl⟩ := nI_of h0
  rw [nI_clamp hj]
  have e1 : a ≤ j := Nat.le_of_not_lt fun q => h1 (nI_lt q ha)
  have e2 : j ≤ b := Nat.le_of_not_lt fun q => h2 (nI_lt q hj)
  exact ⟨k_n.mk e2 hb, e1⟩
