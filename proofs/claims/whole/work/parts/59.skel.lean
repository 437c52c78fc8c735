/-! THE CLAIM OUT OF ONE WALK OF THE LAW'S BODY. Your part is whole_start (and what it stands on); all else here is the same for every law, but numbers. -/
def R_law : String := "HiringFairsLaw"
def lw_P (b : Addr) (xs : List Int32) (args : Array Value) (s : State) : Prop := args = #[.ref b] ∧ s.IntsAt b xs ∧ xs.length ≤ 2048 ∧ (Jvm.Cond.and given_1 narrow_1).before args s = true
def lw_Q (_ : Array Value) (s : State) (o : Outcome) (t : State) : Prop := o = .returned (some (.int 1)) ∧ Framed s o t [] 600000 7302250
def lw_Z (below : List Frame) (a : Array Value) (s : State) : State → Prop := fun t => ∃ o, t.status = .running ∧ Ended t below o ∧ lw_Q a s o t
/-- the law's own end, with 1 on the stack, nothing written that was there before, its room as the claim has it -/
theorem lw_ret {p : Program} {l : Launch} {e : Env} {s : State} {m : MethodId} {below : List Frame} {meth : Method} {c : Code} {b : Nat} (hx : p.tables.exec = Jvm.exec) (hb : c.code = code) (hr : meth.sig.returnType = ret) (hlocks : meth.locks = false) {pc : Nat} {H : Heap} {ls : Array Slot} (hdg : decode code pc = .ok (.ireturn, 1)) : W p l e room_1 s m #[Value.ref b] below meth c H [] 600000 7302250 (lw_Z below #[Value.ref b] s) (F0 m pc ls [.int 1]) := by
  intro T hT X
  obtain ⟨fs, hret, hrun, hended, hW, hframe⟩ := X.leave (v := some (.int 1)) (hlocks := hlocks) (fun h => by rw [hr] at h; cases h)
  have hmeth' : T.vm.method? m = some meth := X.method'
  refine ⟨T.setFrames fs, ?_, .returned (some (.int 1)), hrun, hended, rfl, ⟨_, rfl⟩, hW, hframe⟩
  jvm_step X.here [X.here.top, hx, hb, hdg, hmeth', hr, ret, narrow_b1]
  (try refine ⟨rfl, ?_⟩); (try refine ⟨rfl, ?_⟩)
  first | (intro acts; rw [hret _ acts rfl rfl rfl]) | rw [hret _ _ rfl rfl rfl]
  exact Steps.refl _
/-- what holds at the law's entry: the machine, the code, the tables' words (any of lw_tbl by 'hts w (by decide +kernel)'), the script of L ints xs at the cell b, what the Statement gives of the start (any of its parts by flat_of_before) -/
def lw_At (p : Program) (s : State) (m : MethodId) (meth : Method) (c : Code) (b L : Nat) (xs : Nat → Int32) : Prop :=
  p.tables.exec = Jvm.exec ∧ c.code = code ∧ meth.sig.returnType = ret ∧ c.maxLocals = 4 ∧ s.vm.findClass R_law = some m.cls ∧ (∀ w ∈ lw_tbl, w.before #[Value.ref b] s = true) ∧ va_X b L xs s s.heap ∧ b < s.heap.size ∧ meth.locks = false ∧ (Jvm.Cond.and given_1 narrow_1).before #[Value.ref b] s = true
abbrev lw_w (k : K_X) (ax : Nat) (ap af al ag ah ay am : Nat → Nat) (sP sF sL sG sH sY : Nat → Nat → Int32) (sJ : Nat → Int64) (tx : Int32) (sM : Nat → Nat → Int32) : va_W := (w_X ax (ap 0) (af 0) (ag 0) (ay 0) tx) ++ (w_P k ap sP) ++ (w_F k af (ap 0) (al 0) sF) ++ (w_L k al 100 sL) ++ (w_F k ag (ap 0) (ah 0) sG) ++ (w_L k ah 0 sH) ++ (w_Y k ay (af 0) sY sJ) ++ (w_M k am sM)
section RELF
variable {P F L Y : Nat → Nat → Int32} {J : Nat → Int64} {tx : Int32} {M : Nat → Nat → Int32}
theorem rel_ns (h : REL P F L Y J tx M) : k_n (P 0 0) 10 := by rw [h.1.1]; exact h.1.2.2.1
theorem rel_nm (h : REL P F L Y J tx M) : k_n (P 0 1) 10 := by rw [h.1.2.1]; exact h.1.2.2.2.1
theorem rel_B (h : REL P F L Y J tx M) : ∀ j, j < 10 → k_o (F 1 j) 10 := fun j hj => by rw [(h.2.1.1 j hj).1]; exact (h.2.1.1 j hj).2.1
theorem rel_O (h : REL P F L Y J tx M) : ∀ j, j < 10 → k_o (F 4 j) 10 := fun j hj => by rw [(h.2.1.2.1 j hj).1]; exact (h.2.1.2.1 j hj).2
theorem rel_c (h : REL P F L Y J tx M) : k_n (L 0 0) 100 := by rw [h.2.2.2.1.1]; exact bg100 h
theorem rel_I (h : REL P F L Y J tx M) : k_I 100 F L := ⟨rel_B h, rel_O h, rel_c h⟩
theorem rel_F0 (h : REL P F L Y J tx M) : k_n (F 0 0) 240 := by rw [h.2.2.2.2.2.2.2.1]; exact h.2.2.2.2.2.2.2.2
theorem rel_E (h : REL P F L Y J tx M) : ∀ j, j < 10 → k_n (Y 1 j + 1) 364 := fun j hj => (h.2.2.2.2.1.2.2.1 j hj).2.2.1
theorem rel_dy (h : REL P F L Y J tx M) : Y 0 0 = -9 ∨ k_n (Y 0 0) 363 := by rw [h.2.2.2.2.1.1]; exact h.2.2.2.2.1.2.1
theorem m_T (h : REL P F L Y J tx M) : M 0 0 = 0 := h.2.2.2.2.2.2.1
theorem m_ns (h : REL P F L Y J tx M) : k_n (M 0 1) 10 := h.1.2.2.1
theorem m_nm (h : REL P F L Y J tx M) : k_n (M 0 2) 10 := h.1.2.2.2.1
theorem m_B (h : REL P F L Y J tx M) : ∀ j, j < 10 → k_o (M 9 j) 10 := fun j hj => (h.2.1.1 j hj).2.1
theorem m_O (h : REL P F L Y J tx M) : ∀ j, j < 10 → k_o (M 12 j) 10 := fun j hj => (h.2.1.2.1 j hj).2
theorem m_MI (h : REL P F L Y J tx M) : k_MI (M 0 2).toNatClampNeg M := ⟨(m_nm h).1, (m_nm h).2, m_ns h, m_B h, m_O h, h.2.2.2.1.2.2⟩
theorem m_I0 (h : REL P F L Y J tx M) : (M 0 2) = nI (M 0 2).toNatClampNeg ∧ (M 0 2).toNatClampNeg ≤ 10 ∧ k_n (M 0 1) 10 := ⟨(m_nm h).1, (m_nm h).2, m_ns h⟩
end RELF
theorem k_sc {i L : Nat} {x : Int32} (j : Nat) (hx : x = nI j) (hi : i + 4 ≤ L) (hL : L ≤ 2048) (hj : j < 4) : vp_in (nI i + x) L := by
  subst hx
  rw [nI_add]
  exact vp_in_nI (by omega) (by omega)
theorem k_sc0 {i L : Nat} (hi : i + 4 ≤ L) (hL : L ≤ 2048) : vp_in (nI i) L := vp_in_nI (by omega) (by omega)
