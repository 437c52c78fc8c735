/-! the base: what every contract here speaks of: the kinds of cells (K_X), the worlds, a contract's form, entry, return and call rows -/
abbrev K_X : Type := va_G × ClassId × ClassId × ClassId × ClassId
abbrev k_T (k : K_X) : List (ClassId × FieldType) := [(k.2.1, .int), (k.2.2.1, .boolean), (k.2.2.2.1, .long), (k.2.2.2.2, .array .int)]
abbrev k_K (k : K_X) (U : State) : Prop := va_K k.1 vwCl (k_T k) U
/-- f, but v at j (j mostly a number) -/
def k_st {α : Type} (f : Nat → α) (j : Nat) (v : α) : Nat → α := fun i => cond (Nat.beq i j) v (f i)
theorem k_st_eq {α : Type} (f : Nat → α) (j : Nat) (v : α) : k_st f j v j = v := by simp [k_st]
theorem k_st_ne {α : Type} (f : Nat → α) {j i : Nat} (v : α) (h : i ≠ j) : k_st f j v i = f i := by
  unfold k_st
  cases hq : Nat.beq i j with
  | true => exact absurd (Nat.eq_of_beq_eq_true hq) h
  | false => rfl
def k_Cw (k : K_X) (ws : va_W) (sz : Nat) (U : State) : Prop := U.heap.size = sz ∧ va_P k.1 vwCl ws U.heap ∧ k_K k U ∧ va_D (fun _ => True) ws
def k_Ce (k : K_X) (A : Nat → Prop) (ws : va_W) (t : State) : Prop := va_P k.1 vwCl ws t.heap ∧ k_K k t ∧ va_D A ws
def k_qI (k : K_X) (R : Int32) (w' : va_W) (A : Nat → Prop) : Array Value → State → Outcome → State → Prop := va_Qi (fun r (_ : Unit) => r = R) (fun _ t => k_Ce k A w' t) A
def k_qJ (k : K_X) (R : Int64) (w' : va_W) (A : Nat → Prop) : Array Value → State → Outcome → State → Prop := va_Ql (fun r (_ : Unit) => r = R) (fun _ t => k_Ce k A w' t) A
def k_qV (k : K_X) (w' : va_W) (A : Nat → Prop) : Array Value → State → Outcome → State → Prop := va_Qv (fun (_ : Unit) => True) (fun _ t => k_Ce k A w' t) A
/-- a contract: from the world w, with the arguments av: by Q, the rest unchanged, nothing new -/
def k_C (l : Launch) (y : MethodName) (wsy : List Cond) (rm : Room) (k : K_X) (av : List Value) (w : va_W) (Q : (Nat → Prop) → Array Value → State → Outcome → State → Prop) : Prop := ∀ sz : Nat, Met l y wsy rm (va_Pc av (k_Cw k w sz)) (Q (va_A w sz)) 0 0 (va_A w sz)
def k_rm (f n : Nat) : Room := { frames := f, cells := 0, slots := 0, locals := n }
/-- what holds all the way through a method's body -/
def k_Cx (p : Program) (s : State) (m : MethodId) (meth : Method) (c : Code) (k : K_X) (cc : ByteArray) (ret : Option FieldType) (Ts : List Cond) (own : String) (nL : Nat) (args : Array Value) (A : Nat → Prop) : Prop :=
  p.tables.exec = Jvm.exec ∧ c.code = cc ∧ meth.sig.returnType = ret ∧ (∀ w ∈ Ts, w.before args s = true) ∧ s.vm.findClass own = some m.cls ∧ meth.locks = false ∧ c.maxLocals = nL ∧ (∀ q, s.heap.size ≤ q → A q) ∧ k_K k s
theorem k_mk {l : Launch} {y : MethodName} {wsy ws' : List Cond} {rm : Room} {k : K_X} {av : List Value} {w : va_W} {Q : (Nat → Prop) → Array Value → State → Outcome → State → Prop} {cc : ByteArray} {maxL : Nat} {ret : Option FieldType}
    (hy : plainName y.cls = true) (hw : wsy = Cond.code y cc maxL ret :: ws') (hlen : (lg_sl av).length ≤ maxL)
    (body : ∀ (p : Program) (e : Env) (s : State) (m : MethodId) (below : List Frame) (meth : Method) (c : Code) (A : Nat → Prop) (ls : Array Slot), k_Cx p s m meth c k cc ret wsy y.cls maxL av.toArray A → va_P k.1 vwCl w s.heap → va_D A w → va_S A s.heap s.heap [] → lv_has ls maxL (lv_args 0 av) →
      W p l e rm s m av.toArray below meth c s.heap [] 0 0 (MQ below (Q A) av.toArray s 0 0 A) (F0 m 0 ls [])) : k_C l y wsy rm k av w Q := by
  intro sz
  refine Met.ofW (cc := cc) (maxL := maxL) (ret := ret) hy hw ?_
  intro p e s m args below meth c s₁ B hml hv
  obtain ⟨rfl, hsz, hP, hK, hD0⟩ := hv
  subst hsz
  have hD := hD0.self (sz := s.heap.size)
  have hl := lv_entry av (n := maxL) hlen
  rw [lg_entry_eq]
  exact body p e s m below meth c (va_A w s.heap.size) _ ⟨B.exec, B.bytes, B.returns, atoms_spec (ws := wsy) B.pre, findClass_of_methodNamed B.named, B.notSynchronized, hml, fun q h => Or.inr h, hK⟩ hP hD va_S.rf hl
theorem k_w {Ts : List Cond} {args : Array Value} {s : State} (hts : ∀ w ∈ Ts, w.before args s = true) (i : Nat) {w : Cond} (h : Ts[i]? = some w) : w.before args s = true := hts w (List.mem_of_getElem? h)
theorem k_subP {D : va_G} {cl : List vw_C} {ws wc : va_W} {H : Heap} (hP : va_P D cl ws H) {is : List Nat} (hC : is.map (fun i => ws[i]?) = wc.map some) : va_P D cl wc H := by
  intro j q hq
  have h1 : (is.map (fun i => ws[i]?))[j]? = some (some q) := by rw [hC, List.getElem?_map, hq]; rfl
  rw [List.getElem?_map] at h1
  cases hi : is[j]? with
  | none => rw [hi] at h1; cases h1
  | some i => rw [hi] at h1; exact hP i q (Option.some.inj h1)
theorem k_blind {k : K_X} {av : List Value} {w : va_W} {sz : Nat} : FrameBlind (va_Pc av (k_Cw k w sz)) := fun a U g mk q => by
  obtain ⟨q0, q1, qP, qK, qD⟩ := q
  exact ⟨q0, q1, qP, va_K.moved (u := U) (U := U.calling g mk a) (Vm.Alike.refl U.vm) qK, qD⟩
section KB
variable {p : Program} {l : Launch} {e : Env} {R : Room} {s : State} {m : MethodId} {args : Array Value} {below : List Frame} {meth : Method} {c : Code} {H : Heap} {locs : List Loc} {cells slots : Nat} {Q : State → Prop}
variable {cc : ByteArray} {pc : Nat} {ls : Array Slot} {rest : List Value} {k : K_X} {A : Nat → Prop} {ws : va_W}
theorem k_reti {w' : va_W} {v Rv : Int32} (hx : p.tables.exec = Jvm.exec) (hb : c.code = cc) (hr : meth.sig.returnType = some .int) (hK : k_K k s) (hP : va_P k.1 vwCl w' H) (hD : va_D A w') (hS : va_S A s.heap H locs) (hlocks : meth.locks = false) (hdg : decode cc pc = .ok (.ireturn, 1)) (hv : v = Rv) : W p l e R s m args below meth c H locs 0 0 (MQ below (k_qI k Rv w' A) args s 0 0 A) (F0 m pc ls [.int v]) :=
  W.iret (v := v) hx hb hr (fun t ht hW => ⟨⟨v, (), rfl, hv, by rw [ht]; exact hP, va_K.moved hW.alike hK, hD⟩, hS.F ht⟩) hS.2.2 hdg hlocks
theorem k_retz {w' : va_W} {v Rv : Int32} (hx : p.tables.exec = Jvm.exec) (hb : c.code = cc) (hr : meth.sig.returnType = some .boolean) (hn : narrow .boolean (.int v) = .int v) (hK : k_K k s) (hP : va_P k.1 vwCl w' H) (hD : va_D A w') (hS : va_S A s.heap H locs) (hlocks : meth.locks = false) (hdg : decode cc pc = .ok (.ireturn, 1)) (hv : v = Rv) : W p l e R s m args below meth c H locs 0 0 (MQ below (k_qI k Rv w' A) args s 0 0 A) (F0 m pc ls [.int v]) :=
  W.zret (v := v) hx hb hr hn (fun t ht hW => ⟨⟨v, (), rfl, hv, by rw [ht]; exact hP, va_K.moved hW.alike hK, hD⟩, hS.F ht⟩) hS.2.2 hdg hlocks
theorem k_retj {w' : va_W} {v Rv : Int64} (hx : p.tables.exec = Jvm.exec) (hb : c.code = cc) (hr : meth.sig.returnType = some .long) (hK : k_K k s) (hP : va_P k.1 vwCl w' H) (hD : va_D A w') (hS : va_S A s.heap H locs) (hlocks : meth.locks = false) (hdg : decode cc pc = .ok (.lreturn, 1)) (hv : v = Rv) : W p l e R s m args below meth c H locs 0 0 (MQ below (k_qJ k Rv w' A) args s 0 0 A) (F0 m pc ls [.long v]) :=
  W.lret (v := v) hx hb hr (fun t ht hW => ⟨⟨v, (), rfl, hv, by rw [ht]; exact hP, va_K.moved hW.alike hK, hD⟩, hS.F ht⟩) hS.2.2 hdg hlocks
theorem k_retv {w' : va_W} (hx : p.tables.exec = Jvm.exec) (hb : c.code = cc) (hr : meth.sig.returnType = none) (hK : k_K k s) (hP : va_P k.1 vwCl w' H) (hD : va_D A w') (hS : va_S A s.heap H locs) (hlocks : meth.locks = false) (hdg : decode cc pc = .ok (.return_, 1)) : W p l e R s m args below meth c H locs 0 0 (MQ below (k_qV k w' A) args s 0 0 A) (F0 m pc ls []) :=
  W.vret hx hb hr (fun t ht hW => ⟨⟨(), rfl, trivial, by rw [ht]; exact hP, va_K.moved hW.alike hK, hD⟩, hS.F ht⟩) hS.2.2 hdg hlocks
theorem k_aald (hx : p.tables.exec = Jvm.exec) (hb : c.code = cc) (hK : k_K k s) (hP : va_P k.1 vwCl ws H) (q0 : Nat) {b n : Nat} {f : Nat → Option Nat} (ha : ws[q0]? = some (b, .inl (k.2.2.2.2, n, .inr (.inr (.inr (.inr f)))))) {i : Int32} (hin : vp_in i n) {r : Nat} (hf : f i.toNatClampNeg = some r) (hdg : decode cc pc = .ok (.aaload, 1))
    (kk : W p l e R s m args below meth c H locs cells slots Q (F0 m (pc + 1) ls (.ref r :: rest))) : W p l e R s m args below meth c H locs cells slots Q (F0 m pc ls (.int i :: .ref b :: rest)) := by
  have hlt : i.toNatClampNeg < n := Nat.not_le.mp fun q => hin (Or.inr q)
  refine W.aald (v := va_rf (f i.toNatClampNeg)) (ty := .array .int) hx hb (hP q0 _ ha) ((hK.2 3 _ rfl).1 n (fun j => va_rf (f j))) rfl (fun q => by cases q) (by show ¬ (i < 0 ∨ (arrV _ _ _).slots.size ≤ _); rw [arrV_size]; exact hin) (by show (arrV _ _ _).slots[_]? = _; rw [arrV_read _ _ hlt]) rfl rfl hdg ?_
  rw [hf]
  exact kk
variable {y : MethodName} {bytes : ByteArray} {maxL nL n index : Nat} {ret : Option FieldType} {wsy : List Cond} {rm : Room} {Ts : List Cond} {own C : String} {b : Addr} {As st0 : List Value} {wc wc' wr ws' : va_W}
/-- behind a call: the world, in its own order again -/
theorem k_back {H1 : Heap} (hP : va_P k.1 vwCl ws H) (hD : va_D A ws) (isC isR isB : List Nat) (hC : isC.map (fun i => ws[i]?) = wc.map some) (hR : isR.map (fun i => ws[i]?) = wr.map some) (hn : va_nd isR = true) (hdis : ∀ i ∈ isR, i ∉ isC)
    (hB : isB.map (fun i => (wr ++ wc')[i]?) = ws'.map some) (hBn : va_nd isB = true)
    (hk : ∀ q : Nat, q < H.size → ¬ va_A wc H.size q → H1[q]? = H[q]?) (hF : ∀ q, va_A wc H.size q → A q) (hP1 : va_P k.1 vwCl wc' H1) (hD1 : va_D (va_A wc H.size) wc') : va_P k.1 vwCl ws' H1 ∧ va_D A ws' := by
  obtain ⟨hP2, hD2⟩ := va_join hP hD isC isR hC hR hn hdis hk hF hP1 hD1
  exact ⟨k_subP hP2 hB, hD2.sub isB hBn hB⟩
theorem k_Vi {Rv : Int32} (S : CallFix p m c cc nL s args Ts own) (hK : k_K k s) (hA : ∀ q, s.heap.size ≤ q → A q) (hP : va_P k.1 vwCl ws H) (hD : va_D A ws) (hS : va_S A s.heap H locs)
    (hM : k_C l y wsy rm k (.ref b :: As) wc (k_qI k Rv wc')) (cw : CallW R s args own C index y bytes maxL ret wsy rm 0 0 n) (hrecv : ∃ cell : Cell, H[b]? = some cell ∧ cell.vm.isStatics = false ∧ s.vm.findClass C = some cell.cls)
    (hn0 : As.length = n) (hsize : ls.size = nL) (hstack : st0 = As.reverse ++ .ref b :: rest) (hW : (rest.map fun v => v.category).sum ≤ 8) (hdg : decode cc pc = .ok (.invokevirtual index, 3)) (hc0 : cells ≤ R.cells) (hs0 : slots ≤ R.slots)
    (isC isR isB : List Nat) (hC : isC.map (fun i => ws[i]?) = wc.map some) (hR : isR.map (fun i => ws[i]?) = wr.map some) (hn : va_nd isR = true) (hdis : ∀ i ∈ isR, i ∉ isC) (hB : isB.map (fun i => (wr ++ wc')[i]?) = ws'.map some) (hBn : va_nd isB = true) (hCn : va_nd isC = true)
    (kk : ∀ (H1 : Heap) (locs1 : List Loc), va_P k.1 vwCl ws' H1 → va_D A ws' → va_S A s.heap H1 locs1 → W p l e R s m args below meth c H1 locs1 cells slots Q (F0 m (pc + 3) ls (.int Rv :: rest))) : W p l e R s m args below meth c H locs cells slots Q (F0 m pc ls st0) := by
  have hF := va_free (wc := wc) hD hS hA isC hC
  have hPc := k_subP hP hC
  have hDc := hD.sub isC hCn hC
  refine va_calli (va_runV (As := As) (rest := rest) S (hM H.size) cw ⟨k_blind, hrecv, fun U hU hW => ⟨rfl, by rw [hU], by rw [hU]; exact hPc, va_K.moved hW.alike hK, hDc.weaken (fun _ _ _ _ => trivial)⟩⟩ rfl hn0 hsize hstack (lv_room hW) hdg ⟨hc0, hs0⟩) hS (fun q _ h => hF q h) hF (fun r u t H1 locs1 ht hvm hw hB1 hz1 hk1 hS1 => ?_)
  obtain ⟨hP1, -, hD1⟩ := hB1
  rw [ht] at hP1
  subst hw
  obtain ⟨hP2, hD2⟩ := k_back hP hD isC isR isB hC hR hn hdis hB hBn hk1 hF hP1 hD1
  exact kk H1 locs1 hP2 hD2 hS1
theorem k_Vv (S : CallFix p m c cc nL s args Ts own) (hK : k_K k s) (hA : ∀ q, s.heap.size ≤ q → A q) (hP : va_P k.1 vwCl ws H) (hD : va_D A ws) (hS : va_S A s.heap H locs)
    (hM : k_C l y wsy rm k (.ref b :: As) wc (k_qV k wc')) (cw : CallW R s args own C index y bytes maxL ret wsy rm 0 0 n) (hrecv : ∃ cell : Cell, H[b]? = some cell ∧ cell.vm.isStatics = false ∧ s.vm.findClass C = some cell.cls)
    (hn0 : As.length = n) (hsize : ls.size = nL) (hstack : st0 = As.reverse ++ .ref b :: rest) (hW : (rest.map fun v => v.category).sum ≤ 8) (hdg : decode cc pc = .ok (.invokevirtual index, 3)) (hc0 : cells ≤ R.cells) (hs0 : slots ≤ R.slots)
    (isC isR isB : List Nat) (hC : isC.map (fun i => ws[i]?) = wc.map some) (hR : isR.map (fun i => ws[i]?) = wr.map some) (hn : va_nd isR = true) (hdis : ∀ i ∈ isR, i ∉ isC) (hB : isB.map (fun i => (wr ++ wc')[i]?) = ws'.map some) (hBn : va_nd isB = true) (hCn : va_nd isC = true)
    (kk : ∀ (H1 : Heap) (locs1 : List Loc), va_P k.1 vwCl ws' H1 → va_D A ws' → va_S A s.heap H1 locs1 → W p l e R s m args below meth c H1 locs1 cells slots Q (F0 m (pc + 3) ls rest)) : W p l e R s m args below meth c H locs cells slots Q (F0 m pc ls st0) := by
  have hF := va_free (wc := wc) hD hS hA isC hC
  have hPc := k_subP hP hC
  have hDc := hD.sub isC hCn hC
  refine va_callv (va_runV (As := As) (rest := rest) S (hM H.size) cw ⟨k_blind, hrecv, fun U hU hW => ⟨rfl, by rw [hU], by rw [hU]; exact hPc, va_K.moved hW.alike hK, hDc.weaken (fun _ _ _ _ => trivial)⟩⟩ rfl hn0 hsize hstack (lv_room hW) hdg ⟨hc0, hs0⟩) hS (fun q _ h => hF q h) hF (fun u t H1 locs1 ht hvm hw hB1 hz1 hk1 hS1 => ?_)
  obtain ⟨hP1, -, hD1⟩ := hB1
  rw [ht] at hP1
  obtain ⟨hP2, hD2⟩ := k_back hP hD isC isR isB hC hR hn hdis hB hBn hk1 hF hP1 hD1
  exact kk H1 locs1 hP2 hD2 hS1
theorem k_Si {Rv : Int32} (S : CallFix p m c cc nL s args Ts own) (hK : k_K k s) (hA : ∀ q, s.heap.size ≤ q → A q) (hP : va_P k.1 vwCl ws H) (hD : va_D A ws) (hS : va_S A s.heap H locs)
    (hM : k_C l y wsy rm k As wc (k_qI k Rv wc')) (cw : CallB R s args own index y bytes maxL ret wsy rm 0 0 n ∧ (Cond.static y).before args s = true)
    (hn0 : As.length = n) (hsize : ls.size = nL) (hstack : st0 = As.reverse ++ rest) (hW : (rest.map fun v => v.category).sum ≤ 8) (hdg : decode cc pc = .ok (.invokestatic index, 3)) (hc0 : cells ≤ R.cells) (hs0 : slots ≤ R.slots)
    (isC isR isB : List Nat) (hC : isC.map (fun i => ws[i]?) = wc.map some) (hR : isR.map (fun i => ws[i]?) = wr.map some) (hn : va_nd isR = true) (hdis : ∀ i ∈ isR, i ∉ isC) (hB : isB.map (fun i => (wr ++ wc')[i]?) = ws'.map some) (hBn : va_nd isB = true) (hCn : va_nd isC = true)
    (kk : ∀ (H1 : Heap) (locs1 : List Loc), va_P k.1 vwCl ws' H1 → va_D A ws' → va_S A s.heap H1 locs1 → W p l e R s m args below meth c H1 locs1 cells slots Q (F0 m (pc + 3) ls (.int Rv :: rest))) : W p l e R s m args below meth c H locs cells slots Q (F0 m pc ls st0) := by
  have hF := va_free (wc := wc) hD hS hA isC hC
  have hPc := k_subP hP hC
  have hDc := hD.sub isC hCn hC
  refine va_calli (va_runS (As := As) (rest := rest) S (hM H.size) cw ⟨k_blind, fun U hU hW => ⟨rfl, by rw [hU], by rw [hU]; exact hPc, va_K.moved hW.alike hK, hDc.weaken (fun _ _ _ _ => trivial)⟩⟩ rfl hn0 hsize hstack (lv_room hW) hdg ⟨hc0, hs0⟩) hS (fun q _ h => hF q h) hF (fun r u t H1 locs1 ht hvm hw hB1 hz1 hk1 hS1 => ?_)
  obtain ⟨hP1, -, hD1⟩ := hB1
  rw [ht] at hP1
  subst hw
  obtain ⟨hP2, hD2⟩ := k_back hP hD isC isR isB hC hR hn hdis hB hBn hk1 hF hP1 hD1
  exact kk H1 locs1 hP2 hD2 hS1
theorem k_Sj {Rv : Int64} (S : CallFix p m c cc nL s args Ts own) (hK : k_K k s) (hA : ∀ q, s.heap.size ≤ q → A q) (hP : va_P k.1 vwCl ws H) (hD : va_D A ws) (hS : va_S A s.heap H locs)
    (hM : k_C l y wsy rm k As wc (k_qJ k Rv wc')) (cw : CallB R s args own index y bytes maxL ret wsy rm 0 0 n ∧ (Cond.static y).before args s = true)
    (hn0 : As.length = n) (hsize : ls.size = nL) (hstack : st0 = As.reverse ++ rest) (hW : (rest.map fun v => v.category).sum ≤ 8) (hdg : decode cc pc = .ok (.invokestatic index, 3)) (hc0 : cells ≤ R.cells) (hs0 : slots ≤ R.slots)
    (isC isR isB : List Nat) (hC : isC.map (fun i => ws[i]?) = wc.map some) (hR : isR.map (fun i => ws[i]?) = wr.map some) (hn : va_nd isR = true) (hdis : ∀ i ∈ isR, i ∉ isC) (hB : isB.map (fun i => (wr ++ wc')[i]?) = ws'.map some) (hBn : va_nd isB = true) (hCn : va_nd isC = true)
    (kk : ∀ (H1 : Heap) (locs1 : List Loc), va_P k.1 vwCl ws' H1 → va_D A ws' → va_S A s.heap H1 locs1 → W p l e R s m args below meth c H1 locs1 cells slots Q (F0 m (pc + 3) ls (.long Rv :: rest))) : W p l e R s m args below meth c H locs cells slots Q (F0 m pc ls st0) := by
  have hF := va_free (wc := wc) hD hS hA isC hC
  have hPc := k_subP hP hC
  have hDc := hD.sub isC hCn hC
  refine va_calll (va_runS (As := As) (rest := rest) S (hM H.size) cw ⟨k_blind, fun U hU hW => ⟨rfl, by rw [hU], by rw [hU]; exact hPc, va_K.moved hW.alike hK, hDc.weaken (fun _ _ _ _ => trivial)⟩⟩ rfl hn0 hsize hstack (lv_room hW) hdg ⟨hc0, hs0⟩) hS (fun q _ h => hF q h) hF (fun r u t H1 locs1 ht hvm hw hB1 hz1 hk1 hS1 => ?_)
  obtain ⟨hP1, -, hD1⟩ := hB1
  rw [ht] at hP1
  subst hw
  obtain ⟨hP2, hD2⟩ := k_back hP hD isC isR isB hC hR hn hdis hB hBn hk1 hF hP1 hD1
  exact kk H1 locs1 hP2 hD2 hS1
theorem k_Sv (S : CallFix p m c cc nL s args Ts own) (hK : k_K k s) (hA : ∀ q, s.heap.size ≤ q → A q) (hP : va_P k.1 vwCl ws H) (hD : va_D A ws) (hS : va_S A s.heap H locs)
    (hM : k_C l y wsy rm k As wc (k_qV k wc')) (cw : CallB R s args own index y bytes maxL ret wsy rm 0 0 n ∧ (Cond.static y).before args s = true)
    (hn0 : As.length = n) (hsize : ls.size = nL) (hstack : st0 = As.reverse ++ rest) (hW : (rest.map fun v => v.category).sum ≤ 8) (hdg : decode cc pc = .ok (.invokestatic index, 3)) (hc0 : cells ≤ R.cells) (hs0 : slots ≤ R.slots)
    (isC isR isB : List Nat) (hC : isC.map (fun i => ws[i]?) = wc.map some) (hR : isR.map (fun i => ws[i]?) = wr.map some) (hn : va_nd isR = true) (hdis : ∀ i ∈ isR, i ∉ isC) (hB : isB.map (fun i => (wr ++ wc')[i]?) = ws'.map some) (hBn : va_nd isB = true) (hCn : va_nd isC = true)
    (kk : ∀ (H1 : Heap) (locs1 : List Loc), va_P k.1 vwCl ws' H1 → va_D A ws' → va_S A s.heap H1 locs1 → W p l e R s m args below meth c H1 locs1 cells slots Q (F0 m (pc + 3) ls rest)) : W p l e R s m args below meth c H locs cells slots Q (F0 m pc ls st0) := by
  have hF := va_free (wc := wc) hD hS hA isC hC
  have hPc := k_subP hP hC
  have hDc := hD.sub isC hCn hC
  refine va_callv (va_runS (As := As) (rest := rest) S (hM H.size) cw ⟨k_blind, fun U hU hW => ⟨rfl, by rw [hU], by rw [hU]; exact hPc, va_K.moved hW.alike hK, hDc.weaken (fun _ _ _ _ => trivial)⟩⟩ rfl hn0 hsize hstack (lv_room hW) hdg ⟨hc0, hs0⟩) hS (fun q _ h => hF q h) hF (fun u t H1 locs1 ht hvm hw hB1 hz1 hk1 hS1 => ?_)
  obtain ⟨hP1, -, hD1⟩ := hB1
  rw [ht] at hP1
  obtain ⟨hP2, hD2⟩ := k_back hP hD isC isR isB hC hR hn hdis hB hBn hk1 hF hP1 hD1
  exact kk H1 locs1 hP2 hD2 hS1
end KB
/-! the worlds: a block of cells each; a: the block's addresses; the state: by the block's place -/
abbrev k_aI (k : K_X) (n : Nat) (f : Nat → Int32) : va_E := .inl (k.2.1, n, .inl f)
abbrev k_aZ (k : K_X) (n : Nat) (f : Nat → Int32) : va_E := .inl (k.2.2.1, n, .inl f)
abbrev k_aJ (k : K_X) (n : Nat) (f : Nat → Int64) : va_E := .inl (k.2.2.2.1, n, .inr (.inl f))
/-- People: P 0 0 servants, P 0 1 masters, P 1 kind, 2 skill, 3 least, 4 wantedKind, 5 most, 7 barred, 8 + m: what master m heard -/
def w_P (k : K_X) (a : Nat → Nat) (P : Nat → Nat → Int32) : va_W := [(a 0, .inr (2, [.int (P 0 0), .ref (a 1), .ref (a 2), .ref (a 3), .int (P 0 1), .ref (a 4), .ref (a 5), .ref (a 6), .ref (a 7)])), (a 1, k_aI k 10 (P 1)), (a 2, k_aI k 10 (P 2)), (a 3, k_aI k 10 (P 3)), (a 4, k_aI k 10 (P 4)), (a 5, k_aI k 10 (P 5)), (a 6, .inl (k.2.2.2.2, 10, .inr (.inr (.inr (.inr (fun i => if i < 10 then some (a (8 + i)) else none)))))), (a 7, k_aI k 10 (P 7)), (a 8, k_aI k 10 (P 8)), (a 9, k_aI k 10 (P 9)), (a 10, k_aI k 10 (P 10)), (a 11, k_aI k 10 (P 11)), (a 12, k_aI k 10 (P 12)), (a 13, k_aI k 10 (P 13)), (a 14, k_aI k 10 (P 14)), (a 15, k_aI k 10 (P 15)), (a 16, k_aI k 10 (P 16)), (a 17, k_aI k 10 (P 17))]
/-- Fair: F 0 0 minutes, F 1 masterOf, 2 wage, 3 shillingMinute, 4 servantOf, 5 asked; ap, al: its people, its ledger -/
def w_F (k : K_X) (a : Nat → Nat) (ap al : Nat) (F : Nat → Nat → Int32) : va_W := [(a 0, .inr (0, [.ref ap, .ref al, .int (F 0 0), .ref (a 1), .ref (a 2), .ref (a 3), .ref (a 4), .ref (a 5)])), (a 1, k_aI k 10 (F 1)), (a 2, k_aI k 10 (F 2)), (a 3, k_aI k 10 (F 3)), (a 4, k_aI k 10 (F 4)), (a 5, k_aI k 10 (F 5))]
/-- Ledger of room n: L 0 0 count, L 1 rows -/
def w_L (k : K_X) (a : Nat → Nat) (n : Nat) (L : Nat → Nat → Int32) : va_W := [(a 0, .inr (1, [.int (nI n), .ref (a 1), .int (L 0 0)])), (a 1, k_aI k (n * 6) (L 1))]
/-- Year: Y 0 0 day, Y 1 end, 2 warned, 3 forfeited; J sickDays -/
def w_Y (k : K_X) (a : Nat → Nat) (af : Nat) (Y : Nat → Nat → Int32) (J : Nat → Int64) : va_W := [(a 0, .inr (3, [.ref af, .int (Y 0 0), .ref (a 1), .ref (a 2), .ref (a 3), .ref (a 4)])), (a 1, k_aI k 10 (Y 1)), (a 2, k_aZ k 10 (Y 2)), (a 3, k_aZ k 10 (Y 3)), (a 4, k_aJ k 60 J)]
/-- HiringFairs itself -/
def w_X (ax ap af at_ ay : Nat) (tx : Int32) : va_W := [(ax, .inr (4, [.ref ap, .ref af, .ref at_, .ref ay, .int tx]))]
/-- the model: M 0: 0 thrown, 1 servants, 2 masters, 3 minute, 4 bargains, 5 text, 6 day; M 1 kind, 2 skill, 3 least, 4 wants, 5 most, 6 heard, 7 bars, 8 asked, 9 boundTo, 10 wage, 11 shilling, 12 has, 13 told, 14 end, 15 isWarned, 16 isUnpaid, 17 isSick, 18 thenAsked, 19 thenBound, 20 thenWage, 21 thenHas -/
def w_M (k : K_X) (a : Nat → Nat) (M : Nat → Nat → Int32) : va_W := [(a 0, .inr (5, [.int (M 0 0), .int (M 0 1), .ref (a 1), .ref (a 2), .ref (a 3), .int (M 0 2), .ref (a 4), .ref (a 5), .ref (a 6), .ref (a 7), .ref (a 8), .ref (a 9), .ref (a 10), .ref (a 11), .ref (a 12), .int (M 0 3), .int (M 0 4), .ref (a 13), .int (M 0 5), .int (M 0 6), .ref (a 14), .ref (a 15), .ref (a 16), .ref (a 17), .ref (a 18), .ref (a 19), .ref (a 20), .ref (a 21)])), (a 1, k_aI k 10 (M 1)), (a 2, k_aI k 10 (M 2)), (a 3, k_aI k 10 (M 3)), (a 4, k_aI k 10 (M 4)), (a 5, k_aI k 10 (M 5)), (a 6, k_aI k 100 (M 6)), (a 7, k_aZ k 100 (M 7)), (a 8, k_aZ k 100 (M 8)), (a 9, k_aI k 10 (M 9)), (a 10, k_aI k 10 (M 10)), (a 11, k_aI k 10 (M 11)), (a 12, k_aI k 10 (M 12)), (a 13, k_aI k 600 (M 13)), (a 14, k_aI k 10 (M 14)), (a 15, k_aZ k 10 (M 15)), (a 16, k_aZ k 10 (M 16)), (a 17, k_aZ k 3640 (M 17)), (a 18, k_aZ k 100 (M 18)), (a 19, k_aI k 10 (M 19)), (a 20, k_aI k 10 (M 20)), (a 21, k_aI k 10 (M 21))]
theorem w_P_row (k : K_X) (a : Nat → Nat) (P : Nat → Nat → Int32) {i : Nat} (h : i < 10) : (w_P k a P)[8 + i]? = some (a (8 + i), k_aI k 10 (P (8 + i))) := by
  rcases (show i = 0 ∨ i = 1 ∨ i = 2 ∨ i = 3 ∨ i = 4 ∨ i = 5 ∨ i = 6 ∨ i = 7 ∨ i = 8 ∨ i = 9 by omega) with rfl | rfl | rfl | rfl | rfl | rfl | rfl | rfl | rfl | rfl <;> rfl
theorem w_P_rowset (k : K_X) (a : Nat → Nat) (P : Nat → Nat → Int32) {i : Nat} (h : i < 10) (v : Nat → Int32) : (w_P k a P).set (8 + i) (a (8 + i), k_aI k 10 v) = w_P k a (k_st P (8 + i) v) := by
  rcases (show i = 0 ∨ i = 1 ∨ i = 2 ∨ i = 3 ∨ i = 4 ∨ i = 5 ∨ i = 6 ∨ i = 7 ∨ i = 8 ∨ i = 9 by omega) with rfl | rfl | rfl | rfl | rfl | rfl | rfl | rfl | rfl | rfl <;> rfl
theorem k_lt {i : Int32} {n : Nat} (h : vp_in i n) : i.toNatClampNeg < n := Nat.not_le.mp fun q => h (Or.inr q)
theorem k_outer {a : Nat → Nat} {i : Nat} (h : i < 10) : (fun i => if i < 10 then some (a (8 + i)) else none) i = some (a (8 + i)) := if_pos h
