/-! new int[n][m], from the model's own text of the instruction: the state behind i inner arrays in closed form; the loop; the whole instruction -/
def k_oc (cA : ClassId) (N h i : Nat) : Cell := arrV cA N (fun j => va_rf (if j < i then some (h + 1 + j) else none))
def k_ic (cy : ClassId) (K : Nat) : Cell := { cls := cy, slots := Array.replicate K (.int 0), vm := .none }
def k_ms (U : State) (cA : ClassId) (N : Nat) (z : Cell) (i : Nat) : State := { U with heap := U.heap.push (k_oc cA N U.heap.size i) ++ Array.replicate i z, slotsUsed := U.slotsUsed + N + i * z.slots.size }
theorem k_oc_0 (cA : ClassId) (N h : Nat) : k_oc cA N h 0 = { cls := cA, slots := Array.replicate N .null, vm := .none } := by
  rw [arrV_new]
  exact congrArg (arrV cA N) (funext fun j => by rw [if_neg (Nat.not_lt_zero j)]; rfl)
theorem k_oc_s (cA : ClassId) (N h i : Nat) : (k_oc cA N h i).setSlot i (.ref (h + 1 + i)) = k_oc cA N h (i + 1) := by
  unfold k_oc
  rw [arrV_store]
  refine congrArg (arrV cA N) (funext fun j => ?_)
  unfold updV
  by_cases e : j = i
  · rw [if_pos e, if_pos (by omega), e]; rfl
  · rw [if_neg e]
    show va_rf (if j < i then some (h + 1 + j) else none) = _
    by_cases h9 : j < i
    · rw [if_pos h9, if_pos (by omega)]
    · rw [if_neg h9, if_neg (by omega)]
theorem k_oc_n (cA : ClassId) (N h i : Nat) : (k_oc cA N h i).slots.size = N := arrV_size cA N _
theorem k_ic_n (cy : ClassId) (K : Nat) : (k_ic cy K).slots.size = K := Array.size_replicate
theorem k_msget (U : State) (cA : ClassId) (N : Nat) (z : Cell) (i x : Nat) : (k_ms U cA N z i).heap[x]? = if x < U.heap.size then U.heap[x]? else if x = U.heap.size then some (k_oc cA N U.heap.size i) else if x < U.heap.size + 1 + i then some z else none := by
  show (U.heap.push (k_oc cA N U.heap.size i) ++ Array.replicate i z)[x]? = _
  rw [Array.getElem?_append, Array.getElem?_push, Array.size_push, Array.getElem?_replicate]
  by_cases h1 : x < U.heap.size
  · rw [if_pos h1, if_pos (by omega), if_neg (by omega)]
  · rw [if_neg h1]
    by_cases h2 : x = U.heap.size
    · rw [if_pos h2, if_pos (by omega), if_pos h2]
    · have h4 : ¬ x < U.heap.size + 1 := by omega
      rw [if_neg h4, if_neg h2]
      by_cases h3 : x < U.heap.size + 1 + i
      · rw [if_pos h3, if_pos (by omega)]
      · rw [if_neg h3, if_neg (by omega)]
theorem k_mssize (U : State) (cA : ClassId) (N : Nat) (z : Cell) (i : Nat) : (k_ms U cA N z i).heap.size = U.heap.size + 1 + i := by
  show (U.heap.push (k_oc cA N U.heap.size i) ++ Array.replicate i z).size = _
  rw [Array.size_append, Array.size_push, Array.size_replicate]
theorem k_ms_0 (U : State) (cA : ClassId) (N : Nat) (z : Cell) : U.pushCell (k_oc cA N U.heap.size 0) = k_ms U cA N z 0 := by
  unfold k_ms State.pushCell
  rw [k_oc_n, Nat.zero_mul, Array.replicate_zero, Array.append_empty]
  rfl
theorem k_ms_s (U : State) (cA : ClassId) (N : Nat) (z : Cell) (i : Nat) : ((k_ms U cA N z i).pushCell z).setCell U.heap.size (k_oc cA N U.heap.size (i + 1)) = k_ms U cA N z (i + 1) := by
  have hh : ((k_ms U cA N z i).heap.push z).setIfInBounds U.heap.size (k_oc cA N U.heap.size (i + 1)) = (k_ms U cA N z (i + 1)).heap := by
    apply Array.ext_getElem?
    intro x
    rw [Array.getElem?_setIfInBounds, Array.getElem?_push, Array.size_push, k_mssize, k_msget, k_msget]
    by_cases h0 : U.heap.size = x
    · rw [if_pos h0, if_pos (by omega), if_neg (by omega), if_pos h0.symm]
    · rw [if_neg h0]
      by_cases h1 : x = U.heap.size + 1 + i
      · rw [if_pos h1, if_neg (by omega), if_neg (by omega), if_pos (by omega)]
      · rw [if_neg h1]
        by_cases h2 : x < U.heap.size
        · rw [if_pos h2, if_pos h2]
        · have h4 : ¬ x = U.heap.size := fun q => h0 q.symm
          rw [if_neg h2, if_neg h2, if_neg h4, if_neg h4]
          by_cases h3 : x < U.heap.size + 1 + i
          · rw [if_pos h3, if_pos (by omega)]
          · rw [if_neg h3, if_neg (by omega)]
  have hs : U.slotsUsed + N + i * z.slots.size + z.slots.size = U.slotsUsed + N + (i + 1) * z.slots.size := by rw [Nat.succ_mul]; omega
  show ({ U with heap := ((k_ms U cA N z i).heap.push z).setIfInBounds U.heap.size (k_oc cA N U.heap.size (i + 1)), slotsUsed := U.slotsUsed + N + i * z.slots.size + z.slots.size } : State) = _
  rw [hh, hs]
  rfl
theorem k_ms_o (U : State) (cA : ClassId) (N : Nat) (z : Cell) (i : Nat) : ((k_ms U cA N z i).pushCell z).heap[U.heap.size]? = some (k_oc cA N U.heap.size i) := by
  have hlt : U.heap.size < (k_ms U cA N z i).heap.size := by rw [k_mssize]; omega
  rw [State.heap_pushCell_of_lt (h := hlt), k_msget, if_neg (Nat.lt_irrefl _), if_pos rfl]
section KM
variable {E : CtlPost} {e : Env}
/-- a loop over i, i + 1, .. N - 1 whose turns lead from S i to S (i + 1) -/
theorem k_loop {f : Nat → PUnit → Sem (ForInStep PUnit)} {S : Nat → State} {N : Nat}
    (hf : ∀ (i : Nat), i < N → ∀ (d : Bool) (acts : List Action) (Q' : ForInStep PUnit → Pre), (∀ d' acts', Q' (ForInStep.yield PUnit.unit) d' acts' (S (i + 1))) → wp (f i PUnit.unit) Q' E e d acts (S i)) :
    ∀ (r i : Nat), i + r = N → ∀ (d : Bool) (acts : List Action) (Q : PUnit → Pre), (∀ d' acts', Q PUnit.unit d' acts' (S N)) → wp (forIn (List.range' i r) PUnit.unit f) Q E e d acts (S i) := by
  intro r
  induction r with
  | zero =>
    intro i hi d acts Q hQ
    rw [show i = N by omega, List.range'_zero]
    simp only [List.forIn_nil, wp_pure']
    exact hQ d acts
  | succ r ih =>
    intro i hi d acts Q hQ
    rw [List.range'_succ]
    simp only [List.forIn_cons, wp_bind']
    exact hf i (by omega) d acts _ (fun d' acts' => ih (i + 1) (by omega) d' acts' Q hQ)
/-- the model's make with two counts, over int[][] -/
theorem k_make {U : State} {cA cy cc : ClassId} {kA ky : Class} {n m : Int32} {N K : Nat} {d : Bool} {acts : List Action} {Q : Addr → Pre}
    (hkA : U.vm.classes[cA]? = some kA) (hA : kA.kind = .array cy (.array .int)) (hky : U.vm.classes[cy]? = some ky) (hy : ky.kind = .array cc .int)
    (hn : ¬ n < 0) (hm : ¬ m < 0) (hN : n.toNatClampNeg = N) (hK : m.toNatClampNeg = K)
    (l1 : ¬ N > e.platform.arrayLengthLimit) (l2 : ¬ K > e.platform.arrayLengthLimit) (b1 : ¬ N * 4 > e.platform.maxHeapBytes) (b2 : ¬ K * 4 > e.platform.maxHeapBytes)
    (hc : U.heap.size + (1 + N) ≤ e.platform.maxCells) (hs : U.slotsUsed + (N + N * K) ≤ e.platform.maxSlots)
    (hQ : ∀ d' acts', Q U.heap.size d' acts' (k_ms U cA N (k_ic cy K) N)) : wp (multianewarray.make cA [n, m]) Q E e d acts U := by
  have hturn : ∀ (i : Nat), i < N → ∀ (d : Bool) (acts : List Action) (Q' : Addr → Pre), (∀ acts', Q' (U.heap.size + 1 + i) d acts' ((k_ms U cA N (k_ic cy K) i).pushCell (k_ic cy K))) → wp (multianewarray.make cy [m]) Q' E e d acts (k_ms U cA N (k_ic cy K) i) := by
    intro i hi d acts Q' h
    have hmul : i * K + K ≤ N * K := by
      have := Nat.mul_le_mul_right K (show i + 1 ≤ N from hi)
      rwa [Nat.succ_mul] at this
    have hu : (k_ms U cA N (k_ic cy K) i).slotsUsed = U.slotsUsed + N + i * K := by
      show U.slotsUsed + N + i * (k_ic cy K).slots.size = _
      rw [k_ic_n]
    rw [multianewarray.make]
    simp only [wp_bind', W.ite, hm, if_false, wp_pure', W.theClass]
    refine ⟨ky, hky, ?_⟩
    rw [hy, hK]
    refine W.newArray_of (s := k_ms U cA N (k_ic cy K) i) hky hy l2 b2 (by rw [k_mssize]; omega) (by rw [hu]; omega) rfl (fun acts' => ?_)
    rw [k_mssize]
    exact h acts'
  rw [multianewarray.make]
  simp only [wp_bind', W.ite, hn, if_false, wp_pure', W.theClass]
  refine ⟨kA, hkA, ?_⟩
  rw [hA, hN]
  have hNK := Nat.zero_le (N * K)
  simp only [wp_bind']
  refine W.newArray_of hkA hA l1 b1 (by omega) (by omega) rfl (fun acts' => ?_)
  rw [show U.pushCell { cls := cA, slots := Array.replicate N .null } = k_ms U cA N (k_ic cy K) 0 from by rw [← k_ms_0, k_oc_0]]
  have hno : ([m].find? (· < 0)) = none := by rw [List.find?_cons_of_neg (by simpa using hm), List.find?_nil]
  simp only [hno, ite_self, wp_bind', wp_pure']
  have hr : ([:N] : Std.Legacy.Range).size = N := by simp [Std.Legacy.Range.size]
  rw [Std.Legacy.Range.forIn_eq_forIn_range', hr]
  refine k_loop (S := k_ms U cA N (k_ic cy K)) (N := N) (fun i hi d' acts1 Q' h => ?_) N 0 (by omega) d acts' _ (fun d' acts1 => ?_)
  · simp only [wp_bind']
    refine hturn i hi d' acts1 _ (fun acts2 => ?_)
    simp only [wp_bind', W.writeLoc, wp_pure']
    refine ⟨k_oc cA N U.heap.size i, ?_, ?_, ?_, ?_, ?_⟩
    · exact k_ms_o U cA N (k_ic cy K) i
    · exact fun q => by cases q
    · rw [k_oc_n]; exact hi
    · have ht : ((k_ms U cA N (k_ic cy K) i).pushCell (k_ic cy K)).slotType? cA .none i = some (.array .int) := by
        show (U.vm.classes[cA]?).bind _ = _
        rw [hkA]
        show (match kA.kind with | .array _ type => some type | _ => kA.instanceTypes[i]?) = _
        rw [hA]
      show (match ((k_ms U cA N (k_ic cy K) i).pushCell (k_ic cy K)).slotType? cA .none i with | some t => fits t _ | none => false) = true
      rw [ht]
      rfl
    · rw [k_oc_s, k_ms_s]
      exact h _ _
  · simp only [wp_pure']
    exact hQ _ _
end KM
section KMX
variable {p : Program} {l : Launch} {e : Env} {R : Room} {s : State} {m : MethodId} {args : Array Value} {below : List Frame} {meth : Method} {c : Code} {T : State} {locs : List Loc} {cells slots : Nat}
/-- the walk stands at each of these states -/
theorem k_msX (X : Stand p l e R s m args below meth c T locs cells slots) (cA cy : ClassId) (N K : Nat) : ∀ i : Nat, Stand p l e R s m args below meth c (k_ms T cA N (k_ic cy K) i) locs (cells + 1 + i) (slots + N + i * K) := by
  intro i
  induction i with
  | zero =>
    have h := X.pushed (k_oc cA N T.heap.size 0)
    rw [k_oc_n, k_ms_0 T cA N (k_ic cy K)] at h
    rw [Nat.zero_mul]
    exact h
  | succ i ih =>
    have h := ((ih.pushed (k_ic cy K)).stored (k_ms_o T cA N (k_ic cy K) i) i (.ref (T.heap.size + 1 + i))).dropFresh (fun x hx => by
      cases List.mem_singleton.mp hx
      exact X.heapGrown)
    rw [k_oc_s, k_ms_s, k_ic_n] at h
    rw [show slots + N + (i + 1) * K = slots + N + i * K + K by rw [Nat.succ_mul]; omega]
    exact h
/-- what arrayOver says of the array class over int[] -/
theorem k_over {args : Array Value} {s : State} (h : (Cond.arrayOver (.array .int)).before args s = true) : ∃ (cy cA : ClassId) (kA : Class), s.vm.findClass (FieldType.array .int).toString = some cy ∧ s.vm.classes[cA]? = some kA ∧ kA.kind = .array cy (.array .int) ∧ s.vm.findClass ("[" ++ (FieldType.array .int).toString) = some cA := by
  simp only [Cond.before, Cond.holds, Cond.value, beq_iff_eq, Option.bind_eq_some_iff, Option.map_eq_some_iff] at h
  obtain ⟨cy, hcy, cA, hi, kA, hkA, hb⟩ := h
  refine ⟨cy, cA, kA, hcy, hkA, ?_⟩
  obtain ⟨hlt, hp, -⟩ := Array.findIdx?_eq_some_iff_getElem.mp hi
  rw [(Array.getElem?_eq_some_iff.mp hkA).2] at hp
  generalize kA.kind = kd at hb hp ⊢
  cases kd <;> first | (cases hb; done) | skip
  obtain ⟨b1, b2⟩ := Bool.and_eq_true_iff.mp hb
  cases of_decide_eq_true b1
  cases LawfulBEq.eq_of_beq hp
  exact ⟨rfl, of_decide_eq_true b2⟩
/-- multianewarray with two counts, over int[][] -/
theorem k_multi (X : Stand p l e R s m args below meth c T locs cells slots) (hexec : p.tables.exec = Jvm.exec) {own : String} {index : Nat} (hown : s.vm.findClass own = some m.cls)
    (hclink : (Cond.classLink own index ("[" ++ (FieldType.array .int).toString)).before args s = true) (hover : (Cond.arrayOver (.array .int)).before args s = true) (harr : (Cond.arrayClass .int).before args s = true)
    {g : JFrame} (hg : g.method = m) (hdg : decode c.code g.pc = .ok (.multianewarray index 2, 4)) {n k : Int32} {rest : List Value} (hstack : g.stack = .int k :: .int n :: rest) {N K : Nat}
    (hn : ¬ n < 0) (hk : ¬ k < 0) (hN : n.toNatClampNeg = N) (hK : k.toNatClampNeg = K) (hb1 : N * 4 ≤ 536870912) (hb2 : K * 4 ≤ 536870912) (hcells : cells + (1 + N) ≤ R.cells) (hslots : slots + (N + N * K) ≤ R.slots) :
    ∃ (vm₁ : Vm) (cA cy : ClassId), s.vm.findClass ("[" ++ (FieldType.array .int).toString) = some cA ∧ s.vm.findClass (FieldType.array .int).toString = some cy ∧ ArrOfT s cA (.array .int) ∧
      Stand p l e R s m args below meth c (k_ms (T.setVm vm₁) cA N (k_ic cy K) N) locs (cells + 1 + N) (slots + N + N * K) ∧
      ∀ target, Steps p.tables e below ((k_ms (T.setVm vm₁) cA N (k_ic cy K) N).setTop { g with pc := g.pc + 4, stack := .ref T.heap.size :: rest }) target → Steps p.tables e below (T.setTop g) target := by
  subst hg
  obtain ⟨cy, cA, kA, hcy, hkA, hA, hnA⟩ := k_over hover
  obtain ⟨c2, ky, cc, hc2, hky, hy⟩ := Cond.arrayClass_spec harr
  cases Option.some.inj (hc2.symm.trans hcy)
  obtain ⟨c3, hc3, hlink⟩ := Cond.classLink_spec hown hclink e.platform (by rw [X.admits.platform])
  cases Option.some.inj (hc3.symm.trans hnA)
  obtain ⟨hgive, hwarm, -⟩ := State.classEntry (e := e) X.warmed hlink
  generalize T.vm.noted g.method.cls index (.cls cA) = vm₁ at hgive hwarm
  obtain ⟨kA1, hkA1, eA⟩ := hwarm.alike.2.2 _ _ hkA
  obtain ⟨ky1, hky1, ey⟩ := hwarm.alike.2.2 _ _ hky
  obtain ⟨hr1, hr2⟩ := X.roomAbove hcells hslots
  have XF := k_msX (X.noted hwarm) cA cy N K N
  refine ⟨vm₁, cA, cy, hnA, hcy, fun N9 z9 => ⟨(fun q hq => by cases hq), kA, hkA, cy, hA⟩, XF, fun target hgo => ?_⟩
  jvm_step X.here [hexec, hdg]
  simp only [multianewarray.sem, wp_bind', W.resolveClassAt_links (State.method?_setTop g X.here.top) hgive]
  refine (popN_top (s := T.setVm vm₁) (f := g) (args := [.int n, .int k]) (rest := rest) X.here.top hstack).mpr ?_
  simp only [List.mapM_cons, List.mapM_nil, wp_bind', wp_pure']
  have hmove : k_ms ((T.setVm vm₁).setTop { g with stack := rest }) cA N (k_ic cy K) N = (k_ms (T.setVm vm₁) cA N (k_ic cy K) N).setTop { g with stack := rest } := rfl
  refine k_make (kA := kA1) (ky := ky1) (cc := cc) (N := N) (K := K) hkA1 (by rw [eA]; exact hA) hky1 (by rw [ey]; exact hy) hn hk hN hK ?_ ?_ ?_ ?_ hr1 hr2 (fun d' acts' => ?_)
  · rw [Launch.admits_arrayLengthLimit X.admits]; omega
  · rw [Launch.admits_arrayLengthLimit X.admits]; omega
  · rw [Launch.admits_maxHeapBytes X.admits]; omega
  · rw [Launch.admits_maxHeapBytes X.admits]; omega
  rw [hmove]
  simp only [wp_bind', W.mark, W.pushRef]
  refine ⟨_, State.topJava?_setTop' _ XF.here.top, fun acts9 => ?_⟩
  rw [State.setTop_setTop]
  simp [jvm, XF.here.top]
  exact hgo
end KMX
