theorem inlX0 : ∀ w ∈ wsX00, w ∈ wsL_law := fun _ h => List.mem_append_left _ (List.mem_append_left _ (List.mem_append_left _ (List.mem_append_right _ h)))
theorem inlX1 : ∀ w ∈ wsX10, w ∈ wsL_law := fun _ h => List.mem_append_left _ (List.mem_append_left _ (List.mem_append_right _ h))
theorem inlX2 : ∀ w ∈ wsX20, w ∈ wsL_law := fun _ h => List.mem_append_left _ (List.mem_append_left _ (List.mem_append_left _ (List.mem_append_left _ (List.mem_append_right _ h))))
theorem inlX3 : ∀ w ∈ wsX30, w ∈ wsL_law := fun _ h => List.mem_append_left _ (List.mem_append_right _ h)
theorem inlX4 : ∀ w ∈ wsX40, w ∈ wsL_law := fun _ h => List.mem_append_left _ (List.mem_append_left _ (List.mem_append_left _ (List.mem_append_left _ (List.mem_append_left _ (List.mem_append_left _ (List.mem_append_right _ h))))))
theorem inlX5 : ∀ w ∈ wsX50, w ∈ wsL_law := fun _ h => List.mem_append_left _ (List.mem_append_left _ (List.mem_append_left _ (List.mem_append_left _ (List.mem_append_left _ (List.mem_append_right _ h)))))
theorem k_arrI {args : Array Value} {s : State} (h : (Cond.arrayClass .int).before args s = true) : ∃ cA : ClassId, ArrOfT s cA .int ∧ va_RA s cA .int := by
  obtain ⟨cA, kA, comp, h1, h2, h3⟩ := Cond.arrayClass_spec h
  exact ⟨cA, fun n z => ⟨fun k h => (by cases h), kA, h2, comp, h3⟩, h1⟩
theorem k_arrZ {args : Array Value} {s : State} (h : (Cond.arrayClass .boolean).before args s = true) : ∃ cA : ClassId, ArrOfT s cA .boolean ∧ va_RA s cA .boolean := by
  obtain ⟨cA, kA, comp, h1, h2, h3⟩ := Cond.arrayClass_spec h
  exact ⟨cA, fun n z => ⟨fun k h => (by cases h), kA, h2, comp, h3⟩, h1⟩
theorem k_arrJ {args : Array Value} {s : State} (h : (Cond.arrayClass .long).before args s = true) : ∃ cA : ClassId, ArrOfT s cA .long ∧ va_RA s cA .long := by
  obtain ⟨cA, kA, comp, h1, h2, h3⟩ := Cond.arrayClass_spec h
  exact ⟨cA, fun n z => ⟨fun k h => (by cases h), kA, h2, comp, h3⟩, h1⟩
theorem k_arrA {s : State} (h : k_AOA s) : ∃ cA : ClassId, ArrOfT s cA (.array .int) ∧ va_RA s cA (.array .int) := by
  obtain ⟨comp, cA, kA, h1, h2, h3, h4⟩ := k_over h
  exact ⟨cA, fun n z => ⟨fun k h => (by cases h), kA, h2, comp, h3⟩, h4⟩
theorem k_defX4 : ∀ j, j < 5 → defaultValue (tyX4 j) = vp_V [.null, .null, .null, .null, .int 0] j := fun j hj => by
  rcases (show j = 0 ∨ j = 1 ∨ j = 2 ∨ j = 3 ∨ j = 4 by omega) with rfl | rfl | rfl | rfl | rfl <;> rfl
theorem k_defX5 : ∀ j, j < 28 → defaultValue (tyX5 j) = vp_V [.int 0, .int 0, .null, .null, .null, .int 0, .null, .null, .null, .null, .null, .null, .null, .null, .null, .int 0, .int 0, .null, .int 0, .int 0, .null, .null, .null, .null, .null, .null, .null, .null] j := fun j hj => by
  rcases (show j = 0 ∨ j = 1 ∨ j = 2 ∨ j = 3 ∨ j = 4 ∨ j = 5 ∨ j = 6 ∨ j = 7 ∨ j = 8 ∨ j = 9 ∨ j = 10 ∨ j = 11 ∨ j = 12 ∨ j = 13 ∨ j = 14 ∨ j = 15 ∨ j = 16 ∨ j = 17 ∨ j = 18 ∨ j = 19 ∨ j = 20 ∨ j = 21 ∨ j = 22 ∨ j = 23 ∨ j = 24 ∨ j = 25 ∨ j = 26 ∨ j = 27 by omega) with rfl | rfl | rfl | rfl | rfl | rfl | rfl | rfl | rfl | rfl | rfl | rfl | rfl | rfl | rfl | rfl | rfl | rfl | rfl | rfl | rfl | rfl | rfl | rfl | rfl | rfl | rfl | rfl <;> rfl
theorem start_rel {f9 f12 : Nat → Int32} (h9 : ∀ j, j < 10 → f9 j = -9) (h12 : ∀ j, j < 10 → f12 j = -9) : REL (fun _ _ => 0) ((f_X0_startAnew (fun _ _ => 0) (fun _ _ => 0)).1) ((f_X0_startAnew (fun _ _ => 0) (fun _ _ => 0)).2) (k_st (k_st (fun _ _ => 0) 0 (k_st (fun _ => 0) 0 (-9))) 1 (f_J7_fill_53178 10 (fun _ => 0) 363)) (fun _ => 0) 0 (k_st (k_st (k_st (fun _ _ => 0) 0 (k_st (fun _ => 0) 6 (-9))) 9 f9) 12 f12) := by
  refine ⟨⟨rfl, rfl, k_n.mk (j := 0) (by omega), k_n.mk (j := 0) (by omega), fun j hj => ⟨rfl, rfl, rfl, rfl, rfl⟩, fun m hm s hs => rfl, fun m hm s hs => ?_⟩, ⟨fun j hj => ?_, fun j hj => ?_, fun m hm q => absurd (h12 m hm) q, fun m hm s hs => ?_⟩, ⟨fun j hj => ⟨fun _ => ⟨?_, ?_⟩, fun q => absurd (h9 j hj) q⟩, fun m hm i hi => ?_⟩, ⟨rfl, rfl, ?_⟩, ⟨rfl, Or.inl rfl, fun j hj => ⟨fun _ => ?_, fun q => absurd rfl q, ?_, rfl, rfl⟩, fun s hs d hd => ?_⟩, rfl, rfl, rfl, k_n.mk (j := 0) (by omega)⟩
  · show bt 0 s = false ↔ (0 : Int32) = 0
    rw [bt_0]; exact ⟨fun _ => rfl, fun _ => rfl⟩
  · have e1 : (f_X0_startAnew (fun _ _ => 0) (fun _ _ => 0)).1 1 j = -9 := k_fill (n := 10) (by omega) hj
    show (f_X0_startAnew (fun _ _ => 0) (fun _ _ => 0)).1 1 j = f9 j ∧ k_o (f9 j) 10 ∧ (¬ f9 j = -9 → _)
    rw [e1, h9 j hj]; exact ⟨rfl, Or.inl rfl, fun z => absurd rfl z⟩
  · have e1 : (f_X0_startAnew (fun _ _ => 0) (fun _ _ => 0)).1 4 j = -9 := k_fill (n := 10) (by omega) hj
    show (f_X0_startAnew (fun _ _ => 0) (fun _ _ => 0)).1 4 j = f12 j ∧ k_o (f12 j) 10
    rw [e1, h12 j hj]; exact ⟨rfl, Or.inl rfl⟩
  · have e1 : (f_X0_startAnew (fun _ _ => 0) (fun _ _ => 0)).1 5 m = 0 := k_fill (n := 10) (by omega) hm
    show bt ((f_X0_startAnew (fun _ _ => 0) (fun _ _ => 0)).1 5 m) s = false ↔ (0 : Int32) = 0
    rw [e1, bt_0]; exact ⟨fun _ => rfl, fun _ => rfl⟩
  · exact k_fill (n := 10) (by omega) hj
  · exact k_fill (n := 10) (by omega) hj
  · have e1 : (f_X0_startAnew (fun _ _ => 0) (fun _ _ => 0)).1 5 m = 0 := k_fill (n := 10) (by omega) hm
    rw [e1, bt_0]
  · show (0 : Int32) = nI (cntZ (fun _ => 0) 100)
    decide +kernel
  · exact k_fill (n := 10) (by omega) hj
  · have e1 : (k_st (k_st (fun _ _ => 0) 0 (k_st (fun _ => 0) 0 (-9))) 1 (f_J7_fill_53178 10 (fun _ => 0) 363)) 1 j = 363 := k_fill (n := 10) (by omega) hj
    rw [e1]; exact k_n.mk (j := 364) (by omega)
  · show btl 0 (d % 64) = false ↔ (0 : Int32) = 0
    rw [btl_0]; exact ⟨fun _ => rfl, fun _ => rfl⟩
set_option maxHeartbeats 4000000 in
set_option maxRecDepth 100000 in
/-- THE LAW, from its entry -/
theorem whole_start {p : Program} {e : Env} {s : State} {m : MethodId} {below : List Frame} {meth : Method} {c : Code} (l : Launch) {b L : Nat} {xs : Nat → Int32} (hL : L ≤ 2048) (C0 : lw_At p s m meth c b L xs) : W p l e room_1 s m #[Value.ref b] below meth c s.heap [] 0 0 (lw_Z below #[Value.ref b] s) (entryFrame m ([Value.ref b] : List Value).toArray 4) := by
  obtain ⟨hx, hb, hr, hml, hown, hts0, hX, hbl, hlocks, hgv⟩ := id C0
  have hts := fun w h => hts0 w (wsL_law_in w h)
  have hown : s.vm.findClass RL = some m.cls := hown
  have hA : ∀ q : Nat, s.heap.size ≤ q → (fun q : Nat => s.heap.size ≤ q) q := fun _ h => h
  have hbA : ¬ (fun q : Nat => s.heap.size ≤ q) b := Nat.not_le.mpr hbl
  obtain ⟨c0, iS0, hKn0⟩ := u_known (C := RX0) (T := TX0) (N := 8) (n := 8) hts inlX0 (k_w hts 17 rfl)
  obtain ⟨c1, iS1, hKn1⟩ := u_known (C := RX1) (T := TX1) (N := 3) (n := 3) hts inlX1 (k_w hts 20 rfl)
  obtain ⟨c2, iS2, hKn2⟩ := u_known (C := RX2) (T := TX2) (N := 9) (n := 9) hts inlX2 (k_w hts 13 rfl)
  obtain ⟨c3, iS3, hKn3⟩ := u_known (C := RX3) (T := TX3) (N := 6) (n := 6) hts inlX3 (k_w hts 25 rfl)
  obtain ⟨c4, iS4, hKn4⟩ := u_known (C := RX4) (T := TX4) (N := 5) (n := 5) hts inlX4 (k_w hts 1 rfl)
  obtain ⟨c5, iS5, hKn5⟩ := u_known (C := RX5) (T := TX5) (N := 28) (n := 28) hts inlX5 (k_w hts 4 rfl)
  obtain ⟨dC, dI, hKc⟩ : ∃ (dC : Nat → ClassId) (dI : Nat → Nat → Nat), ∀ (k : Nat) (q : vw_C), vwCl[k]? = some q → u_Kn s q.1 q.2.1 q.2.2 (dC k) (dI k) := by
    refine ⟨fun k => if k = 0 then c0 else if k = 1 then c1 else if k = 2 then c2 else if k = 3 then c3 else if k = 4 then c4 else c5, fun k => if k = 0 then iS0 else if k = 1 then iS1 else if k = 2 then iS2 else if k = 3 then iS3 else if k = 4 then iS4 else iS5, ?_⟩
    intro k q hq
    match k, hq with
    | 0, hq => cases hq; exact hKn0
    | 1, hq => cases hq; exact hKn1
    | 2, hq => cases hq; exact hKn2
    | 3, hq => cases hq; exact hKn3
    | 4, hq => cases hq; exact hKn4
    | 5, hq => cases hq; exact hKn5
    | k + 6, hq => simp [vwCl] at hq
  obtain ⟨cI, hI1, hI2⟩ := k_arrI (k_w hts 33 rfl)
  obtain ⟨cZ, hZ1, hZ2⟩ := k_arrZ (k_w hts 80 rfl)
  obtain ⟨cJ, hJ1, hJ2⟩ := k_arrJ (k_w hts 83 rfl)
  have hAO : k_AOA s := hts0 (.arrayOver (.array .int)) (List.mem_of_getElem? (i := 43) rfl)
  obtain ⟨cA, hA1, hA2⟩ := k_arrA hAO
  obtain ⟨k, hk⟩ : ∃ k : K_X, k = ((dC, dI), cI, cZ, cJ, cA) := ⟨_, rfl⟩
  have hK : k_K k s := by
    subst hk
    refine ⟨hKc, fun j q hq => ?_⟩
    match j, hq with
    | 0, hq => cases hq; exact ⟨hI1, hI2⟩
    | 1, hq => cases hq; exact ⟨hZ1, hZ2⟩
    | 2, hq => cases hq; exact ⟨hJ1, hJ2⟩
    | 3, hq => cases hq; exact ⟨hA1, hA2⟩
    | j + 4, hq => simp [k_T] at hq
  have hS : va_S (fun q : Nat => s.heap.size ≤ q) s.heap s.heap [] := va_S.rf
  have hP : va_P k.1 vwCl [] s.heap := fun j q h => by simp at h
  have hD : va_D (fun q : Nat => s.heap.size ≤ q) [] := ⟨fun i j p q h => by simp at h, fun j q h => by simp at h⟩
  have hl := lv_entry ([.ref b]) (n := 4) (Nat.le_of_ble_eq_true rfl)
  rw [lg_entry_eq]
  generalize (lg_sl ([.ref b]) ++ List.replicate (4 - (lg_sl ([.ref b])).length) Slot.unset).toArray = ls at hl ⊢
  have hl : lv_has ls 4 [(0, .ref b)] := hl
  refine va_new (ci := 4) (fs := [.null, .null, .null, .null, .int 0]) (C := RX4) (T := TX4) (N := 5) hx hb hts inlX4 tyX4 tyX4_ok hown (k_w hts 0 rfl) (k_w hts 1 rfl) (k_w hts 2 rfl) hK hP hD hS hA rfl (k_defX4) (Nat.le_of_ble_eq_true rfl) (Nat.le_of_ble_eq_true rfl) dL_law_0 (fun ax H hP hD hS => ?_)
  have hP : va_P k.1 vwCl (([((ax : Nat), .inr (4, [.null, .null, .null, .null, .int 0]))] : va_W)) H := hP
  have hD : va_D (fun q : Nat => s.heap.size ≤ q) (([((ax : Nat), .inr (4, [.null, .null, .null, .null, .int 0]))] : va_W)) := hD
  refine W.widen (k := 1) (n := 5) (by omega) (by omega) ?_
  refine lv_dup hx hb dL_law_3 rfl ?_
  refine k_In (wr := ([] : va_W)) (ws' := fun u => (w_X ax ((u.1) 0) ((u.2.1) 0) ((u.2.2.2.1) 0) ((u.2.2.2.2.2) 0) 0) ++ (w_P k (u.1) (fun _ _ => 0)) ++ (w_F k (u.2.1) ((u.1) 0) ((u.2.2.1) 0) ((f_X0_startAnew (fun _ _ => 0) (fun _ _ => 0)).1)) ++ (w_L k (u.2.2.1) 100 ((f_X0_startAnew (fun _ _ => 0) (fun _ _ => 0)).2)) ++ (w_F k (u.2.2.2.1) ((u.1) 0) ((u.2.2.2.2.1) 0) ((f_X0_startAnew (fun _ _ => 0) (fun _ _ => 0)).1)) ++ (w_L k (u.2.2.2.2.1) 0 ((f_X0_startAnew (fun _ _ => 0) (fun _ _ => 0)).2)) ++ (w_Y k (u.2.2.2.2.2) ((u.2.1) 0) (k_st (k_st (fun _ _ => 0) 0 (k_st (fun _ => 0) 0 (-9))) 1 (f_J7_fill_53178 10 (fun _ => 0) 363)) (fun _ => 0))) (rest := [.ref ax]) ⟨hx, hb, hml, hown, hts⟩ hK hAO hA hP hD hS (c_X4_init l k ax) (cwI 0 hts gL_law_X4_init rfl rfl rfl (k_w hts 2 rfl) (k_w hts 6 rfl) (k_w hts 7 rfl) rfl (by decide +kernel) ⟨Nat.le_of_ble_eq_true rfl, Nat.le_of_ble_eq_true rfl⟩) rfl hl.1 rfl (Nat.le_of_ble_eq_true rfl) dL_law_4 (Nat.le_of_ble_eq_true rfl) (Nat.le_of_ble_eq_true rfl) [0] [] [0, 1, 2, 3, 4, 5, 6, 7, 8, 9, 10, 11, 12, 13, 14, 15, 16, 17, 18, 19, 20, 21, 22, 23, 24, 25, 26, 27, 28, 29, 30, 31, 32, 33, 34, 35, 36, 37, 38, 39] rfl rfl rfl (by decide) (fun u => rfl) rfl rfl (fun u H locs hu hP hD hS => ?_)
  obtain ⟨ap, af, al, ag, ah, ay⟩ := u
  have hP : va_P k.1 vwCl ((w_X ax (ap 0) (af 0) (ag 0) (ay 0) 0) ++ (w_P k ap (fun _ _ => 0)) ++ (w_F k af (ap 0) (al 0) ((f_X0_startAnew (fun _ _ => 0) (fun _ _ => 0)).1)) ++ (w_L k al 100 ((f_X0_startAnew (fun _ _ => 0) (fun _ _ => 0)).2)) ++ (w_F k ag (ap 0) (ah 0) ((f_X0_startAnew (fun _ _ => 0) (fun _ _ => 0)).1)) ++ (w_L k ah 0 ((f_X0_startAnew (fun _ _ => 0) (fun _ _ => 0)).2)) ++ (w_Y k ay (af 0) (k_st (k_st (fun _ _ => 0) 0 (k_st (fun _ => 0) 0 (-9))) 1 (f_J7_fill_53178 10 (fun _ => 0) 363)) (fun _ => 0))) H := hP
  have hD : va_D (fun q : Nat => s.heap.size ≤ q) ((w_X ax (ap 0) (af 0) (ag 0) (ay 0) 0) ++ (w_P k ap (fun _ _ => 0)) ++ (w_F k af (ap 0) (al 0) ((f_X0_startAnew (fun _ _ => 0) (fun _ _ => 0)).1)) ++ (w_L k al 100 ((f_X0_startAnew (fun _ _ => 0) (fun _ _ => 0)).2)) ++ (w_F k ag (ap 0) (ah 0) ((f_X0_startAnew (fun _ _ => 0) (fun _ _ => 0)).1)) ++ (w_L k ah 0 ((f_X0_startAnew (fun _ _ => 0) (fun _ _ => 0)).2)) ++ (w_Y k ay (af 0) (k_st (k_st (fun _ _ => 0) 0 (k_st (fun _ => 0) 0 (-9))) 1 (f_J7_fill_53178 10 (fun _ => 0) 363)) (fun _ => 0))) := hD
  refine W.widen (k := 100) (n := 2000) (by omega) (by omega) ?_
  refine lv_astore_n (lv' := [(1, .ref ax), (0, .ref b)]) hx hb dL_law_7 rfl hl (by decide) rfl (fun ls hl => ?_)
  refine va_new (ci := 5) (fs := [.int 0, .int 0, .null, .null, .null, .int 0, .null, .null, .null, .null, .null, .null, .null, .null, .null, .int 0, .int 0, .null, .int 0, .int 0, .null, .null, .null, .null, .null, .null, .null, .null]) (C := RX5) (T := TX5) (N := 28) hx hb hts inlX5 tyX5 tyX5_ok hown (k_w hts 3 rfl) (k_w hts 4 rfl) (k_w hts 5 rfl) hK hP hD hS hA rfl (k_defX5) (Nat.le_of_ble_eq_true rfl) (Nat.le_of_ble_eq_true rfl) dL_law_8 (fun mx H hP hD hS => ?_)
  have hP : va_P k.1 vwCl ((w_X ax (ap 0) (af 0) (ag 0) (ay 0) 0) ++ (w_P k ap (fun _ _ => 0)) ++ (w_F k af (ap 0) (al 0) ((f_X0_startAnew (fun _ _ => 0) (fun _ _ => 0)).1)) ++ (w_L k al 100 ((f_X0_startAnew (fun _ _ => 0) (fun _ _ => 0)).2)) ++ (w_F k ag (ap 0) (ah 0) ((f_X0_startAnew (fun _ _ => 0) (fun _ _ => 0)).1)) ++ (w_L k ah 0 ((f_X0_startAnew (fun _ _ => 0) (fun _ _ => 0)).2)) ++ (w_Y k ay (af 0) (k_st (k_st (fun _ _ => 0) 0 (k_st (fun _ => 0) 0 (-9))) 1 (f_J7_fill_53178 10 (fun _ => 0) 363)) (fun _ => 0)) ++ ([((mx : Nat), .inr (5, [.int 0, .int 0, .null, .null, .null, .int 0, .null, .null, .null, .null, .null, .null, .null, .null, .null, .int 0, .int 0, .null, .int 0, .int 0, .null, .null, .null, .null, .null, .null, .null, .null]))] : va_W)) H := hP
  have hD : va_D (fun q : Nat => s.heap.size ≤ q) ((w_X ax (ap 0) (af 0) (ag 0) (ay 0) 0) ++ (w_P k ap (fun _ _ => 0)) ++ (w_F k af (ap 0) (al 0) ((f_X0_startAnew (fun _ _ => 0) (fun _ _ => 0)).1)) ++ (w_L k al 100 ((f_X0_startAnew (fun _ _ => 0) (fun _ _ => 0)).2)) ++ (w_F k ag (ap 0) (ah 0) ((f_X0_startAnew (fun _ _ => 0) (fun _ _ => 0)).1)) ++ (w_L k ah 0 ((f_X0_startAnew (fun _ _ => 0) (fun _ _ => 0)).2)) ++ (w_Y k ay (af 0) (k_st (k_st (fun _ _ => 0) 0 (k_st (fun _ => 0) 0 (-9))) 1 (f_J7_fill_53178 10 (fun _ => 0) 363)) (fun _ => 0)) ++ ([((mx : Nat), .inr (5, [.int 0, .int 0, .null, .null, .null, .int 0, .null, .null, .null, .null, .null, .null, .null, .null, .null, .int 0, .int 0, .null, .int 0, .int 0, .null, .null, .null, .null, .null, .null, .null, .null]))] : va_W)) := hD
  refine W.widen (k := 200) (n := 3000) (by omega) (by omega) ?_
  refine lv_dup hx hb dL_law_11 rfl ?_
  refine k_In (wr := (w_X ax (ap 0) (af 0) (ag 0) (ay 0) 0) ++ (w_P k ap (fun _ _ => 0)) ++ (w_F k af (ap 0) (al 0) ((f_X0_startAnew (fun _ _ => 0) (fun _ _ => 0)).1)) ++ (w_L k al 100 ((f_X0_startAnew (fun _ _ => 0) (fun _ _ => 0)).2)) ++ (w_F k ag (ap 0) (ah 0) ((f_X0_startAnew (fun _ _ => 0) (fun _ _ => 0)).1)) ++ (w_L k ah 0 ((f_X0_startAnew (fun _ _ => 0) (fun _ _ => 0)).2)) ++ (w_Y k ay (af 0) (k_st (k_st (fun _ _ => 0) 0 (k_st (fun _ => 0) 0 (-9))) 1 (f_J7_fill_53178 10 (fun _ => 0) 363)) (fun _ => 0))) (ws' := fun v => ((w_X ax (ap 0) (af 0) (ag 0) (ay 0) 0) ++ (w_P k ap (fun _ _ => 0)) ++ (w_F k af (ap 0) (al 0) ((f_X0_startAnew (fun _ _ => 0) (fun _ _ => 0)).1)) ++ (w_L k al 100 ((f_X0_startAnew (fun _ _ => 0) (fun _ _ => 0)).2)) ++ (w_F k ag (ap 0) (ah 0) ((f_X0_startAnew (fun _ _ => 0) (fun _ _ => 0)).1)) ++ (w_L k ah 0 ((f_X0_startAnew (fun _ _ => 0) (fun _ _ => 0)).2)) ++ (w_Y k ay (af 0) (k_st (k_st (fun _ _ => 0) 0 (k_st (fun _ => 0) 0 (-9))) 1 (f_J7_fill_53178 10 (fun _ => 0) 363)) (fun _ => 0))) ++ (w_M k v.1 (k_st (k_st (k_st (fun _ _ => 0) 0 (k_st (fun _ => 0) 6 (-9))) 9 v.2.1) 12 v.2.2))) (rest := [.ref mx]) ⟨hx, hb, hml, hown, hts⟩ hK hAO hA hP hD hS (c_X5_init l k mx) (cwI 0 hts gL_law_X5_init rfl rfl rfl (k_w hts 5 rfl) (k_w hts 86 rfl) (k_w hts 87 rfl) rfl (by decide +kernel) ⟨Nat.le_of_ble_eq_true rfl, Nat.le_of_ble_eq_true rfl⟩) rfl hl.1 rfl (Nat.le_of_ble_eq_true rfl) dL_law_12 (Nat.le_of_ble_eq_true rfl) (Nat.le_of_ble_eq_true rfl) [40] [0, 1, 2, 3, 4, 5, 6, 7, 8, 9, 10, 11, 12, 13, 14, 15, 16, 17, 18, 19, 20, 21, 22, 23, 24, 25, 26, 27, 28, 29, 30, 31, 32, 33, 34, 35, 36, 37, 38, 39] [0, 1, 2, 3, 4, 5, 6, 7, 8, 9, 10, 11, 12, 13, 14, 15, 16, 17, 18, 19, 20, 21, 22, 23, 24, 25, 26, 27, 28, 29, 30, 31, 32, 33, 34, 35, 36, 37, 38, 39, 40, 41, 42, 43, 44, 45, 46, 47, 48, 49, 50, 51, 52, 53, 54, 55, 56, 57, 58, 59, 60, 61] rfl rfl rfl (by decide) (fun v => rfl) rfl rfl (fun v H locs hu hPm hDm hSm => ?_)
  obtain ⟨am, f9, f12⟩ := v
  obtain ⟨hm, h9, h12⟩ := hu
  subst hm
  have hP : va_P k.1 vwCl (lw_w k ax ap af al ag ah ay am (fun _ _ => 0) ((f_X0_startAnew (fun _ _ => 0) (fun _ _ => 0)).1) ((f_X0_startAnew (fun _ _ => 0) (fun _ _ => 0)).2) ((f_X0_startAnew (fun _ _ => 0) (fun _ _ => 0)).1) ((f_X0_startAnew (fun _ _ => 0) (fun _ _ => 0)).2) (k_st (k_st (fun _ _ => 0) 0 (k_st (fun _ => 0) 0 (-9))) 1 (f_J7_fill_53178 10 (fun _ => 0) 363)) (fun _ => 0) 0 (k_st (k_st (k_st (fun _ _ => 0) 0 (k_st (fun _ => 0) 6 (-9))) 9 f9) 12 f12)) H := hPm
  have hD : va_D (fun q : Nat => s.heap.size ≤ q) (lw_w k ax ap af al ag ah ay am (fun _ _ => 0) ((f_X0_startAnew (fun _ _ => 0) (fun _ _ => 0)).1) ((f_X0_startAnew (fun _ _ => 0) (fun _ _ => 0)).2) ((f_X0_startAnew (fun _ _ => 0) (fun _ _ => 0)).1) ((f_X0_startAnew (fun _ _ => 0) (fun _ _ => 0)).2) (k_st (k_st (fun _ _ => 0) 0 (k_st (fun _ => 0) 0 (-9))) 1 (f_J7_fill_53178 10 (fun _ => 0) 363)) (fun _ => 0) 0 (k_st (k_st (k_st (fun _ _ => 0) 0 (k_st (fun _ => 0) 6 (-9))) 9 f9) 12 f12)) := hDm
  have hS := hSm
  refine W.widen (k := 600000) (n := 7302250) (by omega) (by omega) ?_
  refine lv_astore_n (lv' := [(2, .ref (am 0)), (1, .ref ax), (0, .ref b)]) hx hb dL_law_15 rfl hl (by decide) rfl (fun ls hl => ?_)
  refine lv_iconst (v := 0) hx hb dL_law_16 (by decide) ?_
  refine lv_istore_n (lv' := [(3, .int 0), (2, .ref (am 0)), (1, .ref ax), (0, .ref b)]) hx hb dL_law_17 rfl hl (by decide) rfl (fun ls hl => ?_)
  exact law_loop hL C0 hK (L + 1) 0 (Nat.zero_le L) (by omega) _ _ _ _ _ _ _ _ _ H locs ls (start_rel h9 h12) hP hD hS (lv_sub hl [3, 2, 1, 0] rfl)
