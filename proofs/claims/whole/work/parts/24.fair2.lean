theorem in_X0_countTorn_X0 : ∀ w ∈ wsX00, w ∈ wsX0_countTorn := fun _ h => List.mem_cons_of_mem _ (List.mem_append_left _ (List.mem_append_right _ h))
theorem in_X0_countTorn_X2 : ∀ w ∈ wsX20, w ∈ wsX0_countTorn := fun _ h => List.mem_cons_of_mem _ (List.mem_append_right _ h)
def g_X0_countTorn_in (sP : Nat → Nat → Int32) (sF : Nat → Nat → Int32) (jo : Nat) : Nat → Nat → Int32 → Int32
  | 0, j, a1 => a1
  | r + 1, j, a1 => if (f_X0_isTorn sP sF (nI jo) (nI j)) = 0 then g_X0_countTorn_in sP sF jo r (j + 1) a1
    else g_X0_countTorn_in sP sF jo r (j + 1) (a1 + 1)
set_option maxHeartbeats 4000000 in
set_option maxRecDepth 100000 in
theorem lp_X0_countTorn_in {p : Program} {l : Launch} {e : Env} {s : State} {m : MethodId} {below : List Frame} {meth : Method} {c : Code} {A : Nat → Prop} {Q : State → Prop} {av : Array Value} (k : K_X) (ap : Nat → Nat) (af : Nat → Nat) (l0 : Nat) (sP : Nat → Nat → Int32) (sF : Nat → Nat → Int32) (jo : Nat) (C0 : k_Cx p s m meth c k cX0_countTorn (some .int) wsX0_countTorn RX0 4 av A) (hjo : jo < 10) (hNm : k_n (sP 0 1) 10) (hO : ∀ j, j < 10 → k_o (sF 4 j) 10) : ∀ (r j : Nat) (a1 : Int32) (H : Heap) (locs : List Loc) (ls : Array Slot), j + r = (sP 0 1).toNatClampNeg → va_P k.1 vwCl ((w_P k ap sP) ++ (w_F k af (ap 0) (l0) sF)) H → va_D A ((w_P k ap sP) ++ (w_F k af (ap 0) (l0) sF)) → va_S A s.heap H locs → lv_has ls 4 [(0, .ref (af 0)), (1, .int a1), (2, .int (nI jo)), (3, .int (nI j))] → (∀ (H : Heap) (locs : List Loc) (ls : Array Slot), va_P k.1 vwCl ((w_P k ap sP) ++ (w_F k af (ap 0) (l0) sF)) H → va_D A ((w_P k ap sP) ++ (w_F k af (ap 0) (l0) sF)) → va_S A s.heap H locs → lv_has ls 4 [(0, .ref (af 0)), (1, .int (g_X0_countTorn_in sP sF jo r j a1)), (2, .int (nI jo))] → W p l e (k_rm 4 94) s m av below meth c H locs 0 0 Q (F0 m 46 ls [])) → W p l e (k_rm 4 94) s m av below meth c H locs 0 0 Q (F0 m 17 ls []) := by
  obtain ⟨hx, hb, hr, hts, hown, hlocks, hml, hA, hK⟩ := id C0
  have hq2 := hNm.2
  intro r
  induction r with
  | zero =>
    intro j a1 H locs ls hj hP hD hS hl hQ
    refine lv_iload_n hx hb dX0_countTorn_17 rfl (lv_at hl 3 rfl) ?_
    refine lv_aload_n hx hb dX0_countTorn_18 rfl (lv_at hl 0 rfl) ?_
    refine va_get (D := k.1) (ci := 0) (v := .ref (ap 0)) (C := RX0) (T := TX0) (N := 8) hx hb hts in_X0_countTorn_X0 hown hK hP 18 rfl rfl 0 (by decide) (k_w hts 1 rfl) (fun _ h9 => h9) rfl dX0_countTorn_19 ?_
    refine va_get (D := k.1) (ci := 2) (v := .int (sP 0 1)) (C := RX2) (T := TX2) (N := 9) hx hb hts in_X0_countTorn_X2 hown hK hP 0 rfl rfl 4 (by decide) (k_w hts 3 rfl) (fun _ h9 => h9) rfl dX0_countTorn_22 ?_
    refine lv_icmp_ge (tgt := 46) hx hb dX0_countTorn_25 (by decide) (fun c_1 => ?_) (fun c_1 => ?_)
    rotate_left
    · exact absurd (hNm.ge (by omega)) c_1
    have eg : g_X0_countTorn_in sP sF jo 0 j a1 = a1 := by
      rw [g_X0_countTorn_in]
    rw [eg] at hQ
    exact hQ _ _ _ hP hD hS (lv_sub hl [0, 1, 2] rfl)
  | succ r ih =>
    intro j a1 H locs ls hj hP hD hS hl hQ
    refine lv_iload_n hx hb dX0_countTorn_17 rfl (lv_at hl 3 rfl) ?_
    refine lv_aload_n hx hb dX0_countTorn_18 rfl (lv_at hl 0 rfl) ?_
    refine va_get (D := k.1) (ci := 0) (v := .ref (ap 0)) (C := RX0) (T := TX0) (N := 8) hx hb hts in_X0_countTorn_X0 hown hK hP 18 rfl rfl 0 (by decide) (k_w hts 1 rfl) (fun _ h9 => h9) rfl dX0_countTorn_19 ?_
    refine va_get (D := k.1) (ci := 2) (v := .int (sP 0 1)) (C := RX2) (T := TX2) (N := 9) hx hb hts in_X0_countTorn_X2 hown hK hP 0 rfl rfl 4 (by decide) (k_w hts 3 rfl) (fun _ h9 => h9) rfl dX0_countTorn_22 ?_
    refine lv_icmp_ge (tgt := 46) hx hb dX0_countTorn_25 (by decide) (fun c_1 => ?_) (fun c_1 => ?_)
    · exact absurd c_1 (hNm.nge (by omega))
    refine lv_aload_n hx hb dX0_countTorn_28 rfl (lv_at hl 0 rfl) ?_
    refine lv_iload_n hx hb dX0_countTorn_29 rfl (lv_at hl 2 rfl) ?_
    refine lv_iload_n hx hb dX0_countTorn_30 rfl (lv_at hl 3 rfl) ?_
    refine k_Vi (wr := ([] : va_W)) (ws' := (w_P k ap sP) ++ (w_F k af (ap 0) (l0) sF)) (Rv := (f_X0_isTorn sP sF (nI jo) (nI j))) (rest := []) ⟨hx, hb, hml, hown, hts⟩ hK hA hP hD hS (c_X0_isTorn l k ap af (l0) sP sF (nI jo) (nI j) (by first | assumption | omega | exact vp_in_nI (by omega) (by omega)) (by first | assumption | omega | exact vp_in_nI (by omega) (by omega)) (by first | assumption | exact k_ofj (by assumption) (by omega))) (cwV 2 hts gX0_countTorn_X0_isTorn rfl rfl rfl (by decide +kernel) ⟨Nat.le_of_ble_eq_true rfl, Nat.le_of_ble_eq_true rfl⟩) (va_recv hK hP (ci := 0) (q0 := 18) rfl rfl) rfl hl.1 rfl (Nat.le_of_ble_eq_true rfl) dX0_countTorn_31 (Nat.zero_le _) (Nat.zero_le _) [0, 1, 2, 3, 4, 5, 6, 7, 8, 9, 10, 11, 12, 13, 14, 15, 16, 17, 18, 19, 20, 21, 22, 23] [] [0, 1, 2, 3, 4, 5, 6, 7, 8, 9, 10, 11, 12, 13, 14, 15, 16, 17, 18, 19, 20, 21, 22, 23] rfl rfl rfl (by decide) rfl rfl rfl (fun H locs hP hD hS => ?_)
    refine lv_if_eq (tgt := 40) hx hb dX0_countTorn_34 (by decide) (fun c_2 => ?_) (fun c_2 => ?_)
    ·
      refine lv_iinc (v := nI (j + 1)) (lv' := [(3, .int (nI (j + 1))), (0, .ref (af 0)), (1, .int a1), (2, .int (nI jo))]) hx hb dX0_countTorn_40 hl (k := 3) rfl (nI_1 j) (by decide) rfl (fun ls hl => ?_)
      refine lv_goto (tgt := 17) hx hb dX0_countTorn_43 (by decide) ?_
      have eg : g_X0_countTorn_in sP sF jo (r + 1) j a1 = g_X0_countTorn_in sP sF jo r (j + 1) a1 := by
        rw [g_X0_countTorn_in, if_pos c_2]
      rw [eg] at hQ
      exact ih (j + 1) a1 _ _ _ (by omega) hP hD hS (lv_sub hl [1, 2, 3, 0] rfl) hQ
    ·
      refine lv_iinc (v := a1 + 1) (lv' := [(1, .int (a1 + 1)), (0, .ref (af 0)), (2, .int (nI jo)), (3, .int (nI j))]) hx hb dX0_countTorn_37 hl (k := 1) rfl rfl (by decide) rfl (fun ls hl => ?_)
      refine lv_iinc (v := nI (j + 1)) (lv' := [(3, .int (nI (j + 1))), (1, .int (a1 + 1)), (0, .ref (af 0)), (2, .int (nI jo))]) hx hb dX0_countTorn_40 hl (k := 3) rfl (nI_1 j) (by decide) rfl (fun ls hl => ?_)
      refine lv_goto (tgt := 17) hx hb dX0_countTorn_43 (by decide) ?_
      have eg : g_X0_countTorn_in sP sF jo (r + 1) j a1 = g_X0_countTorn_in sP sF jo r (j + 1) (a1 + 1) := by
        rw [g_X0_countTorn_in, if_neg c_2]
      rw [eg] at hQ
      exact ih (j + 1) (a1 + 1) _ _ _ (by omega) hP hD hS (lv_sub hl [2, 1, 3, 0] rfl) hQ
def g_X0_countTorn_out (sP : Nat → Nat → Int32) (sF : Nat → Nat → Int32) : Nat → Nat → Int32 → Int32
  | 0, j, a1 => a1
  | r + 1, j, a1 => g_X0_countTorn_out sP sF r (j + 1) (g_X0_countTorn_in sP sF j ((sP 0 1).toNatClampNeg) 0 a1)
set_option maxHeartbeats 4000000 in
set_option maxRecDepth 100000 in
theorem lp_X0_countTorn_out {p : Program} {l : Launch} {e : Env} {s : State} {m : MethodId} {below : List Frame} {meth : Method} {c : Code} {A : Nat → Prop} {Q : State → Prop} {av : Array Value} (k : K_X) (ap : Nat → Nat) (af : Nat → Nat) (l0 : Nat) (sP : Nat → Nat → Int32) (sF : Nat → Nat → Int32) (C0 : k_Cx p s m meth c k cX0_countTorn (some .int) wsX0_countTorn RX0 4 av A) (hNs : k_n (sP 0 0) 10) (hNm : k_n (sP 0 1) 10) (hO : ∀ j, j < 10 → k_o (sF 4 j) 10) : ∀ (r j : Nat) (a1 : Int32) (H : Heap) (locs : List Loc) (ls : Array Slot), j + r = (sP 0 0).toNatClampNeg → va_P k.1 vwCl ((w_P k ap sP) ++ (w_F k af (ap 0) (l0) sF)) H → va_D A ((w_P k ap sP) ++ (w_F k af (ap 0) (l0) sF)) → va_S A s.heap H locs → lv_has ls 4 [(0, .ref (af 0)), (1, .int a1), (2, .int (nI j))] → (∀ (H : Heap) (locs : List Loc) (ls : Array Slot), va_P k.1 vwCl ((w_P k ap sP) ++ (w_F k af (ap 0) (l0) sF)) H → va_D A ((w_P k ap sP) ++ (w_F k af (ap 0) (l0) sF)) → va_S A s.heap H locs → lv_has ls 4 [(0, .ref (af 0)), (1, .int (g_X0_countTorn_out sP sF r j a1))] → W p l e (k_rm 4 94) s m av below meth c H locs 0 0 Q (F0 m 52 ls [])) → W p l e (k_rm 4 94) s m av below meth c H locs 0 0 Q (F0 m 4 ls []) := by
  obtain ⟨hx, hb, hr, hts, hown, hlocks, hml, hA, hK⟩ := id C0
  have hq := hNs.2; have hq2 := hNm.2
  intro r
  induction r with
  | zero =>
    intro j a1 H locs ls hj hP hD hS hl hQ
    refine lv_iload_n hx hb dX0_countTorn_4 rfl (lv_at hl 2 rfl) ?_
    refine lv_aload_n hx hb dX0_countTorn_5 rfl (lv_at hl 0 rfl) ?_
    refine va_get (D := k.1) (ci := 0) (v := .ref (ap 0)) (C := RX0) (T := TX0) (N := 8) hx hb hts in_X0_countTorn_X0 hown hK hP 18 rfl rfl 0 (by decide) (k_w hts 1 rfl) (fun _ h9 => h9) rfl dX0_countTorn_6 ?_
    refine va_get (D := k.1) (ci := 2) (v := .int (sP 0 0)) (C := RX2) (T := TX2) (N := 9) hx hb hts in_X0_countTorn_X2 hown hK hP 0 rfl rfl 0 (by decide) (k_w hts 2 rfl) (fun _ h9 => h9) rfl dX0_countTorn_9 ?_
    refine lv_icmp_ge (tgt := 52) hx hb dX0_countTorn_12 (by decide) (fun c_1 => ?_) (fun c_1 => ?_)
    rotate_left
    · exact absurd (hNs.ge (by omega)) c_1
    have eg : g_X0_countTorn_out sP sF 0 j a1 = a1 := by
      rw [g_X0_countTorn_out]
    rw [eg] at hQ
    exact hQ _ _ _ hP hD hS (lv_sub hl [0, 1] rfl)
  | succ r ih =>
    intro j a1 H locs ls hj hP hD hS hl hQ
    refine lv_iload_n hx hb dX0_countTorn_4 rfl (lv_at hl 2 rfl) ?_
    refine lv_aload_n hx hb dX0_countTorn_5 rfl (lv_at hl 0 rfl) ?_
    refine va_get (D := k.1) (ci := 0) (v := .ref (ap 0)) (C := RX0) (T := TX0) (N := 8) hx hb hts in_X0_countTorn_X0 hown hK hP 18 rfl rfl 0 (by decide) (k_w hts 1 rfl) (fun _ h9 => h9) rfl dX0_countTorn_6 ?_
    refine va_get (D := k.1) (ci := 2) (v := .int (sP 0 0)) (C := RX2) (T := TX2) (N := 9) hx hb hts in_X0_countTorn_X2 hown hK hP 0 rfl rfl 0 (by decide) (k_w hts 2 rfl) (fun _ h9 => h9) rfl dX0_countTorn_9 ?_
    refine lv_icmp_ge (tgt := 52) hx hb dX0_countTorn_12 (by decide) (fun c_1 => ?_) (fun c_1 => ?_)
    · exact absurd c_1 (hNs.nge (by omega))
    refine lv_iconst (v := 0) hx hb dX0_countTorn_15 (by decide) ?_
    refine lv_istore_n (lv' := [(3, .int 0), (0, .ref (af 0)), (1, .int a1), (2, .int (nI j))]) hx hb dX0_countTorn_16 rfl hl (by decide) rfl (fun ls hl => ?_)
    have hl : lv_has ls 4 [(0, .ref (af 0)), (1, .int a1), (2, .int (nI j)), (3, .int (nI 0))] := lv_sub hl [1, 2, 3, 0] rfl
    refine lp_X0_countTorn_in k ap af l0 sP sF j C0 (by first | assumption | omega) (by first | assumption | omega) (by first | assumption | omega) ((sP 0 1).toNatClampNeg) 0 a1 _ _ _ (by omega) hP hD hS hl (fun H locs ls hP hD hS hl => ?_)
    refine lv_iinc (v := nI (j + 1)) (lv' := [(2, .int (nI (j + 1))), (0, .ref (af 0)), (1, .int (g_X0_countTorn_in sP sF j ((sP 0 1).toNatClampNeg) 0 a1))]) hx hb dX0_countTorn_46 hl (k := 2) rfl (nI_1 j) (by decide) rfl (fun ls hl => ?_)
    refine lv_goto (tgt := 4) hx hb dX0_countTorn_49 (by decide) ?_
    have eg : g_X0_countTorn_out sP sF (r + 1) j a1 = g_X0_countTorn_out sP sF r (j + 1) (g_X0_countTorn_in sP sF j ((sP 0 1).toNatClampNeg) 0 a1) := by
      rw [g_X0_countTorn_out]
    rw [eg] at hQ
    exact ih (j + 1) (g_X0_countTorn_in sP sF j ((sP 0 1).toNatClampNeg) 0 a1) _ _ _ (by omega) hP hD hS (lv_sub hl [1, 2, 0] rfl) hQ
def f_X0_countTorn (sP : Nat → Nat → Int32) (sF : Nat → Nat → Int32) : Int32 :=
  g_X0_countTorn_out sP sF ((sP 0 0).toNatClampNeg) 0 0
set_option maxHeartbeats 4000000 in
set_option maxRecDepth 100000 in
theorem c_X0_countTorn (l : Launch) (k : K_X) (ap : Nat → Nat) (af : Nat → Nat) (l0 : Nat) (sP : Nat → Nat → Int32) (sF : Nat → Nat → Int32) (hNs : k_n (sP 0 0) 10) (hNm : k_n (sP 0 1) 10) (hO : ∀ j, j < 10 → k_o (sF 4 j) 10) : k_C l yX0_countTorn wsX0_countTorn (k_rm 4 94) k [.ref (af 0)] ((w_P k ap sP) ++ (w_F k af (ap 0) (l0) sF)) (k_qI k (f_X0_countTorn sP sF) ((w_P k ap sP) ++ (w_F k af (ap 0) (l0) sF))) := by
  refine k_mk (cc := cX0_countTorn) (maxL := 4) (ret := (some .int)) (by decide) rfl (Nat.le_of_ble_eq_true rfl) ?_
  intro p e s m below meth c A ls C0 hP hD hS hl
  obtain ⟨hx, hb, hr, hts, hown, hlocks, hml, hA, hK⟩ := id C0
  have hown : s.vm.findClass RX0 = some m.cls := hown
  have hl : lv_has ls 4 [(0, .ref (af 0))] := hl
  refine lv_iconst (v := 0) hx hb dX0_countTorn_0 (by decide) ?_
  refine lv_istore_n (lv' := [(1, .int 0), (0, .ref (af 0))]) hx hb dX0_countTorn_1 rfl hl (by decide) rfl (fun ls hl => ?_)
  refine lv_iconst (v := 0) hx hb dX0_countTorn_2 (by decide) ?_
  refine lv_istore_n (lv' := [(2, .int 0), (1, .int 0), (0, .ref (af 0))]) hx hb dX0_countTorn_3 rfl hl (by decide) rfl (fun ls hl => ?_)
  have hl : lv_has ls 4 [(0, .ref (af 0)), (1, .int 0), (2, .int (nI 0))] := lv_sub hl [2, 1, 0] rfl
  refine lp_X0_countTorn_out k ap af l0 sP sF C0 (by first | assumption | omega) (by first | assumption | omega) (by first | assumption | omega) ((sP 0 0).toNatClampNeg) 0 0 _ _ _ (by omega) hP hD hS hl (fun H locs ls hP hD hS hl => ?_)
  refine lv_iload_n hx hb dX0_countTorn_52 rfl (lv_at hl 1 rfl) ?_
  have ef : f_X0_countTorn sP sF = g_X0_countTorn_out sP sF ((sP 0 0).toNatClampNeg) 0 0 := by
    rw [f_X0_countTorn]
  exact k_reti hx hb hr hK hP hD hS hlocks dX0_countTorn_53 (by rw [ef])
theorem in_X0_findTorn_X0 : ∀ w ∈ wsX00, w ∈ wsX0_findTorn := fun _ h => List.mem_cons_of_mem _ (List.mem_append_left _ (List.mem_append_right _ h))
theorem in_X0_findTorn_X2 : ∀ w ∈ wsX20, w ∈ wsX0_findTorn := fun _ h => List.mem_cons_of_mem _ (List.mem_append_right _ h)
def g_X0_findTorn_in (sP : Nat → Nat → Int32) (sF : Nat → Nat → Int32) (i1 : Int32) (jo : Nat) : Nat → Nat → Int32 → Option Int32 × Int32
  | 0, j, a1 => (none, a1)
  | r + 1, j, a1 => if (f_X0_isTorn sP sF (nI jo) (nI j)) = 0 then g_X0_findTorn_in sP sF i1 jo r (j + 1) a1
    else if a1 = i1 then (some ((10 * (nI jo)) + (nI j)), a1)
    else g_X0_findTorn_in sP sF i1 jo r (j + 1) (a1 + 1)
set_option maxHeartbeats 4000000 in
set_option maxRecDepth 100000 in
theorem lp_X0_findTorn_in {p : Program} {l : Launch} {e : Env} {s : State} {m : MethodId} {below : List Frame} {meth : Method} {c : Code} {A : Nat → Prop} {Q : State → Prop} {av : Array Value} (k : K_X) (ap : Nat → Nat) (af : Nat → Nat) (l0 : Nat) (sP : Nat → Nat → Int32) (sF : Nat → Nat → Int32) (i1 : Int32) (jo : Nat) (C0 : k_Cx p s m meth c k cX0_findTorn (some .int) wsX0_findTorn RX0 5 av A) (hjo : jo < 10) (hNm : k_n (sP 0 1) 10) (hO : ∀ j, j < 10 → k_o (sF 4 j) 10) : ∀ (r j : Nat) (a1 : Int32) (H : Heap) (locs : List Loc) (ls : Array Slot), j + r = (sP 0 1).toNatClampNeg → va_P k.1 vwCl ((w_P k ap sP) ++ (w_F k af (ap 0) (l0) sF)) H → va_D A ((w_P k ap sP) ++ (w_F k af (ap 0) (l0) sF)) → va_S A s.heap H locs → lv_has ls 5 [(0, .ref (af 0)), (1, .int i1), (2, .int a1), (3, .int (nI jo)), (4, .int (nI j))] → (∀ (H : Heap) (locs : List Loc) (ls : Array Slot), (g_X0_findTorn_in sP sF i1 jo r j a1).1 = none → va_P k.1 vwCl ((w_P k ap sP) ++ (w_F k af (ap 0) (l0) sF)) H → va_D A ((w_P k ap sP) ++ (w_F k af (ap 0) (l0) sF)) → va_S A s.heap H locs → lv_has ls 5 [(0, .ref (af 0)), (1, .int i1), (2, .int ((g_X0_findTorn_in sP sF i1 jo r j a1).2)), (3, .int (nI jo))] → W p l e (k_rm 4 94) s m av below meth c H locs 0 0 Q (F0 m 65 ls [])) → (∀ (v : Int32) (H : Heap) (locs : List Loc) (ls : Array Slot), (g_X0_findTorn_in sP sF i1 jo r j a1).1 = some v → va_P k.1 vwCl ((w_P k ap sP) ++ (w_F k af (ap 0) (l0) sF)) H → va_D A ((w_P k ap sP) ++ (w_F k af (ap 0) (l0) sF)) → va_S A s.heap H locs → W p l e (k_rm 4 94) s m av below meth c H locs 0 0 Q (F0 m 55 ls [.int v])) → W p l e (k_rm 4 94) s m av below meth c H locs 0 0 Q (F0 m 18 ls []) := by
  obtain ⟨hx, hb, hr, hts, hown, hlocks, hml, hA, hK⟩ := id C0
  have hq2 := hNm.2
  intro r
  induction r with
  | zero =>
    intro j a1 H locs ls hj hP hD hS hl hQ hR
    refine lv_iload hx hb dX0_findTorn_18 (lv_at hl 4 rfl) ?_
    refine lv_aload_n hx hb dX0_findTorn_20 rfl (lv_at hl 0 rfl) ?_
    refine va_get (D := k.1) (ci := 0) (v := .ref (ap 0)) (C := RX0) (T := TX0) (N := 8) hx hb hts in_X0_findTorn_X0 hown hK hP 18 rfl rfl 0 (by decide) (k_w hts 1 rfl) (fun _ h9 => h9) rfl dX0_findTorn_21 ?_
    refine va_get (D := k.1) (ci := 2) (v := .int (sP 0 1)) (C := RX2) (T := TX2) (N := 9) hx hb hts in_X0_findTorn_X2 hown hK hP 0 rfl rfl 4 (by decide) (k_w hts 3 rfl) (fun _ h9 => h9) rfl dX0_findTorn_24 ?_
    refine lv_icmp_ge (tgt := 65) hx hb dX0_findTorn_27 (by decide) (fun c_1 => ?_) (fun c_1 => ?_)
    rotate_left
    · exact absurd (hNm.ge (by omega)) c_1
    have eg : g_X0_findTorn_in sP sF i1 jo 0 j a1 = (none, a1) := by
      rw [g_X0_findTorn_in]
    rw [eg] at hQ
    exact hQ _ _ _ rfl hP hD hS (lv_sub hl [0, 1, 2, 3] rfl)
  | succ r ih =>
    intro j a1 H locs ls hj hP hD hS hl hQ hR
    refine lv_iload hx hb dX0_findTorn_18 (lv_at hl 4 rfl) ?_
    refine lv_aload_n hx hb dX0_findTorn_20 rfl (lv_at hl 0 rfl) ?_
    refine va_get (D := k.1) (ci := 0) (v := .ref (ap 0)) (C := RX0) (T := TX0) (N := 8) hx hb hts in_X0_findTorn_X0 hown hK hP 18 rfl rfl 0 (by decide) (k_w hts 1 rfl) (fun _ h9 => h9) rfl dX0_findTorn_21 ?_
    refine va_get (D := k.1) (ci := 2) (v := .int (sP 0 1)) (C := RX2) (T := TX2) (N := 9) hx hb hts in_X0_findTorn_X2 hown hK hP 0 rfl rfl 4 (by decide) (k_w hts 3 rfl) (fun _ h9 => h9) rfl dX0_findTorn_24 ?_
    refine lv_icmp_ge (tgt := 65) hx hb dX0_findTorn_27 (by decide) (fun c_1 => ?_) (fun c_1 => ?_)
    · exact absurd c_1 (hNm.nge (by omega))
    refine lv_aload_n hx hb dX0_findTorn_30 rfl (lv_at hl 0 rfl) ?_
    refine lv_iload_n hx hb dX0_findTorn_31 rfl (lv_at hl 3 rfl) ?_
    refine lv_iload hx hb dX0_findTorn_32 (lv_at hl 4 rfl) ?_
    refine k_Vi (wr := ([] : va_W)) (ws' := (w_P k ap sP) ++ (w_F k af (ap 0) (l0) sF)) (Rv := (f_X0_isTorn sP sF (nI jo) (nI j))) (rest := []) ⟨hx, hb, hml, hown, hts⟩ hK hA hP hD hS (c_X0_isTorn l k ap af (l0) sP sF (nI jo) (nI j) (by first | assumption | omega | exact vp_in_nI (by omega) (by omega)) (by first | assumption | omega | exact vp_in_nI (by omega) (by omega)) (by first | assumption | exact k_ofj (by assumption) (by omega))) (cwV 2 hts gX0_findTorn_X0_isTorn rfl rfl rfl (by decide +kernel) ⟨Nat.le_of_ble_eq_true rfl, Nat.le_of_ble_eq_true rfl⟩) (va_recv hK hP (ci := 0) (q0 := 18) rfl rfl) rfl hl.1 rfl (Nat.le_of_ble_eq_true rfl) dX0_findTorn_34 (Nat.zero_le _) (Nat.zero_le _) [0, 1, 2, 3, 4, 5, 6, 7, 8, 9, 10, 11, 12, 13, 14, 15, 16, 17, 18, 19, 20, 21, 22, 23] [] [0, 1, 2, 3, 4, 5, 6, 7, 8, 9, 10, 11, 12, 13, 14, 15, 16, 17, 18, 19, 20, 21, 22, 23] rfl rfl rfl (by decide) rfl rfl rfl (fun H locs hP hD hS => ?_)
    refine lv_if_ne (tgt := 43) hx hb dX0_findTorn_37 (by decide) (fun c_2 => ?_) (fun c_2 => ?_)
    ·
      refine lv_iload_n hx hb dX0_findTorn_43 rfl (lv_at hl 2 rfl) ?_
      refine lv_iload_n hx hb dX0_findTorn_44 rfl (lv_at hl 1 rfl) ?_
      refine lv_icmp_ne (tgt := 56) hx hb dX0_findTorn_45 (by decide) (fun c_3 => ?_) (fun c_3 => ?_)
      ·
        refine lv_iinc (v := a1 + 1) (lv' := [(2, .int (a1 + 1)), (0, .ref (af 0)), (1, .int i1), (3, .int (nI jo)), (4, .int (nI j))]) hx hb dX0_findTorn_56 hl (k := 2) rfl rfl (by decide) rfl (fun ls hl => ?_)
        refine lv_iinc (v := nI (j + 1)) (lv' := [(4, .int (nI (j + 1))), (2, .int (a1 + 1)), (0, .ref (af 0)), (1, .int i1), (3, .int (nI jo))]) hx hb dX0_findTorn_59 hl (k := 4) rfl (nI_1 j) (by decide) rfl (fun ls hl => ?_)
        refine lv_goto (tgt := 18) hx hb dX0_findTorn_62 (by decide) ?_
        have eg : g_X0_findTorn_in sP sF i1 jo (r + 1) j a1 = g_X0_findTorn_in sP sF i1 jo r (j + 1) (a1 + 1) := by
          rw [g_X0_findTorn_in, if_neg c_2, if_neg c_3]
        rw [eg] at hQ
        rw [eg] at hR
        exact ih (j + 1) (a1 + 1) _ _ _ (by omega) hP hD hS (lv_sub hl [2, 3, 1, 4, 0] rfl) hQ hR
      ·
        refine lv_bipush (v := 10) hx hb dX0_findTorn_48 (by decide) ?_
        refine lv_iload_n hx hb dX0_findTorn_50 rfl (lv_at hl 3 rfl) ?_
        refine lv_imul hx hb dX0_findTorn_51 ?_
        refine lv_iload hx hb dX0_findTorn_52 (lv_at hl 4 rfl) ?_
        refine lv_iadd hx hb dX0_findTorn_54 ?_
        have eg : g_X0_findTorn_in sP sF i1 jo (r + 1) j a1 = (some ((10 * (nI jo)) + (nI j)), a1) := by
          rw [g_X0_findTorn_in, if_neg c_2, if_pos c_3]
        exact hR ((10 * (nI jo)) + (nI j)) _ _ _ (by rw [eg]) hP hD hS
    ·
      refine lv_goto (tgt := 59) hx hb dX0_findTorn_40 (by decide) ?_
      refine lv_iinc (v := nI (j + 1)) (lv' := [(4, .int (nI (j + 1))), (0, .ref (af 0)), (1, .int i1), (2, .int a1), (3, .int (nI jo))]) hx hb dX0_findTorn_59 hl (k := 4) rfl (nI_1 j) (by decide) rfl (fun ls hl => ?_)
      refine lv_goto (tgt := 18) hx hb dX0_findTorn_62 (by decide) ?_
      have eg : g_X0_findTorn_in sP sF i1 jo (r + 1) j a1 = g_X0_findTorn_in sP sF i1 jo r (j + 1) a1 := by
        rw [g_X0_findTorn_in, if_pos c_2]
      rw [eg] at hQ
      rw [eg] at hR
      exact ih (j + 1) a1 _ _ _ (by omega) hP hD hS (lv_sub hl [1, 2, 3, 4, 0] rfl) hQ hR
def g_X0_findTorn_out (sP : Nat → Nat → Int32) (sF : Nat → Nat → Int32) (i1 : Int32) : Nat → Nat → Int32 → Option Int32 × Int32
  | 0, j, a1 => (none, a1)
  | r + 1, j, a1 => match (g_X0_findTorn_in sP sF i1 j ((sP 0 1).toNatClampNeg) 0 a1).1 with
    | none => g_X0_findTorn_out sP sF i1 r (j + 1) ((g_X0_findTorn_in sP sF i1 j ((sP 0 1).toNatClampNeg) 0 a1).2)
    | some v => (some v, a1)
set_option maxHeartbeats 4000000 in
set_option maxRecDepth 100000 in
theorem lp_X0_findTorn_out {p : Program} {l : Launch} {e : Env} {s : State} {m : MethodId} {below : List Frame} {meth : Method} {c : Code} {A : Nat → Prop} {Q : State → Prop} {av : Array Value} (k : K_X) (ap : Nat → Nat) (af : Nat → Nat) (l0 : Nat) (sP : Nat → Nat → Int32) (sF : Nat → Nat → Int32) (i1 : Int32) (C0 : k_Cx p s m meth c k cX0_findTorn (some .int) wsX0_findTorn RX0 5 av A) (hNs : k_n (sP 0 0) 10) (hNm : k_n (sP 0 1) 10) (hO : ∀ j, j < 10 → k_o (sF 4 j) 10) : ∀ (r j : Nat) (a1 : Int32) (H : Heap) (locs : List Loc) (ls : Array Slot), j + r = (sP 0 0).toNatClampNeg → va_P k.1 vwCl ((w_P k ap sP) ++ (w_F k af (ap 0) (l0) sF)) H → va_D A ((w_P k ap sP) ++ (w_F k af (ap 0) (l0) sF)) → va_S A s.heap H locs → lv_has ls 5 [(0, .ref (af 0)), (1, .int i1), (2, .int a1), (3, .int (nI j))] → (∀ (H : Heap) (locs : List Loc) (ls : Array Slot), (g_X0_findTorn_out sP sF i1 r j a1).1 = none → va_P k.1 vwCl ((w_P k ap sP) ++ (w_F k af (ap 0) (l0) sF)) H → va_D A ((w_P k ap sP) ++ (w_F k af (ap 0) (l0) sF)) → va_S A s.heap H locs → lv_has ls 5 [(0, .ref (af 0)), (1, .int i1), (2, .int ((g_X0_findTorn_out sP sF i1 r j a1).2))] → W p l e (k_rm 4 94) s m av below meth c H locs 0 0 Q (F0 m 71 ls [])) → (∀ (v : Int32) (H : Heap) (locs : List Loc) (ls : Array Slot), (g_X0_findTorn_out sP sF i1 r j a1).1 = some v → va_P k.1 vwCl ((w_P k ap sP) ++ (w_F k af (ap 0) (l0) sF)) H → va_D A ((w_P k ap sP) ++ (w_F k af (ap 0) (l0) sF)) → va_S A s.heap H locs → W p l e (k_rm 4 94) s m av below meth c H locs 0 0 Q (F0 m 55 ls [.int v])) → W p l e (k_rm 4 94) s m av below meth c H locs 0 0 Q (F0 m 4 ls []) := by
  obtain ⟨hx, hb, hr, hts, hown, hlocks, hml, hA, hK⟩ := id C0
  have hq := hNs.2; have hq2 := hNm.2
  intro r
  induction r with
  | zero =>
    intro j a1 H locs ls hj hP hD hS hl hQ hR
    refine lv_iload_n hx hb dX0_findTorn_4 rfl (lv_at hl 3 rfl) ?_
    refine lv_aload_n hx hb dX0_findTorn_5 rfl (lv_at hl 0 rfl) ?_
    refine va_get (D := k.1) (ci := 0) (v := .ref (ap 0)) (C := RX0) (T := TX0) (N := 8) hx hb hts in_X0_findTorn_X0 hown hK hP 18 rfl rfl 0 (by decide) (k_w hts 1 rfl) (fun _ h9 => h9) rfl dX0_findTorn_6 ?_
    refine va_get (D := k.1) (ci := 2) (v := .int (sP 0 0)) (C := RX2) (T := TX2) (N := 9) hx hb hts in_X0_findTorn_X2 hown hK hP 0 rfl rfl 0 (by decide) (k_w hts 2 rfl) (fun _ h9 => h9) rfl dX0_findTorn_9 ?_
    refine lv_icmp_ge (tgt := 71) hx hb dX0_findTorn_12 (by decide) (fun c_1 => ?_) (fun c_1 => ?_)
    rotate_left
    · exact absurd (hNs.ge (by omega)) c_1
    have eg : g_X0_findTorn_out sP sF i1 0 j a1 = (none, a1) := by
      rw [g_X0_findTorn_out]
    rw [eg] at hQ
    exact hQ _ _ _ rfl hP hD hS (lv_sub hl [0, 1, 2] rfl)
  | succ r ih =>
    intro j a1 H locs ls hj hP hD hS hl hQ hR
    refine lv_iload_n hx hb dX0_findTorn_4 rfl (lv_at hl 3 rfl) ?_
    refine lv_aload_n hx hb dX0_findTorn_5 rfl (lv_at hl 0 rfl) ?_
    refine va_get (D := k.1) (ci := 0) (v := .ref (ap 0)) (C := RX0) (T := TX0) (N := 8) hx hb hts in_X0_findTorn_X0 hown hK hP 18 rfl rfl 0 (by decide) (k_w hts 1 rfl) (fun _ h9 => h9) rfl dX0_findTorn_6 ?_
    refine va_get (D := k.1) (ci := 2) (v := .int (sP 0 0)) (C := RX2) (T := TX2) (N := 9) hx hb hts in_X0_findTorn_X2 hown hK hP 0 rfl rfl 0 (by decide) (k_w hts 2 rfl) (fun _ h9 => h9) rfl dX0_findTorn_9 ?_
    refine lv_icmp_ge (tgt := 71) hx hb dX0_findTorn_12 (by decide) (fun c_1 => ?_) (fun c_1 => ?_)
    · exact absurd c_1 (hNs.nge (by omega))
    refine lv_iconst (v := 0) hx hb dX0_findTorn_15 (by decide) ?_
    refine lv_istore (lv' := [(4, .int 0), (0, .ref (af 0)), (1, .int i1), (2, .int a1), (3, .int (nI j))]) hx hb dX0_findTorn_16 hl (by decide) rfl (fun ls hl => ?_)
    have hl : lv_has ls 5 [(0, .ref (af 0)), (1, .int i1), (2, .int a1), (3, .int (nI j)), (4, .int (nI 0))] := lv_sub hl [1, 2, 3, 4, 0] rfl
    refine lp_X0_findTorn_in k ap af l0 sP sF i1 j C0 (by first | assumption | omega) (by first | assumption | omega) (by first | assumption | omega) ((sP 0 1).toNatClampNeg) 0 a1 _ _ _ (by omega) hP hD hS hl (fun H locs ls hE hP hD hS hl => ?_) (fun v H locs ls hE hP hD hS => ?_)
    ·
      refine lv_iinc (v := nI (j + 1)) (lv' := [(3, .int (nI (j + 1))), (0, .ref (af 0)), (1, .int i1), (2, .int ((g_X0_findTorn_in sP sF i1 j ((sP 0 1).toNatClampNeg) 0 a1).2))]) hx hb dX0_findTorn_65 hl (k := 3) rfl (nI_1 j) (by decide) rfl (fun ls hl => ?_)
      refine lv_goto (tgt := 4) hx hb dX0_findTorn_68 (by decide) ?_
      have eg : g_X0_findTorn_out sP sF i1 (r + 1) j a1 = g_X0_findTorn_out sP sF i1 r (j + 1) ((g_X0_findTorn_in sP sF i1 j ((sP 0 1).toNatClampNeg) 0 a1).2) := by
        simp only [g_X0_findTorn_out, hE]
      rw [eg] at hQ
      rw [eg] at hR
      exact ih (j + 1) ((g_X0_findTorn_in sP sF i1 j ((sP 0 1).toNatClampNeg) 0 a1).2) _ _ _ (by omega) hP hD hS (lv_sub hl [1, 2, 3, 0] rfl) hQ hR
    ·
      have eg : g_X0_findTorn_out sP sF i1 (r + 1) j a1 = (some v, a1) := by
        simp only [g_X0_findTorn_out, hE]
      exact hR v _ _ _ (by rw [eg]) hP hD hS
def f_X0_findTorn (sP : Nat → Nat → Int32) (sF : Nat → Nat → Int32) (i1 : Int32) : Int32 :=
  match (g_X0_findTorn_out sP sF i1 ((sP 0 0).toNatClampNeg) 0 0).1 with
  | none => -9
  | some v => v
set_option maxHeartbeats 4000000 in
set_option maxRecDepth 100000 in
theorem c_X0_findTorn (l : Launch) (k : K_X) (ap : Nat → Nat) (af : Nat → Nat) (l0 : Nat) (sP : Nat → Nat → Int32) (sF : Nat → Nat → Int32) (i1 : Int32) (hNs : k_n (sP 0 0) 10) (hNm : k_n (sP 0 1) 10) (hO : ∀ j, j < 10 → k_o (sF 4 j) 10) : k_C l yX0_findTorn wsX0_findTorn (k_rm 4 94) k [.ref (af 0), .int i1] ((w_P k ap sP) ++ (w_F k af (ap 0) (l0) sF)) (k_qI k (f_X0_findTorn sP sF i1) ((w_P k ap sP) ++ (w_F k af (ap 0) (l0) sF))) := by
  refine k_mk (cc := cX0_findTorn) (maxL := 5) (ret := (some .int)) (by decide) rfl (Nat.le_of_ble_eq_true rfl) ?_
  intro p e s m below meth c A ls C0 hP hD hS hl
  obtain ⟨hx, hb, hr, hts, hown, hlocks, hml, hA, hK⟩ := id C0
  have hown : s.vm.findClass RX0 = some m.cls := hown
  have hl : lv_has ls 5 [(0, .ref (af 0)), (1, .int i1)] := hl
  refine lv_iconst (v := 0) hx hb dX0_findTorn_0 (by decide) ?_
  refine lv_istore_n (lv' := [(2, .int 0), (0, .ref (af 0)), (1, .int i1)]) hx hb dX0_findTorn_1 rfl hl (by decide) rfl (fun ls hl => ?_)
  refine lv_iconst (v := 0) hx hb dX0_findTorn_2 (by decide) ?_
  refine lv_istore_n (lv' := [(3, .int 0), (2, .int 0), (0, .ref (af 0)), (1, .int i1)]) hx hb dX0_findTorn_3 rfl hl (by decide) rfl (fun ls hl => ?_)
  have hl : lv_has ls 5 [(0, .ref (af 0)), (1, .int i1), (2, .int 0), (3, .int (nI 0))] := lv_sub hl [2, 3, 1, 0] rfl
  refine lp_X0_findTorn_out k ap af l0 sP sF i1 C0 (by first | assumption | omega) (by first | assumption | omega) (by first | assumption | omega) ((sP 0 0).toNatClampNeg) 0 0 _ _ _ (by omega) hP hD hS hl (fun H locs ls hE hP hD hS hl => ?_) (fun v H locs ls hE hP hD hS => ?_)
  ·
    refine lv_bipush (v := (-9)) hx hb dX0_findTorn_71 (by decide) ?_
    have ef : f_X0_findTorn sP sF i1 = -9 := by
      simp only [f_X0_findTorn, hE]
    exact k_reti hx hb hr hK hP hD hS hlocks dX0_findTorn_73 (by rw [ef])
  ·
    have ef : f_X0_findTorn sP sF i1 = v := by
      simp only [f_X0_findTorn, hE]
    exact k_reti hx hb hr hK hP hD hS hlocks dX0_findTorn_55 (by rw [ef])
theorem in_X0_startAnew_X0 : ∀ w ∈ wsX00, w ∈ wsX0_startAnew := fun _ h => List.mem_cons_of_mem _ (List.mem_append_left _ (List.mem_append_right _ h))
theorem in_X0_startAnew_X1 : ∀ w ∈ wsX10, w ∈ wsX0_startAnew := fun _ h => List.mem_cons_of_mem _ (List.mem_append_right _ h)
def f_X0_startAnew (sF : Nat → Nat → Int32) (sL : Nat → Nat → Int32) : (Nat → Nat → Int32) × (Nat → Nat → Int32) :=
  (k_st (k_st (k_st (k_st (k_st (k_st sF 0 (k_st (sF 0) 0 0)) 1 ((f_J7_fill_53178 10 (sF 1) (-9)))) 2 ((f_J7_fill_53178 10 (sF 2) (-9)))) 3 ((f_J7_fill_53178 10 (sF 3) (-9)))) 4 ((f_J7_fill_53178 10 (sF 4) (-9)))) 5 ((f_J7_fill_53178 10 (sF 5) 0)), k_st sL 0 (k_st (sL 0) 0 0))
set_option maxHeartbeats 4000000 in
set_option maxRecDepth 100000 in
theorem c_X0_startAnew (l : Launch) (k : K_X) (af : Nat → Nat) (al : Nat → Nat) (p0 : Nat) (n : Nat) (sF : Nat → Nat → Int32) (sL : Nat → Nat → Int32) : k_C l yX0_startAnew wsX0_startAnew (k_rm 1 23) k [.ref (af 0)] ((w_F k af (p0) (al 0) sF) ++ (w_L k al n sL)) (k_qV k ((w_F k af (p0) (al 0) ((f_X0_startAnew sF sL).1)) ++ (w_L k al n ((f_X0_startAnew sF sL).2)))) := by
  refine k_mk (cc := cX0_startAnew) (maxL := 1) (ret := none) (by decide) rfl (Nat.le_of_ble_eq_true rfl) ?_
  intro p e s m below meth c A ls C0 hP hD hS hl
  obtain ⟨hx, hb, hr, hts, hown, hlocks, hml, hA, hK⟩ := id C0
  have hown : s.vm.findClass RX0 = some m.cls := hown
  have hl : lv_has ls 1 [(0, .ref (af 0))] := hl
  refine lv_aload_n hx hb dX0_startAnew_0 rfl (lv_at hl 0 rfl) ?_
  refine lv_iconst (v := 0) hx hb dX0_startAnew_1 (by decide) ?_
  refine va_put (D := k.1) (ci := 0) (v := .int 0) (ty := .int) (C := RX0) (T := TX0) (N := 8) hx hb hts in_X0_startAnew_X0 tyX0 tyX0_ok nmX0 hown hK hP hD hS 0 rfl rfl 2 (by decide) (k_w hts 1 rfl) (fun _ h9 => h9) rfl (by decide +kernel) rfl rfl (Nat.le_of_ble_eq_true rfl) dX0_startAnew_2 (fun H locs hP hD hS => ?_)
  have hP := k_cP (k_sl (Nat.le_of_ble_eq_true rfl) (w_F_s0 k af (p0) (al 0) sF 0)) hP
  have hD := k_cD (k_sl (Nat.le_of_ble_eq_true rfl) (w_F_s0 k af (p0) (al 0) sF 0)) hD
  refine lv_aload_n hx hb dX0_startAnew_5 rfl (lv_at hl 0 rfl) ?_
  refine va_get (D := k.1) (ci := 0) (v := .ref (al 0)) (C := RX0) (T := TX0) (N := 8) hx hb hts in_X0_startAnew_X0 hown hK hP 0 rfl rfl 1 (by decide) (k_w hts 2 rfl) (fun _ h9 => h9) rfl dX0_startAnew_6 ?_
  refine lv_iconst (v := 0) hx hb dX0_startAnew_9 (by decide) ?_
  refine va_put (D := k.1) (ci := 1) (v := .int 0) (ty := .int) (C := RX1) (T := TX1) (N := 3) hx hb hts in_X0_startAnew_X1 tyX1 tyX1_ok nmX1 hown hK hP hD hS 6 rfl rfl 2 (by decide) (k_w hts 3 rfl) (fun _ h9 => h9) rfl (by decide +kernel) rfl rfl (Nat.le_of_ble_eq_true rfl) dX0_startAnew_10 (fun H locs hP hD hS => ?_)
  have hP := k_cP (k_sr (w_L_s0 k al n sL 0)) hP
  have hD := k_cD (k_sr (w_L_s0 k al n sL 0)) hD
  refine lv_aload_n hx hb dX0_startAnew_13 rfl (lv_at hl 0 rfl) ?_
  refine va_get (D := k.1) (ci := 0) (v := .ref (af 1)) (C := RX0) (T := TX0) (N := 8) hx hb hts in_X0_startAnew_X0 hown hK hP 0 rfl rfl 3 (by decide) (k_w hts 4 rfl) (fun _ h9 => h9) rfl dX0_startAnew_14 ?_
  refine lv_bipush (v := (-9)) hx hb dX0_startAnew_17 (by decide) ?_
  refine k_Sv (wr := ([0, 2, 3, 4, 5, 6, 7]).filterMap (fun i => ((w_F k af (p0) (al 0) (k_st sF 0 (k_st (sF 0) 0 0))) ++ (w_L k al n (k_st sL 0 (k_st (sL 0) 0 0))))[i]?)) (ws' := (w_F k af (p0) (al 0) (k_st (k_st sF 0 (k_st (sF 0) 0 0)) 1 (f_J7_fill_53178 10 (sF 1) (-9)))) ++ (w_L k al n (k_st sL 0 (k_st (sL 0) 0 0)))) (rest := []) ⟨hx, hb, hml, hown, hts⟩ hK hA hP hD hS (c_J7_fill_53178 l k (fun _ => af 1) 10 (sF 1) (-9) (by decide)) (va_cwS 2 hts gX0_startAnew_J7_fill_53178 rfl rfl rfl (by decide +kernel) ⟨Nat.le_of_ble_eq_true rfl, Nat.le_of_ble_eq_true rfl⟩) rfl hl.1 rfl (Nat.le_of_ble_eq_true rfl) dX0_startAnew_19 (Nat.zero_le _) (Nat.zero_le _) [1] [0, 2, 3, 4, 5, 6, 7] [0, 7, 1, 2, 3, 4, 5, 6] rfl rfl rfl (by decide) rfl rfl rfl (fun H locs hP hD hS => ?_)
  obtain ⟨z_1, ez_1⟩ : ∃ z, z = f_J7_fill_53178 10 (sF 1) (-9) := ⟨_, rfl⟩
  rw [← ez_1] at hP hD
  refine lv_aload_n hx hb dX0_startAnew_22 rfl (lv_at hl 0 rfl) ?_
  refine va_get (D := k.1) (ci := 0) (v := .ref (af 2)) (C := RX0) (T := TX0) (N := 8) hx hb hts in_X0_startAnew_X0 hown hK hP 0 rfl rfl 4 (by decide) (k_w hts 5 rfl) (fun _ h9 => h9) rfl dX0_startAnew_23 ?_
  refine lv_bipush (v := (-9)) hx hb dX0_startAnew_26 (by decide) ?_
  refine k_Sv (wr := ([0, 1, 3, 4, 5, 6, 7]).filterMap (fun i => ((w_F k af (p0) (al 0) (k_st (k_st sF 0 (k_st (sF 0) 0 0)) 1 (z_1))) ++ (w_L k al n (k_st sL 0 (k_st (sL 0) 0 0))))[i]?)) (ws' := (w_F k af (p0) (al 0) (k_st (k_st (k_st sF 0 (k_st (sF 0) 0 0)) 1 (z_1)) 2 (f_J7_fill_53178 10 (sF 2) (-9)))) ++ (w_L k al n (k_st sL 0 (k_st (sL 0) 0 0)))) (rest := []) ⟨hx, hb, hml, hown, hts⟩ hK hA hP hD hS (c_J7_fill_53178 l k (fun _ => af 2) 10 (sF 2) (-9) (by decide)) (va_cwS 2 hts gX0_startAnew_J7_fill_53178 rfl rfl rfl (by decide +kernel) ⟨Nat.le_of_ble_eq_true rfl, Nat.le_of_ble_eq_true rfl⟩) rfl hl.1 rfl (Nat.le_of_ble_eq_true rfl) dX0_startAnew_28 (Nat.zero_le _) (Nat.zero_le _) [2] [0, 1, 3, 4, 5, 6, 7] [0, 1, 7, 2, 3, 4, 5, 6] rfl rfl rfl (by decide) rfl rfl rfl (fun H locs hP hD hS => ?_)
  obtain ⟨z_2, ez_2⟩ : ∃ z, z = f_J7_fill_53178 10 (sF 2) (-9) := ⟨_, rfl⟩
  rw [← ez_2] at hP hD
  refine lv_aload_n hx hb dX0_startAnew_31 rfl (lv_at hl 0 rfl) ?_
  refine va_get (D := k.1) (ci := 0) (v := .ref (af 3)) (C := RX0) (T := TX0) (N := 8) hx hb hts in_X0_startAnew_X0 hown hK hP 0 rfl rfl 5 (by decide) (k_w hts 6 rfl) (fun _ h9 => h9) rfl dX0_startAnew_32 ?_
  refine lv_bipush (v := (-9)) hx hb dX0_startAnew_35 (by decide) ?_
  refine k_Sv (wr := ([0, 1, 2, 4, 5, 6, 7]).filterMap (fun i => ((w_F k af (p0) (al 0) (k_st (k_st (k_st sF 0 (k_st (sF 0) 0 0)) 1 (z_1)) 2 (z_2))) ++ (w_L k al n (k_st sL 0 (k_st (sL 0) 0 0))))[i]?)) (ws' := (w_F k af (p0) (al 0) (k_st (k_st (k_st (k_st sF 0 (k_st (sF 0) 0 0)) 1 (z_1)) 2 (z_2)) 3 (f_J7_fill_53178 10 (sF 3) (-9)))) ++ (w_L k al n (k_st sL 0 (k_st (sL 0) 0 0)))) (rest := []) ⟨hx, hb, hml, hown, hts⟩ hK hA hP hD hS (c_J7_fill_53178 l k (fun _ => af 3) 10 (sF 3) (-9) (by decide)) (va_cwS 2 hts gX0_startAnew_J7_fill_53178 rfl rfl rfl (by decide +kernel) ⟨Nat.le_of_ble_eq_true rfl, Nat.le_of_ble_eq_true rfl⟩) rfl hl.1 rfl (Nat.le_of_ble_eq_true rfl) dX0_startAnew_37 (Nat.zero_le _) (Nat.zero_le _) [3] [0, 1, 2, 4, 5, 6, 7] [0, 1, 2, 7, 3, 4, 5, 6] rfl rfl rfl (by decide) rfl rfl rfl (fun H locs hP hD hS => ?_)
  obtain ⟨z_3, ez_3⟩ : ∃ z, z = f_J7_fill_53178 10 (sF 3) (-9) := ⟨_, rfl⟩
  rw [← ez_3] at hP hD
  refine lv_aload_n hx hb dX0_startAnew_40 rfl (lv_at hl 0 rfl) ?_
  refine va_get (D := k.1) (ci := 0) (v := .ref (af 4)) (C := RX0) (T := TX0) (N := 8) hx hb hts in_X0_startAnew_X0 hown hK hP 0 rfl rfl 6 (by decide) (k_w hts 7 rfl) (fun _ h9 => h9) rfl dX0_startAnew_41 ?_
  refine lv_bipush (v := (-9)) hx hb dX0_startAnew_44 (by decide) ?_
  refine k_Sv (wr := ([0, 1, 2, 3, 5, 6, 7]).filterMap (fun i => ((w_F k af (p0) (al 0) (k_st (k_st (k_st (k_st sF 0 (k_st (sF 0) 0 0)) 1 (z_1)) 2 (z_2)) 3 (z_3))) ++ (w_L k al n (k_st sL 0 (k_st (sL 0) 0 0))))[i]?)) (ws' := (w_F k af (p0) (al 0) (k_st (k_st (k_st (k_st (k_st sF 0 (k_st (sF 0) 0 0)) 1 (z_1)) 2 (z_2)) 3 (z_3)) 4 (f_J7_fill_53178 10 (sF 4) (-9)))) ++ (w_L k al n (k_st sL 0 (k_st (sL 0) 0 0)))) (rest := []) ⟨hx, hb, hml, hown, hts⟩ hK hA hP hD hS (c_J7_fill_53178 l k (fun _ => af 4) 10 (sF 4) (-9) (by decide)) (va_cwS 2 hts gX0_startAnew_J7_fill_53178 rfl rfl rfl (by decide +kernel) ⟨Nat.le_of_ble_eq_true rfl, Nat.le_of_ble_eq_true rfl⟩) rfl hl.1 rfl (Nat.le_of_ble_eq_true rfl) dX0_startAnew_46 (Nat.zero_le _) (Nat.zero_le _) [4] [0, 1, 2, 3, 5, 6, 7] [0, 1, 2, 3, 7, 4, 5, 6] rfl rfl rfl (by decide) rfl rfl rfl (fun H locs hP hD hS => ?_)
  obtain ⟨z_4, ez_4⟩ : ∃ z, z = f_J7_fill_53178 10 (sF 4) (-9) := ⟨_, rfl⟩
  rw [← ez_4] at hP hD
  refine lv_aload_n hx hb dX0_startAnew_49 rfl (lv_at hl 0 rfl) ?_
  refine va_get (D := k.1) (ci := 0) (v := .ref (af 5)) (C := RX0) (T := TX0) (N := 8) hx hb hts in_X0_startAnew_X0 hown hK hP 0 rfl rfl 7 (by decide) (k_w hts 8 rfl) (fun _ h9 => h9) rfl dX0_startAnew_50 ?_
  refine lv_iconst (v := 0) hx hb dX0_startAnew_53 (by decide) ?_
  refine k_Sv (wr := ([0, 1, 2, 3, 4, 6, 7]).filterMap (fun i => ((w_F k af (p0) (al 0) (k_st (k_st (k_st (k_st (k_st sF 0 (k_st (sF 0) 0 0)) 1 (z_1)) 2 (z_2)) 3 (z_3)) 4 (z_4))) ++ (w_L k al n (k_st sL 0 (k_st (sL 0) 0 0))))[i]?)) (ws' := (w_F k af (p0) (al 0) (k_st (k_st (k_st (k_st (k_st (k_st sF 0 (k_st (sF 0) 0 0)) 1 (z_1)) 2 (z_2)) 3 (z_3)) 4 (z_4)) 5 (f_J7_fill_53178 10 (sF 5) 0))) ++ (w_L k al n (k_st sL 0 (k_st (sL 0) 0 0)))) (rest := []) ⟨hx, hb, hml, hown, hts⟩ hK hA hP hD hS (c_J7_fill_53178 l k (fun _ => af 5) 10 (sF 5) 0 (by decide)) (va_cwS 2 hts gX0_startAnew_J7_fill_53178 rfl rfl rfl (by decide +kernel) ⟨Nat.le_of_ble_eq_true rfl, Nat.le_of_ble_eq_true rfl⟩) rfl hl.1 rfl (Nat.le_of_ble_eq_true rfl) dX0_startAnew_54 (Nat.zero_le _) (Nat.zero_le _) [5] [0, 1, 2, 3, 4, 6, 7] [0, 1, 2, 3, 4, 7, 5, 6] rfl rfl rfl (by decide) rfl rfl rfl (fun H locs hP hD hS => ?_)
  obtain ⟨z_5, ez_5⟩ : ∃ z, z = f_J7_fill_53178 10 (sF 5) 0 := ⟨_, rfl⟩
  rw [← ez_5] at hP hD
  have ef : f_X0_startAnew sF sL = (k_st (k_st (k_st (k_st (k_st (k_st sF 0 (k_st (sF 0) 0 0)) 1 (z_1)) 2 (z_2)) 3 (z_3)) 4 (z_4)) 5 (z_5), k_st sL 0 (k_st (sL 0) 0 0)) := by
    rw [f_X0_startAnew, ← ez_1, ← ez_2, ← ez_3, ← ez_4, ← ez_5]
  exact k_retv hx hb hr hK (by rw [ef]; exact hP) (by rw [ef]; exact hD) hS hlocks dX0_startAnew_57
theorem in_X0_askBest_X0 : ∀ w ∈ wsX00, w ∈ wsX0_askBest := fun _ h => List.mem_cons_of_mem _ (List.mem_append_left _ (List.mem_append_left _ (List.mem_append_right _ h)))
theorem in_X0_askBest_X2 : ∀ w ∈ wsX20, w ∈ wsX0_askBest := fun _ h => List.mem_cons_of_mem _ (List.mem_append_left _ (List.mem_append_right _ h))
theorem in_X0_askBest_X1 : ∀ w ∈ wsX10, w ∈ wsX0_askBest := fun _ h => List.mem_cons_of_mem _ (List.mem_append_right _ h)
def f_X0_askBest (n : Nat) (sP : Nat → Nat → Int32) (sF : Nat → Nat → Int32) (sL : Nat → Nat → Int32) (i1 : Int32) (i2 : Int32) : Int32 × (Nat → Nat → Int32) × (Nat → Nat → Int32) :=
  if (f_X0_choiceOf sP sF i2) = (-9) then (0, sF, sL)
  else if (f_X0_takes (k_st sF 5 (upd (sF 5) i2.toNatClampNeg (((sF 5) i2.toNatClampNeg) ||| ((1 : Int32) <<< ((f_X0_choiceOf sP sF i2) &&& 31))))) i1 (f_X0_choiceOf sP sF i2) (f_X2_offerTo sP i2 (f_X0_choiceOf sP sF i2))) = 0 then (1, k_st sF 5 (upd (sF 5) i2.toNatClampNeg (((sF 5) i2.toNatClampNeg) ||| ((1 : Int32) <<< ((f_X0_choiceOf sP sF i2) &&& 31)))), ((f_X1_write n sL i1 i2 (f_X0_choiceOf sP sF i2) (f_X2_offerTo sP i2 (f_X0_choiceOf sP sF i2)) 0 (-9))))
  else if ((sF 1) (f_X0_choiceOf sP sF i2).toNatClampNeg) = (-9) then (1, ((f_X0_bind (k_st sF 5 (upd (sF 5) i2.toNatClampNeg (((sF 5) i2.toNatClampNeg) ||| ((1 : Int32) <<< ((f_X0_choiceOf sP sF i2) &&& 31))))) i1 i2 (f_X0_choiceOf sP sF i2) (f_X2_offerTo sP i2 (f_X0_choiceOf sP sF i2)))), ((f_X1_write n sL i1 i2 (f_X0_choiceOf sP sF i2) (f_X2_offerTo sP i2 (f_X0_choiceOf sP sF i2)) 1 ((sF 1) (f_X0_choiceOf sP sF i2).toNatClampNeg))))
  else (1, ((f_X0_bind (k_st sF 5 (upd (sF 5) i2.toNatClampNeg (((sF 5) i2.toNatClampNeg) ||| ((1 : Int32) <<< ((f_X0_choiceOf sP sF i2) &&& 31))))) i1 i2 (f_X0_choiceOf sP sF i2) (f_X2_offerTo sP i2 (f_X0_choiceOf sP sF i2)))), ((f_X1_write n sL i1 i2 (f_X0_choiceOf sP sF i2) (f_X2_offerTo sP i2 (f_X0_choiceOf sP sF i2)) 2 ((sF 1) (f_X0_choiceOf sP sF i2).toNatClampNeg))))
set_option maxHeartbeats 4000000 in
set_option maxRecDepth 100000 in
theorem c_X0_askBest (l : Launch) (k : K_X) (ap : Nat → Nat) (af : Nat → Nat) (al : Nat → Nat) (n : Nat) (sP : Nat → Nat → Int32) (sF : Nat → Nat → Int32) (sL : Nat → Nat → Int32) (i1 : Int32) (i2 : Int32) (h2 : vp_in i2 10) (hNs : k_n (sP 0 0) 10) (hn : n ≤ 100) (hI : k_I n sF sL) : k_C l yX0_askBest wsX0_askBest (k_rm 3 72) k [.ref (af 0), .int i1, .int i2] ((w_P k ap sP) ++ (w_F k af (ap 0) (al 0) sF) ++ (w_L k al n sL)) (k_qI k ((f_X0_askBest n sP sF sL i1 i2).1) ((w_P k ap sP) ++ (w_F k af (ap 0) (al 0) ((f_X0_askBest n sP sF sL i1 i2).2.1)) ++ (w_L k al n ((f_X0_askBest n sP sF sL i1 i2).2.2)))) := by
  refine k_mk (cc := cX0_askBest) (maxL := 7) (ret := (some .boolean)) (by decide) rfl (Nat.le_of_ble_eq_true rfl) ?_
  intro p e s m below meth c A ls C0 hP hD hS hl
  obtain ⟨hx, hb, hr, hts, hown, hlocks, hml, hA, hK⟩ := id C0
  have hown : s.vm.findClass RX0 = some m.cls := hown
  have hl : lv_has ls 7 [(0, .ref (af 0)), (1, .int i1), (2, .int i2)] := hl
  refine lv_aload_n hx hb dX0_askBest_0 rfl (lv_at hl 0 rfl) ?_
  refine lv_iload_n hx hb dX0_askBest_1 rfl (lv_at hl 2 rfl) ?_
  refine k_Vi (wr := w_L k al n sL) (ws' := (w_P k ap sP) ++ (w_F k af (ap 0) (al 0) sF) ++ (w_L k al n sL)) (Rv := (f_X0_choiceOf sP sF i2)) (rest := []) ⟨hx, hb, hml, hown, hts⟩ hK hA hP hD hS (c_X0_choiceOf l k ap af (al 0) sP sF i2 (h2) (hNs)) (cwV 1 hts gX0_askBest_X0_choiceOf rfl rfl rfl (by decide +kernel) ⟨Nat.le_of_ble_eq_true rfl, Nat.le_of_ble_eq_true rfl⟩) (va_recv hK hP (ci := 0) (q0 := 18) rfl rfl) rfl hl.1 rfl (Nat.le_of_ble_eq_true rfl) dX0_askBest_2 (Nat.zero_le _) (Nat.zero_le _) [0, 1, 2, 3, 4, 5, 6, 7, 8, 9, 10, 11, 12, 13, 14, 15, 16, 17, 18, 19, 20, 21, 22, 23] [24, 25] [2, 3, 4, 5, 6, 7, 8, 9, 10, 11, 12, 13, 14, 15, 16, 17, 18, 19, 20, 21, 22, 23, 24, 25, 0, 1] rfl rfl rfl (by decide) rfl rfl rfl (fun H locs hP hD hS => ?_)
  refine lv_istore_n (lv' := [(3, .int (f_X0_choiceOf sP sF i2)), (0, .ref (af 0)), (1, .int i1), (2, .int i2)]) hx hb dX0_askBest_5 rfl hl (by decide) rfl (fun ls hl => ?_)
  refine lv_iload_n hx hb dX0_askBest_6 rfl (lv_at hl 0 rfl) ?_
  refine lv_bipush (v := (-9)) hx hb dX0_askBest_7 (by decide) ?_
  refine lv_icmp_ne (tgt := 14) hx hb dX0_askBest_9 (by decide) (fun c_1 => ?_) (fun c_1 => ?_)
  ·
    refine lv_aload_n hx hb dX0_askBest_14 rfl (lv_at hl 1 rfl) ?_
    refine va_get (D := k.1) (ci := 0) (v := .ref (ap 0)) (C := RX0) (T := TX0) (N := 8) hx hb hts in_X0_askBest_X0 hown hK hP 18 rfl rfl 0 (by decide) (k_w hts 1 rfl) (fun _ h9 => h9) rfl dX0_askBest_15 ?_
    refine lv_iload_n hx hb dX0_askBest_18 rfl (lv_at hl 3 rfl) ?_
    refine lv_iload_n hx hb dX0_askBest_19 rfl (lv_at hl 0 rfl) ?_
    refine k_Vi (wr := (w_F k af (ap 0) (al 0) sF) ++ (w_L k al n sL)) (ws' := (w_P k ap sP) ++ (w_F k af (ap 0) (al 0) sF) ++ (w_L k al n sL)) (Rv := (f_X2_offerTo sP i2 (f_X0_choiceOf sP sF i2))) (rest := []) ⟨hx, hb, hml, hown, hts⟩ hK hA hP hD hS (c_X2_offerTo l k ap sP i2 (f_X0_choiceOf sP sF i2) (h2) (by first | assumption | exact (k_choice hNs).in (by assumption))) (cwV 2 hts gX0_askBest_X2_offerTo rfl rfl rfl (by decide +kernel) ⟨Nat.le_of_ble_eq_true rfl, Nat.le_of_ble_eq_true rfl⟩) (va_recv hK hP (ci := 2) (q0 := 0) rfl rfl) rfl hl.1 rfl (Nat.le_of_ble_eq_true rfl) dX0_askBest_20 (Nat.zero_le _) (Nat.zero_le _) [0, 1, 2, 3, 4, 5, 6, 7, 8, 9, 10, 11, 12, 13, 14, 15, 16, 17] [18, 19, 20, 21, 22, 23, 24, 25] [8, 9, 10, 11, 12, 13, 14, 15, 16, 17, 18, 19, 20, 21, 22, 23, 24, 25, 0, 1, 2, 3, 4, 5, 6, 7] rfl rfl rfl (by decide) rfl rfl rfl (fun H locs hP hD hS => ?_)
    refine lv_istore (lv' := [(4, .int (f_X2_offerTo sP i2 (f_X0_choiceOf sP sF i2))), (3, .int (f_X0_choiceOf sP sF i2)), (0, .ref (af 0)), (1, .int i1), (2, .int i2)]) hx hb dX0_askBest_23 hl (by decide) rfl (fun ls hl => ?_)
    refine lv_aload_n hx hb dX0_askBest_25 rfl (lv_at hl 2 rfl) ?_
    refine va_get (D := k.1) (ci := 0) (v := .ref (af 1)) (C := RX0) (T := TX0) (N := 8) hx hb hts in_X0_askBest_X0 hown hK hP 18 rfl rfl 3 (by decide) (k_w hts 2 rfl) (fun _ h9 => h9) rfl dX0_askBest_26 ?_
    refine lv_iload_n hx hb dX0_askBest_29 rfl (lv_at hl 1 rfl) ?_
    refine va_iald (f := sF 1) hx hb hK hP 19 0 rfl rfl (by first | assumption | exact (k_choice hNs).in (by assumption)) dX0_askBest_30 ?_
    refine lv_istore (lv' := [(5, .int ((sF 1) (f_X0_choiceOf sP sF i2).toNatClampNeg)), (4, .int (f_X2_offerTo sP i2 (f_X0_choiceOf sP sF i2))), (3, .int (f_X0_choiceOf sP sF i2)), (0, .ref (af 0)), (1, .int i1), (2, .int i2)]) hx hb dX0_askBest_31 hl (by decide) rfl (fun ls hl => ?_)
    refine lv_aload_n hx hb dX0_askBest_33 rfl (lv_at hl 3 rfl) ?_
    refine va_get (D := k.1) (ci := 0) (v := .ref (af 5)) (C := RX0) (T := TX0) (N := 8) hx hb hts in_X0_askBest_X0 hown hK hP 18 rfl rfl 7 (by decide) (k_w hts 3 rfl) (fun _ h9 => h9) rfl dX0_askBest_34 ?_
    refine lv_iload_n hx hb dX0_askBest_37 rfl (lv_at hl 5 rfl) ?_
    refine lv_dup2_11 hx hb dX0_askBest_38 rfl rfl ?_
    refine va_iald (f := sF 5) hx hb hK hP 23 0 rfl rfl (by first | assumption | exact (k_choice hNs).in (by assumption)) dX0_askBest_39 ?_
    refine lv_iconst (v := 1) hx hb dX0_askBest_40 (by decide) ?_
    refine lv_iload_n hx hb dX0_askBest_41 rfl (lv_at hl 2 rfl) ?_
    refine lv_ishl hx hb dX0_askBest_42 ?_
    refine lv_ior hx hb dX0_askBest_43 ?_
    refine va_iast (f := sF 5) hx hb hK hP hD hS 23 0 rfl rfl (by first | assumption | exact (k_choice hNs).in (by assumption)) dX0_askBest_44 (fun H locs hP hD hS => ?_)
    have hP := k_cP (k_sl (Nat.le_of_ble_eq_true rfl) (k_sr (w_F_5 k af (ap 0) (al 0) sF (upd (sF 5) i2.toNatClampNeg (((sF 5) i2.toNatClampNeg) ||| ((1 : Int32) <<< ((f_X0_choiceOf sP sF i2) &&& 31))))))) hP
    have hD := k_cD (k_sl (Nat.le_of_ble_eq_true rfl) (k_sr (w_F_5 k af (ap 0) (al 0) sF (upd (sF 5) i2.toNatClampNeg (((sF 5) i2.toNatClampNeg) ||| ((1 : Int32) <<< ((f_X0_choiceOf sP sF i2) &&& 31))))))) hD
    refine lv_aload_n hx hb dX0_askBest_45 rfl (lv_at hl 3 rfl) ?_
    refine lv_iload_n hx hb dX0_askBest_46 rfl (lv_at hl 4 rfl) ?_
    refine lv_iload_n hx hb dX0_askBest_47 rfl (lv_at hl 2 rfl) ?_
    refine lv_iload hx hb dX0_askBest_48 (lv_at hl 1 rfl) ?_
    refine k_Vi (wr := (w_P k ap sP) ++ (w_L k al n sL)) (ws' := (w_P k ap sP) ++ (w_F k af (ap 0) (al 0) (k_st sF 5 (upd (sF 5) i2.toNatClampNeg (((sF 5) i2.toNatClampNeg) ||| ((1 : Int32) <<< ((f_X0_choiceOf sP sF i2) &&& 31)))))) ++ (w_L k al n sL)) (Rv := (f_X0_takes (k_st sF 5 (upd (sF 5) i2.toNatClampNeg (((sF 5) i2.toNatClampNeg) ||| ((1 : Int32) <<< ((f_X0_choiceOf sP sF i2) &&& 31))))) i1 (f_X0_choiceOf sP sF i2) (f_X2_offerTo sP i2 (f_X0_choiceOf sP sF i2)))) (rest := []) ⟨hx, hb, hml, hown, hts⟩ hK hA hP hD hS (c_X0_takes l k af (ap 0) (al 0) (k_st sF 5 (upd (sF 5) i2.toNatClampNeg (((sF 5) i2.toNatClampNeg) ||| ((1 : Int32) <<< ((f_X0_choiceOf sP sF i2) &&& 31))))) i1 (f_X0_choiceOf sP sF i2) (f_X2_offerTo sP i2 (f_X0_choiceOf sP sF i2)) (by first | assumption | exact (k_choice hNs).in (by assumption))) (cwV 3 hts gX0_askBest_X0_takes rfl rfl rfl (by decide +kernel) ⟨Nat.le_of_ble_eq_true rfl, Nat.le_of_ble_eq_true rfl⟩) (va_recv hK hP (ci := 0) (q0 := 18) rfl rfl) rfl hl.1 rfl (Nat.le_of_ble_eq_true rfl) dX0_askBest_50 (Nat.zero_le _) (Nat.zero_le _) [18, 19, 20, 21, 22, 23] [0, 1, 2, 3, 4, 5, 6, 7, 8, 9, 10, 11, 12, 13, 14, 15, 16, 17, 24, 25] [0, 1, 2, 3, 4, 5, 6, 7, 8, 9, 10, 11, 12, 13, 14, 15, 16, 17, 20, 21, 22, 23, 24, 25, 18, 19] rfl rfl rfl (by decide) rfl rfl rfl (fun H locs hP hD hS => ?_)
    refine lv_if_ne (tgt := 73) hx hb dX0_askBest_53 (by decide) (fun c_2 => ?_) (fun c_2 => ?_)
    ·
      refine lv_iload hx hb dX0_askBest_73 (lv_at hl 0 rfl) ?_
      refine lv_bipush (v := (-9)) hx hb dX0_askBest_75 (by decide) ?_
      refine lv_icmp_ne (tgt := 84) hx hb dX0_askBest_77 (by decide) (fun c_3 => ?_) (fun c_3 => ?_)
      ·
        refine lv_iconst (v := 2) hx hb dX0_askBest_84 (by decide) ?_
        refine lv_istore (lv' := [(6, .int 2), (5, .int ((sF 1) (f_X0_choiceOf sP sF i2).toNatClampNeg)), (4, .int (f_X2_offerTo sP i2 (f_X0_choiceOf sP sF i2))), (3, .int (f_X0_choiceOf sP sF i2)), (0, .ref (af 0)), (1, .int i1), (2, .int i2)]) hx hb dX0_askBest_85 hl (by decide) rfl (fun ls hl => ?_)
        refine lv_aload_n hx hb dX0_askBest_87 rfl (lv_at hl 4 rfl) ?_
        refine va_get (D := k.1) (ci := 0) (v := .ref (al 0)) (C := RX0) (T := TX0) (N := 8) hx hb hts in_X0_askBest_X0 hown hK hP 18 rfl rfl 1 (by decide) (k_w hts 4 rfl) (fun _ h9 => h9) rfl dX0_askBest_88 ?_
        refine lv_iload_n hx hb dX0_askBest_91 rfl (lv_at hl 5 rfl) ?_
        refine lv_iload_n hx hb dX0_askBest_92 rfl (lv_at hl 6 rfl) ?_
        refine lv_iload_n hx hb dX0_askBest_93 rfl (lv_at hl 3 rfl) ?_
        refine lv_iload hx hb dX0_askBest_94 (lv_at hl 2 rfl) ?_
        refine lv_iload hx hb dX0_askBest_96 (lv_at hl 0 rfl) ?_
        refine lv_iload hx hb dX0_askBest_98 (lv_at hl 1 rfl) ?_
        refine k_Vv (wr := (w_P k ap sP) ++ (w_F k af (ap 0) (al 0) (k_st sF 5 (upd (sF 5) i2.toNatClampNeg (((sF 5) i2.toNatClampNeg) ||| ((1 : Int32) <<< ((f_X0_choiceOf sP sF i2) &&& 31))))))) (ws' := (w_P k ap sP) ++ (w_F k af (ap 0) (al 0) (k_st sF 5 (upd (sF 5) i2.toNatClampNeg (((sF 5) i2.toNatClampNeg) ||| ((1 : Int32) <<< ((f_X0_choiceOf sP sF i2) &&& 31)))))) ++ (w_L k al n (f_X1_write n sL i1 i2 (f_X0_choiceOf sP sF i2) (f_X2_offerTo sP i2 (f_X0_choiceOf sP sF i2)) 2 ((sF 1) (f_X0_choiceOf sP sF i2).toNatClampNeg)))) (rest := []) ⟨hx, hb, hml, hown, hts⟩ hK hA hP hD hS (c_X1_write l k al n sL i1 i2 (f_X0_choiceOf sP sF i2) (f_X2_offerTo sP i2 (f_X0_choiceOf sP sF i2)) 2 ((sF 1) (f_X0_choiceOf sP sF i2).toNatClampNeg) (hI.2.2) (hn)) (cwV 6 hts gX0_askBest_X1_write rfl rfl rfl (by decide +kernel) ⟨Nat.le_of_ble_eq_true rfl, Nat.le_of_ble_eq_true rfl⟩) (va_recv hK hP (ci := 1) (q0 := 24) rfl rfl) rfl hl.1 rfl (Nat.le_of_ble_eq_true rfl) dX0_askBest_100 (Nat.zero_le _) (Nat.zero_le _) [24, 25] [0, 1, 2, 3, 4, 5, 6, 7, 8, 9, 10, 11, 12, 13, 14, 15, 16, 17, 18, 19, 20, 21, 22, 23] [0, 1, 2, 3, 4, 5, 6, 7, 8, 9, 10, 11, 12, 13, 14, 15, 16, 17, 18, 19, 20, 21, 22, 23, 24, 25] rfl rfl rfl (by decide) rfl rfl rfl (fun H locs hP hD hS => ?_)
        obtain ⟨z_4, ez_4⟩ : ∃ z, z = f_X1_write n sL i1 i2 (f_X0_choiceOf sP sF i2) (f_X2_offerTo sP i2 (f_X0_choiceOf sP sF i2)) 2 ((sF 1) (f_X0_choiceOf sP sF i2).toNatClampNeg) := ⟨_, rfl⟩
        rw [← ez_4] at hP hD
        refine lv_aload_n hx hb dX0_askBest_103 rfl (lv_at hl 4 rfl) ?_
        refine lv_iload_n hx hb dX0_askBest_104 rfl (lv_at hl 5 rfl) ?_
        refine lv_iload_n hx hb dX0_askBest_105 rfl (lv_at hl 6 rfl) ?_
        refine lv_iload_n hx hb dX0_askBest_106 rfl (lv_at hl 3 rfl) ?_
        refine lv_iload hx hb dX0_askBest_107 (lv_at hl 2 rfl) ?_
        refine k_Vv (wr := (w_P k ap sP) ++ (w_L k al n (z_4))) (ws' := (w_P k ap sP) ++ (w_F k af (ap 0) (al 0) (f_X0_bind (k_st sF 5 (upd (sF 5) i2.toNatClampNeg (((sF 5) i2.toNatClampNeg) ||| ((1 : Int32) <<< ((f_X0_choiceOf sP sF i2) &&& 31))))) i1 i2 (f_X0_choiceOf sP sF i2) (f_X2_offerTo sP i2 (f_X0_choiceOf sP sF i2)))) ++ (w_L k al n (z_4))) (rest := []) ⟨hx, hb, hml, hown, hts⟩ hK hA hP hD hS (c_X0_bind l k af (ap 0) (al 0) (k_st sF 5 (upd (sF 5) i2.toNatClampNeg (((sF 5) i2.toNatClampNeg) ||| ((1 : Int32) <<< ((f_X0_choiceOf sP sF i2) &&& 31))))) i1 i2 (f_X0_choiceOf sP sF i2) (f_X2_offerTo sP i2 (f_X0_choiceOf sP sF i2)) (h2) (by first | assumption | exact (k_choice hNs).in (by assumption)) (hI.1 _ (k_lt (by first | assumption | exact (k_choice hNs).in (by assumption))))) (cwV 4 hts gX0_askBest_X0_bind rfl rfl rfl (by decide +kernel) ⟨Nat.le_of_ble_eq_true rfl, Nat.le_of_ble_eq_true rfl⟩) (va_recv hK hP (ci := 0) (q0 := 18) rfl rfl) rfl hl.1 rfl (Nat.le_of_ble_eq_true rfl) dX0_askBest_109 (Nat.zero_le _) (Nat.zero_le _) [18, 19, 20, 21, 22, 23] [0, 1, 2, 3, 4, 5, 6, 7, 8, 9, 10, 11, 12, 13, 14, 15, 16, 17, 24, 25] [0, 1, 2, 3, 4, 5, 6, 7, 8, 9, 10, 11, 12, 13, 14, 15, 16, 17, 20, 21, 22, 23, 24, 25, 18, 19] rfl rfl rfl (by decide) rfl rfl rfl (fun H locs hP hD hS => ?_)
        obtain ⟨z_5, ez_5⟩ : ∃ z, z = f_X0_bind (k_st sF 5 (upd (sF 5) i2.toNatClampNeg (((sF 5) i2.toNatClampNeg) ||| ((1 : Int32) <<< ((f_X0_choiceOf sP sF i2) &&& 31))))) i1 i2 (f_X0_choiceOf sP sF i2) (f_X2_offerTo sP i2 (f_X0_choiceOf sP sF i2)) := ⟨_, rfl⟩
        rw [← ez_5] at hP hD
        refine lv_iconst (v := 1) hx hb dX0_askBest_112 (by decide) ?_
        have ef : f_X0_askBest n sP sF sL i1 i2 = (1, (z_5), (z_4)) := by
          rw [f_X0_askBest, ← ez_4, ← ez_5, if_neg c_1, if_neg c_2, if_neg c_3]
        exact k_retz hx hb hr (by decide) hK (by rw [ef]; exact hP) (by rw [ef]; exact hD) hS hlocks dX0_askBest_113 (by rw [ef])
      ·
        refine lv_iconst (v := 1) hx hb dX0_askBest_80 (by decide) ?_
        refine lv_goto (tgt := 85) hx hb dX0_askBest_81 (by decide) ?_
        refine lv_istore (lv' := [(6, .int 1), (5, .int ((sF 1) (f_X0_choiceOf sP sF i2).toNatClampNeg)), (4, .int (f_X2_offerTo sP i2 (f_X0_choiceOf sP sF i2))), (3, .int (f_X0_choiceOf sP sF i2)), (0, .ref (af 0)), (1, .int i1), (2, .int i2)]) hx hb dX0_askBest_85 hl (by decide) rfl (fun ls hl => ?_)
        refine lv_aload_n hx hb dX0_askBest_87 rfl (lv_at hl 4 rfl) ?_
        refine va_get (D := k.1) (ci := 0) (v := .ref (al 0)) (C := RX0) (T := TX0) (N := 8) hx hb hts in_X0_askBest_X0 hown hK hP 18 rfl rfl 1 (by decide) (k_w hts 4 rfl) (fun _ h9 => h9) rfl dX0_askBest_88 ?_
        refine lv_iload_n hx hb dX0_askBest_91 rfl (lv_at hl 5 rfl) ?_
        refine lv_iload_n hx hb dX0_askBest_92 rfl (lv_at hl 6 rfl) ?_
        refine lv_iload_n hx hb dX0_askBest_93 rfl (lv_at hl 3 rfl) ?_
        refine lv_iload hx hb dX0_askBest_94 (lv_at hl 2 rfl) ?_
        refine lv_iload hx hb dX0_askBest_96 (lv_at hl 0 rfl) ?_
        refine lv_iload hx hb dX0_askBest_98 (lv_at hl 1 rfl) ?_
        refine k_Vv (wr := (w_P k ap sP) ++ (w_F k af (ap 0) (al 0) (k_st sF 5 (upd (sF 5) i2.toNatClampNeg (((sF 5) i2.toNatClampNeg) ||| ((1 : Int32) <<< ((f_X0_choiceOf sP sF i2) &&& 31))))))) (ws' := (w_P k ap sP) ++ (w_F k af (ap 0) (al 0) (k_st sF 5 (upd (sF 5) i2.toNatClampNeg (((sF 5) i2.toNatClampNeg) ||| ((1 : Int32) <<< ((f_X0_choiceOf sP sF i2) &&& 31)))))) ++ (w_L k al n (f_X1_write n sL i1 i2 (f_X0_choiceOf sP sF i2) (f_X2_offerTo sP i2 (f_X0_choiceOf sP sF i2)) 1 ((sF 1) (f_X0_choiceOf sP sF i2).toNatClampNeg)))) (rest := []) ⟨hx, hb, hml, hown, hts⟩ hK hA hP hD hS (c_X1_write l k al n sL i1 i2 (f_X0_choiceOf sP sF i2) (f_X2_offerTo sP i2 (f_X0_choiceOf sP sF i2)) 1 ((sF 1) (f_X0_choiceOf sP sF i2).toNatClampNeg) (hI.2.2) (hn)) (cwV 6 hts gX0_askBest_X1_write rfl rfl rfl (by decide +kernel) ⟨Nat.le_of_ble_eq_true rfl, Nat.le_of_ble_eq_true rfl⟩) (va_recv hK hP (ci := 1) (q0 := 24) rfl rfl) rfl hl.1 rfl (Nat.le_of_ble_eq_true rfl) dX0_askBest_100 (Nat.zero_le _) (Nat.zero_le _) [24, 25] [0, 1, 2, 3, 4, 5, 6, 7, 8, 9, 10, 11, 12, 13, 14, 15, 16, 17, 18, 19, 20, 21, 22, 23] [0, 1, 2, 3, 4, 5, 6, 7, 8, 9, 10, 11, 12, 13, 14, 15, 16, 17, 18, 19, 20, 21, 22, 23, 24, 25] rfl rfl rfl (by decide) rfl rfl rfl (fun H locs hP hD hS => ?_)
        obtain ⟨z_6, ez_6⟩ : ∃ z, z = f_X1_write n sL i1 i2 (f_X0_choiceOf sP sF i2) (f_X2_offerTo sP i2 (f_X0_choiceOf sP sF i2)) 1 ((sF 1) (f_X0_choiceOf sP sF i2).toNatClampNeg) := ⟨_, rfl⟩
        rw [← ez_6] at hP hD
        refine lv_aload_n hx hb dX0_askBest_103 rfl (lv_at hl 4 rfl) ?_
        refine lv_iload_n hx hb dX0_askBest_104 rfl (lv_at hl 5 rfl) ?_
        refine lv_iload_n hx hb dX0_askBest_105 rfl (lv_at hl 6 rfl) ?_
        refine lv_iload_n hx hb dX0_askBest_106 rfl (lv_at hl 3 rfl) ?_
        refine lv_iload hx hb dX0_askBest_107 (lv_at hl 2 rfl) ?_
        refine k_Vv (wr := (w_P k ap sP) ++ (w_L k al n (z_6))) (ws' := (w_P k ap sP) ++ (w_F k af (ap 0) (al 0) (f_X0_bind (k_st sF 5 (upd (sF 5) i2.toNatClampNeg (((sF 5) i2.toNatClampNeg) ||| ((1 : Int32) <<< ((f_X0_choiceOf sP sF i2) &&& 31))))) i1 i2 (f_X0_choiceOf sP sF i2) (f_X2_offerTo sP i2 (f_X0_choiceOf sP sF i2)))) ++ (w_L k al n (z_6))) (rest := []) ⟨hx, hb, hml, hown, hts⟩ hK hA hP hD hS (c_X0_bind l k af (ap 0) (al 0) (k_st sF 5 (upd (sF 5) i2.toNatClampNeg (((sF 5) i2.toNatClampNeg) ||| ((1 : Int32) <<< ((f_X0_choiceOf sP sF i2) &&& 31))))) i1 i2 (f_X0_choiceOf sP sF i2) (f_X2_offerTo sP i2 (f_X0_choiceOf sP sF i2)) (h2) (by first | assumption | exact (k_choice hNs).in (by assumption)) (hI.1 _ (k_lt (by first | assumption | exact (k_choice hNs).in (by assumption))))) (cwV 4 hts gX0_askBest_X0_bind rfl rfl rfl (by decide +kernel) ⟨Nat.le_of_ble_eq_true rfl, Nat.le_of_ble_eq_true rfl⟩) (va_recv hK hP (ci := 0) (q0 := 18) rfl rfl) rfl hl.1 rfl (Nat.le_of_ble_eq_true rfl) dX0_askBest_109 (Nat.zero_le _) (Nat.zero_le _) [18, 19, 20, 21, 22, 23] [0, 1, 2, 3, 4, 5, 6, 7, 8, 9, 10, 11, 12, 13, 14, 15, 16, 17, 24, 25] [0, 1, 2, 3, 4, 5, 6, 7, 8, 9, 10, 11, 12, 13, 14, 15, 16, 17, 20, 21, 22, 23, 24, 25, 18, 19] rfl rfl rfl (by decide) rfl rfl rfl (fun H locs hP hD hS => ?_)
        obtain ⟨z_7, ez_7⟩ : ∃ z, z = f_X0_bind (k_st sF 5 (upd (sF 5) i2.toNatClampNeg (((sF 5) i2.toNatClampNeg) ||| ((1 : Int32) <<< ((f_X0_choiceOf sP sF i2) &&& 31))))) i1 i2 (f_X0_choiceOf sP sF i2) (f_X2_offerTo sP i2 (f_X0_choiceOf sP sF i2)) := ⟨_, rfl⟩
        rw [← ez_7] at hP hD
        refine lv_iconst (v := 1) hx hb dX0_askBest_112 (by decide) ?_
        have ef : f_X0_askBest n sP sF sL i1 i2 = (1, (z_7), (z_6)) := by
          rw [f_X0_askBest, ← ez_6, ← ez_7, if_neg c_1, if_neg c_2, if_pos c_3]
        exact k_retz hx hb hr (by decide) hK (by rw [ef]; exact hP) (by rw [ef]; exact hD) hS hlocks dX0_askBest_113 (by rw [ef])
    ·
      refine lv_aload_n hx hb dX0_askBest_56 rfl (lv_at hl 3 rfl) ?_
      refine va_get (D := k.1) (ci := 0) (v := .ref (al 0)) (C := RX0) (T := TX0) (N := 8) hx hb hts in_X0_askBest_X0 hown hK hP 18 rfl rfl 1 (by decide) (k_w hts 4 rfl) (fun _ h9 => h9) rfl dX0_askBest_57 ?_
      refine lv_iload_n hx hb dX0_askBest_60 rfl (lv_at hl 4 rfl) ?_
      refine lv_iload_n hx hb dX0_askBest_61 rfl (lv_at hl 5 rfl) ?_
      refine lv_iload_n hx hb dX0_askBest_62 rfl (lv_at hl 2 rfl) ?_
      refine lv_iload hx hb dX0_askBest_63 (lv_at hl 1 rfl) ?_
      refine lv_iconst (v := 0) hx hb dX0_askBest_65 (by decide) ?_
      refine lv_bipush (v := (-9)) hx hb dX0_askBest_66 (by decide) ?_
      refine k_Vv (wr := (w_P k ap sP) ++ (w_F k af (ap 0) (al 0) (k_st sF 5 (upd (sF 5) i2.toNatClampNeg (((sF 5) i2.toNatClampNeg) ||| ((1 : Int32) <<< ((f_X0_choiceOf sP sF i2) &&& 31))))))) (ws' := (w_P k ap sP) ++ (w_F k af (ap 0) (al 0) (k_st sF 5 (upd (sF 5) i2.toNatClampNeg (((sF 5) i2.toNatClampNeg) ||| ((1 : Int32) <<< ((f_X0_choiceOf sP sF i2) &&& 31)))))) ++ (w_L k al n (f_X1_write n sL i1 i2 (f_X0_choiceOf sP sF i2) (f_X2_offerTo sP i2 (f_X0_choiceOf sP sF i2)) 0 (-9)))) (rest := []) ⟨hx, hb, hml, hown, hts⟩ hK hA hP hD hS (c_X1_write l k al n sL i1 i2 (f_X0_choiceOf sP sF i2) (f_X2_offerTo sP i2 (f_X0_choiceOf sP sF i2)) 0 (-9) (hI.2.2) (hn)) (cwV 6 hts gX0_askBest_X1_write rfl rfl rfl (by decide +kernel) ⟨Nat.le_of_ble_eq_true rfl, Nat.le_of_ble_eq_true rfl⟩) (va_recv hK hP (ci := 1) (q0 := 24) rfl rfl) rfl hl.1 rfl (Nat.le_of_ble_eq_true rfl) dX0_askBest_68 (Nat.zero_le _) (Nat.zero_le _) [24, 25] [0, 1, 2, 3, 4, 5, 6, 7, 8, 9, 10, 11, 12, 13, 14, 15, 16, 17, 18, 19, 20, 21, 22, 23] [0, 1, 2, 3, 4, 5, 6, 7, 8, 9, 10, 11, 12, 13, 14, 15, 16, 17, 18, 19, 20, 21, 22, 23, 24, 25] rfl rfl rfl (by decide) rfl rfl rfl (fun H locs hP hD hS => ?_)
      obtain ⟨z_8, ez_8⟩ : ∃ z, z = f_X1_write n sL i1 i2 (f_X0_choiceOf sP sF i2) (f_X2_offerTo sP i2 (f_X0_choiceOf sP sF i2)) 0 (-9) := ⟨_, rfl⟩
      rw [← ez_8] at hP hD
      refine lv_iconst (v := 1) hx hb dX0_askBest_71 (by decide) ?_
      have ef : f_X0_askBest n sP sF sL i1 i2 = (1, k_st sF 5 (upd (sF 5) i2.toNatClampNeg (((sF 5) i2.toNatClampNeg) ||| ((1 : Int32) <<< ((f_X0_choiceOf sP sF i2) &&& 31)))), (z_8)) := by
        rw [f_X0_askBest, ← ez_8, if_neg c_1, if_pos c_2]
      exact k_retz hx hb hr (by decide) hK (by rw [ef]; exact hP) (by rw [ef]; exact hD) hS hlocks dX0_askBest_72 (by rw [ef])
  ·
    refine lv_iconst (v := 0) hx hb dX0_askBest_12 (by decide) ?_
    have ef : f_X0_askBest n sP sF sL i1 i2 = (0, sF, sL) := by
      rw [f_X0_askBest, if_pos c_1]
    exact k_retz hx hb hr (by decide) hK (by rw [ef]; exact hP) (by rw [ef]; exact hD) hS hlocks dX0_askBest_13 (by rw [ef])
theorem k_write_n {n : Nat} {sL : Nat → Nat → Int32} {a b c d e f : Int32} (hc : k_n (sL 0 0) n) (hn : n ≤ 100) : k_n (f_X1_write n sL a b c d e f 0 0) n := by
  unfold f_X1_write
  split
  · rename_i h
    show k_n ((sL 0 0) + 1) n
    obtain ⟨j, hj, e⟩ := hc.get
    rw [e] at h ⊢
    rw [nI_1]
    exact k_n.mk ((nI_ltI (by omega) (by omega)).mp h) (by omega)
  · exact hc
theorem k_bind_o {n : Nat} {sF sL : Nat → Nat → Int32} {a b c d : Int32} (hI : k_I n sF sL) (hb : vp_in b 10) (hc : vp_in c 10) : (∀ j, j < 10 → k_o (f_X0_bind sF a b c d 1 j) 10) ∧ (∀ j, j < 10 → k_o (f_X0_bind sF a b c d 4 j) 10) := by
  unfold f_X0_bind
  split
  · exact ⟨k_updo hI.1 (Or.inr hb), k_updo hI.2.1 (Or.inr hc)⟩
  · exact ⟨k_updo hI.1 (Or.inr hb), k_updo (k_updo hI.2.1 (Or.inl rfl)) (Or.inr hc)⟩
theorem k_I_ask {n : Nat} {sP sF sL : Nat → Nat → Int32} {i1 i2 : Int32} (hNs : k_n (sP 0 0) 10) (hn : n ≤ 100) (h2 : vp_in i2 10) (hI : k_I n sF sL) : k_I n (f_X0_askBest n sP sF sL i1 i2).2.1 (f_X0_askBest n sP sF sL i1 i2).2.2 := by
  unfold f_X0_askBest
  split
  · exact hI
  · rename_i hc
    have hs := (k_choice (sF := sF) (i1 := i2) hNs).in hc
    have hI5 : ∀ v : Nat → Int32, k_I n (k_st sF 5 v) sL := fun v => hI
    split
    · exact ⟨hI.1, hI.2.1, k_write_n hI.2.2 hn⟩
    · split
      all_goals exact ⟨(k_bind_o (hI5 _) h2 hs).1, (k_bind_o (hI5 _) h2 hs).2, k_write_n hI.2.2 hn⟩
theorem in_X0_playMinute_X0 : ∀ w ∈ wsX00, w ∈ wsX0_playMinute := fun _ h => List.mem_cons_of_mem _ (List.mem_append_left _ (List.mem_append_left _ (List.mem_append_right _ h)))
theorem in_X0_playMinute_X2 : ∀ w ∈ wsX20, w ∈ wsX0_playMinute := fun _ h => List.mem_cons_of_mem _ (List.mem_append_left _ (List.mem_append_right _ h))
theorem in_X0_playMinute_X1 : ∀ w ∈ wsX10, w ∈ wsX0_playMinute := fun _ h => List.mem_cons_of_mem _ (List.mem_append_right _ h)
def g_X0_playMinute_lp (n : Nat) (sP : Nat → Nat → Int32) (i1 : Int32) (i2 : Int32) : Nat → Nat → Int32 → (Nat → Nat → Int32) → (Nat → Nat → Int32) → Int32 × (Nat → Nat → Int32) × (Nat → Nat → Int32)
  | 0, j, a1, sF, sL => (a1, sF, sL)
  | r + 1, j, a1, sF, sL => if i2 = 0 then (if ((sF 4) (nI j).toNatClampNeg) = (-9) then (if (((f_X0_askBest n sP sF sL i1 (nI j))).1) = 0 then g_X0_playMinute_lp n sP i1 i2 r (j + 1) a1 (((f_X0_askBest n sP sF sL i1 (nI j))).2.1) (((f_X0_askBest n sP sF sL i1 (nI j))).2.2)
        else g_X0_playMinute_lp n sP i1 i2 r (j + 1) 1 (((f_X0_askBest n sP sF sL i1 (nI j))).2.1) (((f_X0_askBest n sP sF sL i1 (nI j))).2.2))
      else g_X0_playMinute_lp n sP i1 i2 r (j + 1) a1 sF sL)
    else if ((sF 4) (((sP 0 1) - 1) - (nI j)).toNatClampNeg) = (-9) then (if (((f_X0_askBest n sP sF sL i1 (((sP 0 1) - 1) - (nI j)))).1) = 0 then g_X0_playMinute_lp n sP i1 i2 r (j + 1) a1 (((f_X0_askBest n sP sF sL i1 (((sP 0 1) - 1) - (nI j)))).2.1) (((f_X0_askBest n sP sF sL i1 (((sP 0 1) - 1) - (nI j)))).2.2)
      else g_X0_playMinute_lp n sP i1 i2 r (j + 1) 1 (((f_X0_askBest n sP sF sL i1 (((sP 0 1) - 1) - (nI j)))).2.1) (((f_X0_askBest n sP sF sL i1 (((sP 0 1) - 1) - (nI j)))).2.2))
    else g_X0_playMinute_lp n sP i1 i2 r (j + 1) a1 sF sL
set_option maxHeartbeats 4000000 in
set_option maxRecDepth 100000 in
theorem lp_X0_playMinute_lp {p : Program} {l : Launch} {e : Env} {s : State} {m : MethodId} {below : List Frame} {meth : Method} {c : Code} {A : Nat → Prop} {Q : State → Prop} {av : Array Value} (k : K_X) (ap : Nat → Nat) (af : Nat → Nat) (al : Nat → Nat) (n : Nat) (sP : Nat → Nat → Int32) (i1 : Int32) (i2 : Int32) (C0 : k_Cx p s m meth c k cX0_playMinute (some .boolean) wsX0_playMinute RX0 6 av A) (hNs : k_n (sP 0 0) 10) (hNm : k_n (sP 0 1) 10) (hn : n ≤ 100) : ∀ (r j : Nat) (a1 : Int32) (sF : Nat → Nat → Int32) (sL : Nat → Nat → Int32) (H : Heap) (locs : List Loc) (ls : Array Slot), j + r = (sP 0 1).toNatClampNeg → k_I n sF sL → va_P k.1 vwCl ((w_P k ap sP) ++ (w_F k af (ap 0) (al 0) sF) ++ (w_L k al n sL)) H → va_D A ((w_P k ap sP) ++ (w_F k af (ap 0) (al 0) sF) ++ (w_L k al n sL)) → va_S A s.heap H locs → lv_has ls 6 [(0, .ref (af 0)), (1, .int i1), (2, .int i2), (3, .int a1), (4, .int (nI j))] → (∀ (H : Heap) (locs : List Loc) (ls : Array Slot), va_P k.1 vwCl ((w_P k ap sP) ++ (w_F k af (ap 0) (al 0) ((g_X0_playMinute_lp n sP i1 i2 r j a1 sF sL).2.1)) ++ (w_L k al n ((g_X0_playMinute_lp n sP i1 i2 r j a1 sF sL).2.2))) H → va_D A ((w_P k ap sP) ++ (w_F k af (ap 0) (al 0) ((g_X0_playMinute_lp n sP i1 i2 r j a1 sF sL).2.1)) ++ (w_L k al n ((g_X0_playMinute_lp n sP i1 i2 r j a1 sF sL).2.2))) → va_S A s.heap H locs → lv_has ls 6 [(0, .ref (af 0)), (1, .int i1), (2, .int i2), (3, .int ((g_X0_playMinute_lp n sP i1 i2 r j a1 sF sL).1))] → W p l e (k_rm 4 98) s m av below meth c H locs 0 0 Q (F0 m 70 ls [])) → W p l e (k_rm 4 98) s m av below meth c H locs 0 0 Q (F0 m 5 ls []) := by
  obtain ⟨hx, hb, hr, hts, hown, hlocks, hml, hA, hK⟩ := id C0
  have hq2 := hNm.2
  intro r
  induction r with
  | zero =>
    intro j a1 sF sL H locs ls hj hI hP hD hS hl hQ
    refine lv_iload hx hb dX0_playMinute_5 (lv_at hl 4 rfl) ?_
    refine lv_aload_n hx hb dX0_playMinute_7 rfl (lv_at hl 0 rfl) ?_
    refine va_get (D := k.1) (ci := 0) (v := .ref (ap 0)) (C := RX0) (T := TX0) (N := 8) hx hb hts in_X0_playMinute_X0 hown hK hP 18 rfl rfl 0 (by decide) (k_w hts 1 rfl) (fun _ h9 => h9) rfl dX0_playMinute_8 ?_
    refine va_get (D := k.1) (ci := 2) (v := .int (sP 0 1)) (C := RX2) (T := TX2) (N := 9) hx hb hts in_X0_playMinute_X2 hown hK hP 0 rfl rfl 4 (by decide) (k_w hts 2 rfl) (fun _ h9 => h9) rfl dX0_playMinute_11 ?_
    refine lv_icmp_ge (tgt := 70) hx hb dX0_playMinute_14 (by decide) (fun c_1 => ?_) (fun c_1 => ?_)
    rotate_left
    · exact absurd (hNm.ge (by omega)) c_1
    have eg : g_X0_playMinute_lp n sP i1 i2 0 j a1 sF sL = (a1, sF, sL) := by
      rw [g_X0_playMinute_lp]
    rw [eg] at hQ
    exact hQ _ _ _ hP hD hS (lv_sub hl [0, 1, 2, 3] rfl)
  | succ r ih =>
    intro j a1 sF sL H locs ls hj hI hP hD hS hl hQ
    refine lv_iload hx hb dX0_playMinute_5 (lv_at hl 4 rfl) ?_
    refine lv_aload_n hx hb dX0_playMinute_7 rfl (lv_at hl 0 rfl) ?_
    refine va_get (D := k.1) (ci := 0) (v := .ref (ap 0)) (C := RX0) (T := TX0) (N := 8) hx hb hts in_X0_playMinute_X0 hown hK hP 18 rfl rfl 0 (by decide) (k_w hts 1 rfl) (fun _ h9 => h9) rfl dX0_playMinute_8 ?_
    refine va_get (D := k.1) (ci := 2) (v := .int (sP 0 1)) (C := RX2) (T := TX2) (N := 9) hx hb hts in_X0_playMinute_X2 hown hK hP 0 rfl rfl 4 (by decide) (k_w hts 2 rfl) (fun _ h9 => h9) rfl dX0_playMinute_11 ?_
    refine lv_icmp_ge (tgt := 70) hx hb dX0_playMinute_14 (by decide) (fun c_1 => ?_) (fun c_1 => ?_)
    · exact absurd c_1 (hNm.nge (by omega))
    refine lv_iload_n hx hb dX0_playMinute_17 rfl (lv_at hl 2 rfl) ?_
    refine lv_if_eq (tgt := 36) hx hb dX0_playMinute_18 (by decide) (fun c_2 => ?_) (fun c_2 => ?_)
    ·
      refine lv_iload hx hb dX0_playMinute_36 (lv_at hl 4 rfl) ?_
      refine lv_istore (lv' := [(5, .int (nI j)), (0, .ref (af 0)), (1, .int i1), (2, .int i2), (3, .int a1), (4, .int (nI j))]) hx hb dX0_playMinute_38 hl (by decide) rfl (fun ls hl => ?_)
      refine lv_aload_n hx hb dX0_playMinute_40 rfl (lv_at hl 1 rfl) ?_
      refine va_get (D := k.1) (ci := 0) (v := .ref (af 4)) (C := RX0) (T := TX0) (N := 8) hx hb hts in_X0_playMinute_X0 hown hK hP 18 rfl rfl 6 (by decide) (k_w hts 3 rfl) (fun _ h9 => h9) rfl dX0_playMinute_41 ?_
      refine lv_iload hx hb dX0_playMinute_44 (lv_at hl 0 rfl) ?_
      refine va_iald (f := sF 4) hx hb hK hP 22 0 rfl rfl (by first | exact vp_in_nI (by omega) (by omega) | exact k_inrev hNm (by omega) (by omega)) dX0_playMinute_46 ?_
      refine lv_bipush (v := (-9)) hx hb dX0_playMinute_47 (by decide) ?_
      refine lv_icmp_ne (tgt := 64) hx hb dX0_playMinute_49 (by decide) (fun c_3 => ?_) (fun c_3 => ?_)
      ·
        refine lv_iinc (v := nI (j + 1)) (lv' := [(4, .int (nI (j + 1))), (5, .int (nI j)), (0, .ref (af 0)), (1, .int i1), (2, .int i2), (3, .int a1)]) hx hb dX0_playMinute_64 hl (k := 5) rfl (nI_1 j) (by decide) rfl (fun ls hl => ?_)
        refine lv_goto (tgt := 5) hx hb dX0_playMinute_67 (by decide) ?_
        have eg : g_X0_playMinute_lp n sP i1 i2 (r + 1) j a1 sF sL = g_X0_playMinute_lp n sP i1 i2 r (j + 1) a1 sF sL := by
          rw [g_X0_playMinute_lp, if_pos c_2, if_neg c_3]
        rw [eg] at hQ
        exact ih (j + 1) a1 sF sL _ _ _ (by omega) (by (try subst_vars); first | exact hI | exact k_I_ask hNs hn (by first | exact vp_in_nI (by omega) (by omega) | exact k_inrev hNm (by omega) (by omega)) hI) hP hD hS (lv_sub hl [2, 3, 4, 5, 0] rfl) hQ
      ·
        refine lv_aload_n hx hb dX0_playMinute_52 rfl (lv_at hl 1 rfl) ?_
        refine lv_iload_n hx hb dX0_playMinute_53 rfl (lv_at hl 2 rfl) ?_
        refine lv_iload hx hb dX0_playMinute_54 (lv_at hl 0 rfl) ?_
        refine k_Vi (wr := ([] : va_W)) (ws' := (w_P k ap sP) ++ (w_F k af (ap 0) (al 0) ((f_X0_askBest n sP sF sL i1 (nI j)).2.1)) ++ (w_L k al n ((f_X0_askBest n sP sF sL i1 (nI j)).2.2))) (Rv := ((f_X0_askBest n sP sF sL i1 (nI j)).1)) (rest := []) ⟨hx, hb, hml, hown, hts⟩ hK hA hP hD hS (c_X0_askBest l k ap af al n sP sF sL i1 (nI j) (by first | exact vp_in_nI (by omega) (by omega) | exact k_inrev hNm (by omega) (by omega)) (hNs) (hn) (hI)) (cwV 2 hts gX0_playMinute_X0_askBest rfl rfl rfl (by decide +kernel) ⟨Nat.le_of_ble_eq_true rfl, Nat.le_of_ble_eq_true rfl⟩) (va_recv hK hP (ci := 0) (q0 := 18) rfl rfl) rfl hl.1 rfl (Nat.le_of_ble_eq_true rfl) dX0_playMinute_56 (Nat.zero_le _) (Nat.zero_le _) [0, 1, 2, 3, 4, 5, 6, 7, 8, 9, 10, 11, 12, 13, 14, 15, 16, 17, 18, 19, 20, 21, 22, 23, 24, 25] [] [0, 1, 2, 3, 4, 5, 6, 7, 8, 9, 10, 11, 12, 13, 14, 15, 16, 17, 18, 19, 20, 21, 22, 23, 24, 25] rfl rfl rfl (by decide) rfl rfl rfl (fun H locs hP hD hS => ?_)
        obtain ⟨z_4, ez_4⟩ : ∃ z, z = f_X0_askBest n sP sF sL i1 (nI j) := ⟨_, rfl⟩
        rw [← ez_4] at hP hD ⊢
        refine lv_if_eq (tgt := 64) hx hb dX0_playMinute_59 (by decide) (fun c_5 => ?_) (fun c_5 => ?_)
        ·
          refine lv_iinc (v := nI (j + 1)) (lv' := [(4, .int (nI (j + 1))), (5, .int (nI j)), (0, .ref (af 0)), (1, .int i1), (2, .int i2), (3, .int a1)]) hx hb dX0_playMinute_64 hl (k := 5) rfl (nI_1 j) (by decide) rfl (fun ls hl => ?_)
          refine lv_goto (tgt := 5) hx hb dX0_playMinute_67 (by decide) ?_
          have eg : g_X0_playMinute_lp n sP i1 i2 (r + 1) j a1 sF sL = g_X0_playMinute_lp n sP i1 i2 r (j + 1) a1 ((z_4).2.1) ((z_4).2.2) := by
            rw [g_X0_playMinute_lp, ← ez_4, if_pos c_2, if_pos c_3, if_pos c_5]
          rw [eg] at hQ
          exact ih (j + 1) a1 ((z_4).2.1) ((z_4).2.2) _ _ _ (by omega) (by (try subst_vars); first | exact hI | exact k_I_ask hNs hn (by first | exact vp_in_nI (by omega) (by omega) | exact k_inrev hNm (by omega) (by omega)) hI) hP hD hS (lv_sub hl [2, 3, 4, 5, 0] rfl) hQ
        ·
          refine lv_iconst (v := 1) hx hb dX0_playMinute_62 (by decide) ?_
          refine lv_istore_n (lv' := [(3, .int 1), (5, .int (nI j)), (0, .ref (af 0)), (1, .int i1), (2, .int i2), (4, .int (nI j))]) hx hb dX0_playMinute_63 rfl hl (by decide) rfl (fun ls hl => ?_)
          refine lv_iinc (v := nI (j + 1)) (lv' := [(4, .int (nI (j + 1))), (3, .int 1), (5, .int (nI j)), (0, .ref (af 0)), (1, .int i1), (2, .int i2)]) hx hb dX0_playMinute_64 hl (k := 5) rfl (nI_1 j) (by decide) rfl (fun ls hl => ?_)
          refine lv_goto (tgt := 5) hx hb dX0_playMinute_67 (by decide) ?_
          have eg : g_X0_playMinute_lp n sP i1 i2 (r + 1) j a1 sF sL = g_X0_playMinute_lp n sP i1 i2 r (j + 1) 1 ((z_4).2.1) ((z_4).2.2) := by
            rw [g_X0_playMinute_lp, ← ez_4, if_pos c_2, if_pos c_3, if_neg c_5]
          rw [eg] at hQ
          exact ih (j + 1) 1 ((z_4).2.1) ((z_4).2.2) _ _ _ (by omega) (by (try subst_vars); first | exact hI | exact k_I_ask hNs hn (by first | exact vp_in_nI (by omega) (by omega) | exact k_inrev hNm (by omega) (by omega)) hI) hP hD hS (lv_sub hl [3, 4, 5, 1, 0] rfl) hQ
    ·
      refine lv_aload_n hx hb dX0_playMinute_21 rfl (lv_at hl 0 rfl) ?_
      refine va_get (D := k.1) (ci := 0) (v := .ref (ap 0)) (C := RX0) (T := TX0) (N := 8) hx hb hts in_X0_playMinute_X0 hown hK hP 18 rfl rfl 0 (by decide) (k_w hts 1 rfl) (fun _ h9 => h9) rfl dX0_playMinute_22 ?_
      refine va_get (D := k.1) (ci := 2) (v := .int (sP 0 1)) (C := RX2) (T := TX2) (N := 9) hx hb hts in_X0_playMinute_X2 hown hK hP 0 rfl rfl 4 (by decide) (k_w hts 2 rfl) (fun _ h9 => h9) rfl dX0_playMinute_25 ?_
      refine lv_iconst (v := 1) hx hb dX0_playMinute_28 (by decide) ?_
      refine lv_isub hx hb dX0_playMinute_29 ?_
      refine lv_iload hx hb dX0_playMinute_30 (lv_at hl 4 rfl) ?_
      refine lv_isub hx hb dX0_playMinute_32 ?_
      refine lv_goto (tgt := 38) hx hb dX0_playMinute_33 (by decide) ?_
      refine lv_istore (lv' := [(5, .int (((sP 0 1) - 1) - (nI j))), (0, .ref (af 0)), (1, .int i1), (2, .int i2), (3, .int a1), (4, .int (nI j))]) hx hb dX0_playMinute_38 hl (by decide) rfl (fun ls hl => ?_)
      refine lv_aload_n hx hb dX0_playMinute_40 rfl (lv_at hl 1 rfl) ?_
      refine va_get (D := k.1) (ci := 0) (v := .ref (af 4)) (C := RX0) (T := TX0) (N := 8) hx hb hts in_X0_playMinute_X0 hown hK hP 18 rfl rfl 6 (by decide) (k_w hts 3 rfl) (fun _ h9 => h9) rfl dX0_playMinute_41 ?_
      refine lv_iload hx hb dX0_playMinute_44 (lv_at hl 0 rfl) ?_
      refine va_iald (f := sF 4) hx hb hK hP 22 0 rfl rfl (by first | exact vp_in_nI (by omega) (by omega) | exact k_inrev hNm (by omega) (by omega)) dX0_playMinute_46 ?_
      refine lv_bipush (v := (-9)) hx hb dX0_playMinute_47 (by decide) ?_
      refine lv_icmp_ne (tgt := 64) hx hb dX0_playMinute_49 (by decide) (fun c_6 => ?_) (fun c_6 => ?_)
      ·
        refine lv_iinc (v := nI (j + 1)) (lv' := [(4, .int (nI (j + 1))), (5, .int (((sP 0 1) - 1) - (nI j))), (0, .ref (af 0)), (1, .int i1), (2, .int i2), (3, .int a1)]) hx hb dX0_playMinute_64 hl (k := 5) rfl (nI_1 j) (by decide) rfl (fun ls hl => ?_)
        refine lv_goto (tgt := 5) hx hb dX0_playMinute_67 (by decide) ?_
        have eg : g_X0_playMinute_lp n sP i1 i2 (r + 1) j a1 sF sL = g_X0_playMinute_lp n sP i1 i2 r (j + 1) a1 sF sL := by
          rw [g_X0_playMinute_lp, if_neg c_2, if_neg c_6]
        rw [eg] at hQ
        exact ih (j + 1) a1 sF sL _ _ _ (by omega) (by (try subst_vars); first | exact hI | exact k_I_ask hNs hn (by first | exact vp_in_nI (by omega) (by omega) | exact k_inrev hNm (by omega) (by omega)) hI) hP hD hS (lv_sub hl [2, 3, 4, 5, 0] rfl) hQ
      ·
        refine lv_aload_n hx hb dX0_playMinute_52 rfl (lv_at hl 1 rfl) ?_
        refine lv_iload_n hx hb dX0_playMinute_53 rfl (lv_at hl 2 rfl) ?_
        refine lv_iload hx hb dX0_playMinute_54 (lv_at hl 0 rfl) ?_
        refine k_Vi (wr := ([] : va_W)) (ws' := (w_P k ap sP) ++ (w_F k af (ap 0) (al 0) ((f_X0_askBest n sP sF sL i1 (((sP 0 1) - 1) - (nI j))).2.1)) ++ (w_L k al n ((f_X0_askBest n sP sF sL i1 (((sP 0 1) - 1) - (nI j))).2.2))) (Rv := ((f_X0_askBest n sP sF sL i1 (((sP 0 1) - 1) - (nI j))).1)) (rest := []) ⟨hx, hb, hml, hown, hts⟩ hK hA hP hD hS (c_X0_askBest l k ap af al n sP sF sL i1 (((sP 0 1) - 1) - (nI j)) (by first | exact vp_in_nI (by omega) (by omega) | exact k_inrev hNm (by omega) (by omega)) (hNs) (hn) (hI)) (cwV 2 hts gX0_playMinute_X0_askBest rfl rfl rfl (by decide +kernel) ⟨Nat.le_of_ble_eq_true rfl, Nat.le_of_ble_eq_true rfl⟩) (va_recv hK hP (ci := 0) (q0 := 18) rfl rfl) rfl hl.1 rfl (Nat.le_of_ble_eq_true rfl) dX0_playMinute_56 (Nat.zero_le _) (Nat.zero_le _) [0, 1, 2, 3, 4, 5, 6, 7, 8, 9, 10, 11, 12, 13, 14, 15, 16, 17, 18, 19, 20, 21, 22, 23, 24, 25] [] [0, 1, 2, 3, 4, 5, 6, 7, 8, 9, 10, 11, 12, 13, 14, 15, 16, 17, 18, 19, 20, 21, 22, 23, 24, 25] rfl rfl rfl (by decide) rfl rfl rfl (fun H locs hP hD hS => ?_)
        obtain ⟨z_7, ez_7⟩ : ∃ z, z = f_X0_askBest n sP sF sL i1 (((sP 0 1) - 1) - (nI j)) := ⟨_, rfl⟩
        rw [← ez_7] at hP hD ⊢
        refine lv_if_eq (tgt := 64) hx hb dX0_playMinute_59 (by decide) (fun c_8 => ?_) (fun c_8 => ?_)
        ·
          refine lv_iinc (v := nI (j + 1)) (lv' := [(4, .int (nI (j + 1))), (5, .int (((sP 0 1) - 1) - (nI j))), (0, .ref (af 0)), (1, .int i1), (2, .int i2), (3, .int a1)]) hx hb dX0_playMinute_64 hl (k := 5) rfl (nI_1 j) (by decide) rfl (fun ls hl => ?_)
          refine lv_goto (tgt := 5) hx hb dX0_playMinute_67 (by decide) ?_
          have eg : g_X0_playMinute_lp n sP i1 i2 (r + 1) j a1 sF sL = g_X0_playMinute_lp n sP i1 i2 r (j + 1) a1 ((z_7).2.1) ((z_7).2.2) := by
            rw [g_X0_playMinute_lp, ← ez_7, if_neg c_2, if_pos c_6, if_pos c_8]
          rw [eg] at hQ
          exact ih (j + 1) a1 ((z_7).2.1) ((z_7).2.2) _ _ _ (by omega) (by (try subst_vars); first | exact hI | exact k_I_ask hNs hn (by first | exact vp_in_nI (by omega) (by omega) | exact k_inrev hNm (by omega) (by omega)) hI) hP hD hS (lv_sub hl [2, 3, 4, 5, 0] rfl) hQ
        ·
          refine lv_iconst (v := 1) hx hb dX0_playMinute_62 (by decide) ?_
          refine lv_istore_n (lv' := [(3, .int 1), (5, .int (((sP 0 1) - 1) - (nI j))), (0, .ref (af 0)), (1, .int i1), (2, .int i2), (4, .int (nI j))]) hx hb dX0_playMinute_63 rfl hl (by decide) rfl (fun ls hl => ?_)
          refine lv_iinc (v := nI (j + 1)) (lv' := [(4, .int (nI (j + 1))), (3, .int 1), (5, .int (((sP 0 1) - 1) - (nI j))), (0, .ref (af 0)), (1, .int i1), (2, .int i2)]) hx hb dX0_playMinute_64 hl (k := 5) rfl (nI_1 j) (by decide) rfl (fun ls hl => ?_)
          refine lv_goto (tgt := 5) hx hb dX0_playMinute_67 (by decide) ?_
          have eg : g_X0_playMinute_lp n sP i1 i2 (r + 1) j a1 sF sL = g_X0_playMinute_lp n sP i1 i2 r (j + 1) 1 ((z_7).2.1) ((z_7).2.2) := by
            rw [g_X0_playMinute_lp, ← ez_7, if_neg c_2, if_pos c_6, if_neg c_8]
          rw [eg] at hQ
          exact ih (j + 1) 1 ((z_7).2.1) ((z_7).2.2) _ _ _ (by omega) (by (try subst_vars); first | exact hI | exact k_I_ask hNs hn (by first | exact vp_in_nI (by omega) (by omega) | exact k_inrev hNm (by omega) (by omega)) hI) hP hD hS (lv_sub hl [3, 4, 5, 1, 0] rfl) hQ
theorem g_playz (n : Nat) (sP : Nat → Nat → Int32) (i1 i2 : Int32) (r j : Nat) (a1 : Int32) (sF sL : Nat → Nat → Int32) (h : a1 = 0 ∨ a1 = 1) : (g_X0_playMinute_lp n sP i1 i2 r j a1 sF sL).1 = 0 ∨ (g_X0_playMinute_lp n sP i1 i2 r j a1 sF sL).1 = 1 := by
  induction r generalizing j a1 sF sL with
  | zero => rw [g_X0_playMinute_lp]; exact h
  | succ r ih =>
    rw [g_X0_playMinute_lp]
    repeat' split
    all_goals first | exact ih _ _ _ _ h | exact ih _ _ _ _ (Or.inr rfl)
def f_X0_playMinute (n : Nat) (sP : Nat → Nat → Int32) (sF : Nat → Nat → Int32) (sL : Nat → Nat → Int32) (i1 : Int32) (i2 : Int32) : Int32 × (Nat → Nat → Int32) × (Nat → Nat → Int32) :=
  ((((g_X0_playMinute_lp n sP i1 i2 ((sP 0 1).toNatClampNeg) 0 0 sF sL)).1), (((g_X0_playMinute_lp n sP i1 i2 ((sP 0 1).toNatClampNeg) 0 0 sF sL)).2.1), (((g_X0_playMinute_lp n sP i1 i2 ((sP 0 1).toNatClampNeg) 0 0 sF sL)).2.2))
set_option maxHeartbeats 4000000 in
set_option maxRecDepth 100000 in
theorem c_X0_playMinute (l : Launch) (k : K_X) (ap : Nat → Nat) (af : Nat → Nat) (al : Nat → Nat) (n : Nat) (sP : Nat → Nat → Int32) (sF : Nat → Nat → Int32) (sL : Nat → Nat → Int32) (i1 : Int32) (i2 : Int32) (hNs : k_n (sP 0 0) 10) (hNm : k_n (sP 0 1) 10) (hn : n ≤ 100) (hI : k_I n sF sL) : k_C l yX0_playMinute wsX0_playMinute (k_rm 4 98) k [.ref (af 0), .int i1, .int i2] ((w_P k ap sP) ++ (w_F k af (ap 0) (al 0) sF) ++ (w_L k al n sL)) (k_qI k ((f_X0_playMinute n sP sF sL i1 i2).1) ((w_P k ap sP) ++ (w_F k af (ap 0) (al 0) ((f_X0_playMinute n sP sF sL i1 i2).2.1)) ++ (w_L k al n ((f_X0_playMinute n sP sF sL i1 i2).2.2)))) := by
  refine k_mk (cc := cX0_playMinute) (maxL := 6) (ret := (some .boolean)) (by decide) rfl (Nat.le_of_ble_eq_true rfl) ?_
  intro p e s m below meth c A ls C0 hP hD hS hl
  obtain ⟨hx, hb, hr, hts, hown, hlocks, hml, hA, hK⟩ := id C0
  have hown : s.vm.findClass RX0 = some m.cls := hown
  have hl : lv_has ls 6 [(0, .ref (af 0)), (1, .int i1), (2, .int i2)] := hl
  refine lv_iconst (v := 0) hx hb dX0_playMinute_0 (by decide) ?_
  refine lv_istore_n (lv' := [(3, .int 0), (0, .ref (af 0)), (1, .int i1), (2, .int i2)]) hx hb dX0_playMinute_1 rfl hl (by decide) rfl (fun ls hl => ?_)
  refine lv_iconst (v := 0) hx hb dX0_playMinute_2 (by decide) ?_
  refine lv_istore (lv' := [(4, .int 0), (3, .int 0), (0, .ref (af 0)), (1, .int i1), (2, .int i2)]) hx hb dX0_playMinute_3 hl (by decide) rfl (fun ls hl => ?_)
  have hl : lv_has ls 6 [(0, .ref (af 0)), (1, .int i1), (2, .int i2), (3, .int 0), (4, .int (nI 0))] := lv_sub hl [2, 3, 4, 1, 0] rfl
  refine lp_X0_playMinute_lp k ap af al n sP i1 i2 C0 (by first | assumption | omega) (by first | assumption | omega) (by first | assumption | omega) ((sP 0 1).toNatClampNeg) 0 0 sF sL _ _ _ (by omega) (hI) hP hD hS hl (fun H locs ls hP hD hS hl => ?_)
  obtain ⟨z_1, ez_1⟩ : ∃ z, z = g_X0_playMinute_lp n sP i1 i2 ((sP 0 1).toNatClampNeg) 0 0 sF sL := ⟨_, rfl⟩
  rw [← ez_1] at hP hD hl
  refine lv_iload_n hx hb dX0_playMinute_70 rfl (lv_at hl 3 rfl) ?_
  have ef : f_X0_playMinute n sP sF sL i1 i2 = (((z_1).1), ((z_1).2.1), ((z_1).2.2)) := by
    rw [f_X0_playMinute, ← ez_1]
  exact k_retz hx hb hr (by subst_vars; exact k_nz (g_playz _ _ _ _ _ _ _ _ _ (Or.inl rfl))) hK (by rw [ef]; exact hP) (by rw [ef]; exact hD) hS hlocks dX0_playMinute_71 (by rw [ef])
theorem k_I_play_lp {n : Nat} {sP : Nat → Nat → Int32} {i1 i2 : Int32} (hNs : k_n (sP 0 0) 10) (hNm : k_n (sP 0 1) 10) (hn : n ≤ 100) : ∀ (r j : Nat) (a1 : Int32) (sF sL : Nat → Nat → Int32), j + r = (sP 0 1).toNatClampNeg → k_I n sF sL → k_I n (g_X0_playMinute_lp n sP i1 i2 r j a1 sF sL).2.1 (g_X0_playMinute_lp n sP i1 i2 r j a1 sF sL).2.2 := by
  have hq2 := hNm.2
  intro r
  induction r with
  | zero => intro j a1 sF sL _ hI; rw [g_X0_playMinute_lp]; exact hI
  | succ r ih =>
    intro j a1 sF sL hj hI
    have v1 : vp_in (nI j) 10 := vp_in_nI (by omega) (by omega)
    have v2 : vp_in ((sP 0 1 - 1) - nI j) 10 := k_inrev hNm (by omega) (by omega)
    rw [g_X0_playMinute_lp]
    repeat' split
    all_goals first | exact ih _ _ _ _ (by omega) hI | exact ih _ _ _ _ (by omega) (k_I_ask hNs hn v1 hI) | exact ih _ _ _ _ (by omega) (k_I_ask hNs hn v2 hI)
theorem k_I_play {n : Nat} {sP sF sL : Nat → Nat → Int32} {i1 i2 : Int32} (hNs : k_n (sP 0 0) 10) (hNm : k_n (sP 0 1) 10) (hn : n ≤ 100) (hI : k_I n sF sL) : k_I n (f_X0_playMinute n sP sF sL i1 i2).2.1 (f_X0_playMinute n sP sF sL i1 i2).2.2 :=
  k_I_play_lp hNs hNm hn _ _ _ _ _ (by omega) hI
theorem in_X0_goOn_X0 : ∀ w ∈ wsX00, w ∈ wsX0_goOn := fun _ h => List.mem_cons_of_mem _ (List.mem_append_left _ (List.mem_append_left _ (List.mem_append_right _ h)))
theorem in_X0_goOn_X2 : ∀ w ∈ wsX20, w ∈ wsX0_goOn := fun _ h => List.mem_cons_of_mem _ (List.mem_append_left _ (List.mem_append_right _ h))
theorem in_X0_goOn_X1 : ∀ w ∈ wsX10, w ∈ wsX0_goOn := fun _ h => List.mem_cons_of_mem _ (List.mem_append_right _ h)
def g_X0_goOn_lp (n : Nat) (sP : Nat → Nat → Int32) (i1 : Int32) (i2 : Int32) (en : Int32) : Nat → Nat → Int32 → (Nat → Nat → Int32) → (Nat → Nat → Int32) → Int32 × (Nat → Nat → Int32) × (Nat → Nat → Int32)
  | 0, j, a1, sF, sL => (a1, sF, sL)
  | r + 1, j, a1, sF, sL => if a1 = 0 then (a1, sF, sL)
    else g_X0_goOn_lp n sP i1 i2 en r (j + 1) (((f_X0_playMinute n sP sF sL (nI j) i2)).1) (((f_X0_playMinute n sP sF sL (nI j) i2)).2.1) (((f_X0_playMinute n sP sF sL (nI j) i2)).2.2)
set_option maxHeartbeats 4000000 in
set_option maxRecDepth 100000 in
theorem lp_X0_goOn_lp {p : Program} {l : Launch} {e : Env} {s : State} {m : MethodId} {below : List Frame} {meth : Method} {c : Code} {A : Nat → Prop} {Q : State → Prop} {av : Array Value} (k : K_X) (ap : Nat → Nat) (af : Nat → Nat) (al : Nat → Nat) (n : Nat) (sP : Nat → Nat → Int32) (i1 : Int32) (i2 : Int32) (en : Int32) (C0 : k_Cx p s m meth c k cX0_goOn none wsX0_goOn RX0 6 av A) (hNs : k_n (sP 0 0) 10) (hNm : k_n (sP 0 1) 10) (hn : n ≤ 100) (hen : k_n en 240) : ∀ (r j : Nat) (a1 : Int32) (sF : Nat → Nat → Int32) (sL : Nat → Nat → Int32) (H : Heap) (locs : List Loc) (ls : Array Slot), j + r = en.toNatClampNeg → k_I n sF sL → va_P k.1 vwCl ((w_P k ap sP) ++ (w_F k af (ap 0) (al 0) sF) ++ (w_L k al n sL)) H → va_D A ((w_P k ap sP) ++ (w_F k af (ap 0) (al 0) sF) ++ (w_L k al n sL)) → va_S A s.heap H locs → lv_has ls 6 [(0, .ref (af 0)), (1, .int i1), (2, .int i2), (3, .int en), (4, .int a1), (5, .int (nI j))] → (∀ (H : Heap) (locs : List Loc) (ls : Array Slot), va_P k.1 vwCl ((w_P k ap sP) ++ (w_F k af (ap 0) (al 0) ((g_X0_goOn_lp n sP i1 i2 en r j a1 sF sL).2.1)) ++ (w_L k al n ((g_X0_goOn_lp n sP i1 i2 en r j a1 sF sL).2.2))) H → va_D A ((w_P k ap sP) ++ (w_F k af (ap 0) (al 0) ((g_X0_goOn_lp n sP i1 i2 en r j a1 sF sL).2.1)) ++ (w_L k al n ((g_X0_goOn_lp n sP i1 i2 en r j a1 sF sL).2.2))) → va_S A s.heap H locs → lv_has ls 6 [(0, .ref (af 0)), (1, .int i1), (2, .int i2), (3, .int en), (4, .int ((g_X0_goOn_lp n sP i1 i2 en r j a1 sF sL).1))] → W p l e (k_rm 5 123) s m av below meth c H locs 0 0 Q (F0 m 48 ls [])) → W p l e (k_rm 5 123) s m av below meth c H locs 0 0 Q (F0 m 22 ls []) := by
  obtain ⟨hx, hb, hr, hts, hown, hlocks, hml, hA, hK⟩ := id C0
  have hq3 := hen.2
  intro r
  induction r with
  | zero =>
    intro j a1 sF sL H locs ls hj hI hP hD hS hl hQ
    refine lv_iload hx hb dX0_goOn_22 (lv_at hl 5 rfl) ?_
    refine lv_iload_n hx hb dX0_goOn_24 rfl (lv_at hl 3 rfl) ?_
    refine lv_icmp_ge (tgt := 48) hx hb dX0_goOn_25 (by decide) (fun c_1 => ?_) (fun c_1 => ?_)
    rotate_left
    · exact absurd (hen.ge (by omega)) c_1
    have eg : g_X0_goOn_lp n sP i1 i2 en 0 j a1 sF sL = (a1, sF, sL) := by
      rw [g_X0_goOn_lp]
    rw [eg] at hQ
    exact hQ _ _ _ hP hD hS (lv_sub hl [0, 1, 2, 3, 4] rfl)
  | succ r ih =>
    intro j a1 sF sL H locs ls hj hI hP hD hS hl hQ
    refine lv_iload hx hb dX0_goOn_22 (lv_at hl 5 rfl) ?_
    refine lv_iload_n hx hb dX0_goOn_24 rfl (lv_at hl 3 rfl) ?_
    refine lv_icmp_ge (tgt := 48) hx hb dX0_goOn_25 (by decide) (fun c_1 => ?_) (fun c_1 => ?_)
    · exact absurd c_1 (hen.nge (by omega))
    refine lv_iload hx hb dX0_goOn_28 (lv_at hl 4 rfl) ?_
    refine lv_if_eq (tgt := 48) hx hb dX0_goOn_30 (by decide) (fun c_2 => ?_) (fun c_2 => ?_)
    ·
      have eg : g_X0_goOn_lp n sP i1 i2 en (r + 1) j a1 sF sL = (a1, sF, sL) := by
        rw [g_X0_goOn_lp, if_pos c_2]
      rw [eg] at hQ
      exact hQ _ _ _ hP hD hS (lv_sub hl [0, 1, 2, 3, 4] rfl)
    ·
      refine lv_aload_n hx hb dX0_goOn_33 rfl (lv_at hl 0 rfl) ?_
      refine lv_iload hx hb dX0_goOn_34 (lv_at hl 5 rfl) ?_
      refine lv_iload_n hx hb dX0_goOn_36 rfl (lv_at hl 2 rfl) ?_
      refine k_Vi (wr := ([] : va_W)) (ws' := (w_P k ap sP) ++ (w_F k af (ap 0) (al 0) ((f_X0_playMinute n sP sF sL (nI j) i2).2.1)) ++ (w_L k al n ((f_X0_playMinute n sP sF sL (nI j) i2).2.2))) (Rv := ((f_X0_playMinute n sP sF sL (nI j) i2).1)) (rest := []) ⟨hx, hb, hml, hown, hts⟩ hK hA hP hD hS (c_X0_playMinute l k ap af al n sP sF sL (nI j) i2 (hNs) (hNm) (hn) (hI)) (cwV 2 hts gX0_goOn_X0_playMinute rfl rfl rfl (by decide +kernel) ⟨Nat.le_of_ble_eq_true rfl, Nat.le_of_ble_eq_true rfl⟩) (va_recv hK hP (ci := 0) (q0 := 18) rfl rfl) rfl hl.1 rfl (Nat.le_of_ble_eq_true rfl) dX0_goOn_37 (Nat.zero_le _) (Nat.zero_le _) [0, 1, 2, 3, 4, 5, 6, 7, 8, 9, 10, 11, 12, 13, 14, 15, 16, 17, 18, 19, 20, 21, 22, 23, 24, 25] [] [0, 1, 2, 3, 4, 5, 6, 7, 8, 9, 10, 11, 12, 13, 14, 15, 16, 17, 18, 19, 20, 21, 22, 23, 24, 25] rfl rfl rfl (by decide) rfl rfl rfl (fun H locs hP hD hS => ?_)
      obtain ⟨z_3, ez_3⟩ : ∃ z, z = f_X0_playMinute n sP sF sL (nI j) i2 := ⟨_, rfl⟩
      rw [← ez_3] at hP hD ⊢
      refine lv_istore (lv' := [(4, .int ((z_3).1)), (0, .ref (af 0)), (1, .int i1), (2, .int i2), (3, .int en), (5, .int (nI j))]) hx hb dX0_goOn_40 hl (by decide) rfl (fun ls hl => ?_)
      refine lv_iinc (v := nI (j + 1)) (lv' := [(5, .int (nI (j + 1))), (4, .int ((z_3).1)), (0, .ref (af 0)), (1, .int i1), (2, .int i2), (3, .int en)]) hx hb dX0_goOn_42 hl (k := 5) rfl (nI_1 j) (by decide) rfl (fun ls hl => ?_)
      refine lv_goto (tgt := 22) hx hb dX0_goOn_45 (by decide) ?_
      have eg : g_X0_goOn_lp n sP i1 i2 en (r + 1) j a1 sF sL = g_X0_goOn_lp n sP i1 i2 en r (j + 1) ((z_3).1) ((z_3).2.1) ((z_3).2.2) := by
        rw [g_X0_goOn_lp, ← ez_3, if_neg c_2]
      rw [eg] at hQ
      exact ih (j + 1) ((z_3).1) ((z_3).2.1) ((z_3).2.2) _ _ _ (by omega) (by subst_vars; exact k_I_play hNs hNm hn hI) hP hD hS (lv_sub hl [2, 3, 4, 5, 1, 0] rfl) hQ
def f_X0_goOn (n : Nat) (sP : Nat → Nat → Int32) (sF : Nat → Nat → Int32) (sL : Nat → Nat → Int32) (i1 : Int32) (i2 : Int32) : (Nat → Nat → Int32) × (Nat → Nat → Int32) :=
  (k_st (((g_X0_goOn_lp n sP i1 i2 (if 240 < ((sF 0 0) + i1) then 240 else ((sF 0 0) + i1)) ((if 240 < ((sF 0 0) + i1) then 240 else ((sF 0 0) + i1)).toNatClampNeg - (sF 0 0).toNatClampNeg) ((sF 0 0).toNatClampNeg) 1 sF sL)).2.1) 0 (k_st ((((g_X0_goOn_lp n sP i1 i2 (if 240 < ((sF 0 0) + i1) then 240 else ((sF 0 0) + i1)) ((if 240 < ((sF 0 0) + i1) then 240 else ((sF 0 0) + i1)).toNatClampNeg - (sF 0 0).toNatClampNeg) ((sF 0 0).toNatClampNeg) 1 sF sL)).2.1) 0) 0 (if 240 < ((sF 0 0) + i1) then 240 else ((sF 0 0) + i1))), (((g_X0_goOn_lp n sP i1 i2 (if 240 < ((sF 0 0) + i1) then 240 else ((sF 0 0) + i1)) ((if 240 < ((sF 0 0) + i1) then 240 else ((sF 0 0) + i1)).toNatClampNeg - (sF 0 0).toNatClampNeg) ((sF 0 0).toNatClampNeg) 1 sF sL)).2.2))
set_option maxHeartbeats 4000000 in
set_option maxRecDepth 100000 in
theorem c_X0_goOn (l : Launch) (k : K_X) (ap : Nat → Nat) (af : Nat → Nat) (al : Nat → Nat) (n : Nat) (sP : Nat → Nat → Int32) (sF : Nat → Nat → Int32) (sL : Nat → Nat → Int32) (i1 : Int32) (i2 : Int32) (hNs : k_n (sP 0 0) 10) (hNm : k_n (sP 0 1) 10) (hn : n ≤ 100) (hI : k_I n sF sL) (hF0 : k_n (sF 0 0) 240) (hi : k_n i1 240) : k_C l yX0_goOn wsX0_goOn (k_rm 5 123) k [.ref (af 0), .int i1, .int i2] ((w_P k ap sP) ++ (w_F k af (ap 0) (al 0) sF) ++ (w_L k al n sL)) (k_qV k ((w_P k ap sP) ++ (w_F k af (ap 0) (al 0) ((f_X0_goOn n sP sF sL i1 i2).1)) ++ (w_L k al n ((f_X0_goOn n sP sF sL i1 i2).2)))) := by
  refine k_mk (cc := cX0_goOn) (maxL := 6) (ret := none) (by decide) rfl (Nat.le_of_ble_eq_true rfl) ?_
  intro p e s m below meth c A ls C0 hP hD hS hl
  obtain ⟨hx, hb, hr, hts, hown, hlocks, hml, hA, hK⟩ := id C0
  have hown : s.vm.findClass RX0 = some m.cls := hown
  have hl : lv_has ls 6 [(0, .ref (af 0)), (1, .int i1), (2, .int i2)] := hl
  refine lv_aload_n hx hb dX0_goOn_0 rfl (lv_at hl 0 rfl) ?_
  refine va_get (D := k.1) (ci := 0) (v := .int (sF 0 0)) (C := RX0) (T := TX0) (N := 8) hx hb hts in_X0_goOn_X0 hown hK hP 18 rfl rfl 2 (by decide) (k_w hts 1 rfl) (fun _ h9 => h9) rfl dX0_goOn_1 ?_
  refine lv_iload_n hx hb dX0_goOn_4 rfl (lv_at hl 1 rfl) ?_
  refine lv_iadd hx hb dX0_goOn_5 ?_
  refine lv_sipush (v := 240) hx hb dX0_goOn_6 (by decide) ?_
  refine va_mmin hx hb (hml.trans hl.1.symm) hown (k_w hts 2 rfl) (k_w hts 3 rfl) (k_w hts 4 rfl) (k_w hts 5 rfl) (Nat.le_of_ble_eq_true rfl) (Nat.le_of_ble_eq_true rfl) (Nat.zero_le _) (Nat.zero_le _) dX0_goOn_9 ?_
  refine lv_istore_n (lv' := [(3, .int (if 240 < ((sF 0 0) + i1) then 240 else ((sF 0 0) + i1))), (0, .ref (af 0)), (1, .int i1), (2, .int i2)]) hx hb dX0_goOn_12 rfl hl (by decide) rfl (fun ls hl => ?_)
  refine lv_iconst (v := 1) hx hb dX0_goOn_13 (by decide) ?_
  refine lv_istore (lv' := [(4, .int 1), (3, .int (if 240 < ((sF 0 0) + i1) then 240 else ((sF 0 0) + i1))), (0, .ref (af 0)), (1, .int i1), (2, .int i2)]) hx hb dX0_goOn_14 hl (by decide) rfl (fun ls hl => ?_)
  refine lv_aload_n hx hb dX0_goOn_16 rfl (lv_at hl 2 rfl) ?_
  refine va_get (D := k.1) (ci := 0) (v := .int (sF 0 0)) (C := RX0) (T := TX0) (N := 8) hx hb hts in_X0_goOn_X0 hown hK hP 18 rfl rfl 2 (by decide) (k_w hts 1 rfl) (fun _ h9 => h9) rfl dX0_goOn_17 ?_
  refine lv_istore (lv' := [(5, .int (sF 0 0)), (4, .int 1), (3, .int (if 240 < ((sF 0 0) + i1) then 240 else ((sF 0 0) + i1))), (0, .ref (af 0)), (1, .int i1), (2, .int i2)]) hx hb dX0_goOn_20 hl (by decide) rfl (fun ls hl => ?_)
  have hl : lv_has ls 6 [(0, .ref (af 0)), (1, .int i1), (2, .int i2), (3, .int (if 240 < ((sF 0 0) + i1) then 240 else ((sF 0 0) + i1))), (4, .int 1), (5, .int (nI ((sF 0 0).toNatClampNeg)))] := by rw [← hF0.1]; exact lv_sub hl [3, 4, 5, 2, 1, 0] rfl
  refine lp_X0_goOn_lp k ap af al n sP i1 i2 (if 240 < ((sF 0 0) + i1) then 240 else ((sF 0 0) + i1)) C0 (hNs) (hNm) (hn) ((k_end hF0 hi).1) ((if 240 < ((sF 0 0) + i1) then 240 else ((sF 0 0) + i1)).toNatClampNeg - (sF 0 0).toNatClampNeg) ((sF 0 0).toNatClampNeg) 1 sF sL _ _ _ (by have := (k_end hF0 hi).2; omega) (hI) hP hD hS hl (fun H locs ls hP hD hS hl => ?_)
  obtain ⟨z_1, ez_1⟩ : ∃ z, z = g_X0_goOn_lp n sP i1 i2 (if 240 < ((sF 0 0) + i1) then 240 else ((sF 0 0) + i1)) ((if 240 < ((sF 0 0) + i1) then 240 else ((sF 0 0) + i1)).toNatClampNeg - (sF 0 0).toNatClampNeg) ((sF 0 0).toNatClampNeg) 1 sF sL := ⟨_, rfl⟩
  rw [← ez_1] at hP hD hl
  refine lv_aload_n hx hb dX0_goOn_48 rfl (lv_at hl 0 rfl) ?_
  refine lv_iload_n hx hb dX0_goOn_49 rfl (lv_at hl 3 rfl) ?_
  refine va_put (D := k.1) (ci := 0) (v := .int (if 240 < ((sF 0 0) + i1) then 240 else ((sF 0 0) + i1))) (ty := .int) (C := RX0) (T := TX0) (N := 8) hx hb hts in_X0_goOn_X0 tyX0 tyX0_ok nmX0 hown hK hP hD hS 18 rfl rfl 2 (by decide) (k_w hts 1 rfl) (fun _ h9 => h9) rfl (by decide +kernel) rfl rfl (Nat.le_of_ble_eq_true rfl) dX0_goOn_50 (fun H locs hP hD hS => ?_)
  have hP := k_cP (k_sl (Nat.le_of_ble_eq_true rfl) (k_sr (w_F_s0 k af (ap 0) (al 0) ((z_1).2.1) (if 240 < ((sF 0 0) + i1) then 240 else ((sF 0 0) + i1))))) hP
  have hD := k_cD (k_sl (Nat.le_of_ble_eq_true rfl) (k_sr (w_F_s0 k af (ap 0) (al 0) ((z_1).2.1) (if 240 < ((sF 0 0) + i1) then 240 else ((sF 0 0) + i1))))) hD
  have ef : f_X0_goOn n sP sF sL i1 i2 = (k_st ((z_1).2.1) 0 (k_st (((z_1).2.1) 0) 0 (if 240 < ((sF 0 0) + i1) then 240 else ((sF 0 0) + i1))), ((z_1).2.2)) := by
    rw [f_X0_goOn, ← ez_1]
  exact k_retv hx hb hr hK (by rw [ef]; exact hP) (by rw [ef]; exact hD) hS hlocks dX0_goOn_53
