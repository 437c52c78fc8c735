set_option maxHeartbeats 4000000 in
set_option maxRecDepth 100000 in
theorem lawc_sick {p : Program} {l : Launch} {e : Env} {s : State} {m : MethodId} {below : List Frame} {meth : Method} {c : Code} {k : K_X} {b L : Nat} {xs : Nat → Int32} (hL : L ≤ 2048) (C0 : lw_At p s m meth c b L xs) (hK : k_K k s) {ax : Nat} {ap af al ag ah ay am : Nat → Nat} {i : Nat} (hi : i + 4 ≤ L) (sP sF sL sG sH sY : Nat → Nat → Int32) (sJ : Nat → Int64) (tx : Int32) (sM : Nat → Nat → Int32) (hR : REL sP sF sL sY sJ tx sM) (H : Heap) (locs : List Loc) (ls : Array Slot) (hP : va_P k.1 vwCl (lw_w k ax ap af al ag ah ay am sP sF sL sG sH sY sJ tx sM) H) (hD : va_D (fun q : Nat => s.heap.size ≤ q) (lw_w k ax ap af al ag ah ay am sP sF sL sG sH sY sJ tx sM)) (hS : va_S (fun q : Nat => s.heap.size ≤ q) s.heap H locs) (hl : lv_has ls 4 [(0, .ref b), (1, .ref ax), (2, .ref (am 0)), (3, .int (nI i))]) (hk : ∀ (sP sF sL sG sH sY : Nat → Nat → Int32) (sJ : Nat → Int64) (tx : Int32) (sM : Nat → Nat → Int32) (H : Heap) (locs : List Loc), REL sP sF sL sY sJ tx sM → va_P k.1 vwCl (lw_w k ax ap af al ag ah ay am sP sF sL sG sH sY sJ tx sM) H → va_D (fun q : Nat => s.heap.size ≤ q) (lw_w k ax ap af al ag ah ay am sP sF sL sG sH sY sJ tx sM) → va_S (fun q : Nat => s.heap.size ≤ q) s.heap H locs → W p l e room_1 s m #[Value.ref b] below meth c H locs 600000 7302250 (lw_Z below #[Value.ref b] s) (F0 m 936 ls [])) : W p l e room_1 s m #[Value.ref b] below meth c H locs 600000 7302250 (lw_Z below #[Value.ref b] s) (F0 m 712 ls []) := by
  obtain ⟨hx, hb, hr, hml, hown, hts0, hX, hbl, hlocks, hgv⟩ := C0
  have hts := fun w h => hts0 w (wsL_law_in w h)
  have hown : s.vm.findClass RL = some m.cls := hown
  have hA : ∀ q : Nat, s.heap.size ≤ q → (fun q : Nat => s.heap.size ≤ q) q := fun _ h => h
  have hbA : ¬ (fun q : Nat => s.heap.size ≤ q) b := Nat.not_le.mpr hbl
  refine lv_aload_n hx hb dL_law_712 rfl (lv_at hl 1 rfl) ?_
  refine lv_aload_n hx hb dL_law_713 rfl (lv_at hl 0 rfl) ?_
  refine lv_iload_n hx hb dL_law_714 rfl (lv_at hl 3 rfl) ?_
  refine lv_iconst (v := 1) hx hb dL_law_715 (by decide) ?_
  refine lv_iadd hx hb dL_law_716 ?_
  refine va_sld hx hb hX hbl hbA hS (k_sc 1 (by decide) hi hL (by decide)) dL_law_717 ?_
  refine lv_aload_n hx hb dL_law_718 rfl (lv_at hl 0 rfl) ?_
  refine lv_iload_n hx hb dL_law_719 rfl (lv_at hl 3 rfl) ?_
  refine lv_iconst (v := 2) hx hb dL_law_720 (by decide) ?_
  refine lv_iadd hx hb dL_law_721 ?_
  refine va_sld hx hb hX hbl hbA hS (k_sc 2 (by decide) hi hL (by decide)) dL_law_722 ?_
  refine k_Vi (wr := (w_L k al 100 sL) ++ (w_F k ag (ap 0) (ah 0) sG) ++ (w_L k ah 0 sH) ++ (w_M k am sM)) (ws' := lw_w k ax ap af al ag ah ay am sP sF sL sG sH sY ((f_X4_sick tx sP sF sY sJ (xs (nI i + 1).toNatClampNeg) (xs (nI i + 2).toNatClampNeg)).2) tx sM) (Rv := ((f_X4_sick tx sP sF sY sJ (xs (nI i + 1).toNatClampNeg) (xs (nI i + 2).toNatClampNeg)).1)) (rest := []) ⟨hx, hb, hml, hown, hts⟩ hK hA hP hD hS (c_X4_sick l k ax ap af ay (al 0) (ag 0) tx sP sF sY sJ (xs (nI i + 1).toNatClampNeg) (xs (nI i + 2).toNatClampNeg) (rel_ns hR) (rel_dy hR)) (cwV 2 hts gL_law_X4_sick rfl rfl rfl (by decide +kernel) ⟨Nat.le_of_ble_eq_true rfl, Nat.le_of_ble_eq_true rfl⟩) (va_recv hK hP (ci := 4) (q0 := 0) rfl rfl) rfl hl.1 rfl (Nat.le_of_ble_eq_true rfl) dL_law_723 (Nat.le_refl _) (Nat.le_refl _) [0, 1, 2, 3, 4, 5, 6, 7, 8, 9, 10, 11, 12, 13, 14, 15, 16, 17, 18, 19, 20, 21, 22, 23, 24, 35, 36, 37, 38, 39] [25, 26, 27, 28, 29, 30, 31, 32, 33, 34, 40, 41, 42, 43, 44, 45, 46, 47, 48, 49, 50, 51, 52, 53, 54, 55, 56, 57, 58, 59, 60, 61] [32, 33, 34, 35, 36, 37, 38, 39, 40, 41, 42, 43, 44, 45, 46, 47, 48, 49, 50, 51, 52, 53, 54, 55, 56, 0, 1, 2, 3, 4, 5, 6, 7, 8, 9, 57, 58, 59, 60, 61, 10, 11, 12, 13, 14, 15, 16, 17, 18, 19, 20, 21, 22, 23, 24, 25, 26, 27, 28, 29, 30, 31] rfl rfl rfl (by decide) rfl rfl rfl (fun H locs hP hD hS => ?_)
  refine lv_aload_n hx hb dL_law_726 rfl (lv_at hl 2 rfl) ?_
  refine lv_aload_n hx hb dL_law_727 rfl (lv_at hl 0 rfl) ?_
  refine lv_iload_n hx hb dL_law_728 rfl (lv_at hl 3 rfl) ?_
  refine lv_iconst (v := 1) hx hb dL_law_729 (by decide) ?_
  refine lv_iadd hx hb dL_law_730 ?_
  refine va_sld hx hb hX hbl hbA hS (k_sc 1 (by decide) hi hL (by decide)) dL_law_731 ?_
  refine lv_aload_n hx hb dL_law_732 rfl (lv_at hl 0 rfl) ?_
  refine lv_iload_n hx hb dL_law_733 rfl (lv_at hl 3 rfl) ?_
  refine lv_iconst (v := 2) hx hb dL_law_734 (by decide) ?_
  refine lv_iadd hx hb dL_law_735 ?_
  refine va_sld hx hb hX hbl hbA hS (k_sc 2 (by decide) hi hL (by decide)) dL_law_736 ?_
  refine k_Vi (wr := (w_X ax (ap 0) (af 0) (ag 0) (ay 0) tx) ++ (w_P k ap sP) ++ (w_F k af (ap 0) (al 0) sF) ++ (w_L k al 100 sL) ++ (w_F k ag (ap 0) (ah 0) sG) ++ (w_L k ah 0 sH) ++ (w_Y k ay (af 0) sY ((f_X4_sick tx sP sF sY sJ (xs (nI i + 1).toNatClampNeg) (xs (nI i + 2).toNatClampNeg)).2))) (ws' := lw_w k ax ap af al ag ah ay am sP sF sL sG sH sY ((f_X4_sick tx sP sF sY sJ (xs (nI i + 1).toNatClampNeg) (xs (nI i + 2).toNatClampNeg)).2) tx ((f_X5_sick sM (xs (nI i + 1).toNatClampNeg) (xs (nI i + 2).toNatClampNeg)).2)) (Rv := ((f_X5_sick sM (xs (nI i + 1).toNatClampNeg) (xs (nI i + 2).toNatClampNeg)).1)) (rest := [.int ((f_X4_sick tx sP sF sY sJ (xs (nI i + 1).toNatClampNeg) (xs (nI i + 2).toNatClampNeg)).1)]) ⟨hx, hb, hml, hown, hts⟩ hK hA hP hD hS (c_X5_sick l k am sM (xs (nI i + 1).toNatClampNeg) (xs (nI i + 2).toNatClampNeg) (m_T hR) (m_ns hR)) (cwV 2 hts gL_law_X5_sick rfl rfl rfl (by decide +kernel) ⟨Nat.le_of_ble_eq_true rfl, Nat.le_of_ble_eq_true rfl⟩) (va_recv hK hP (ci := 5) (q0 := 40) rfl rfl) rfl hl.1 rfl (Nat.le_of_ble_eq_true rfl) dL_law_737 (Nat.le_refl _) (Nat.le_refl _) [40, 41, 42, 43, 44, 45, 46, 47, 48, 49, 50, 51, 52, 53, 54, 55, 56, 57, 58, 59, 60, 61] [0, 1, 2, 3, 4, 5, 6, 7, 8, 9, 10, 11, 12, 13, 14, 15, 16, 17, 18, 19, 20, 21, 22, 23, 24, 25, 26, 27, 28, 29, 30, 31, 32, 33, 34, 35, 36, 37, 38, 39] [0, 1, 2, 3, 4, 5, 6, 7, 8, 9, 10, 11, 12, 13, 14, 15, 16, 17, 18, 19, 20, 21, 22, 23, 24, 25, 26, 27, 28, 29, 30, 31, 32, 33, 34, 35, 36, 37, 38, 39, 40, 41, 42, 43, 44, 45, 46, 47, 48, 49, 50, 51, 52, 53, 54, 55, 56, 57, 58, 59, 60, 61] rfl rfl rfl (by decide) rfl rfl rfl (fun H locs hP hD hS => ?_)
  refine lv_icmp_eq (tgt := 936) hx hb dL_law_740 (by decide) (fun c2 => ?_) (fun c2 => ?_)
  · exact hk sP sF sL sG sH sY ((f_X4_sick tx sP sF sY sJ (xs (nI i + 1).toNatClampNeg) (xs (nI i + 2).toNatClampNeg)).2) tx ((f_X5_sick sM (xs (nI i + 1).toNatClampNeg) (xs (nI i + 2).toNatClampNeg)).2) H locs ((sim_sick hR (xs (nI i + 1).toNatClampNeg) (xs (nI i + 2).toNatClampNeg)).2) hP hD hS
  · exact absurd (sim_sick hR (xs (nI i + 1).toNatClampNeg) (xs (nI i + 2).toNatClampNeg)).1 c2
set_option maxHeartbeats 4000000 in
set_option maxRecDepth 100000 in
theorem lawc_warn {p : Program} {l : Launch} {e : Env} {s : State} {m : MethodId} {below : List Frame} {meth : Method} {c : Code} {k : K_X} {b L : Nat} {xs : Nat → Int32} (hL : L ≤ 2048) (C0 : lw_At p s m meth c b L xs) (hK : k_K k s) {ax : Nat} {ap af al ag ah ay am : Nat → Nat} {i : Nat} (hi : i + 4 ≤ L) (sP sF sL sG sH sY : Nat → Nat → Int32) (sJ : Nat → Int64) (tx : Int32) (sM : Nat → Nat → Int32) (hR : REL sP sF sL sY sJ tx sM) (H : Heap) (locs : List Loc) (ls : Array Slot) (hP : va_P k.1 vwCl (lw_w k ax ap af al ag ah ay am sP sF sL sG sH sY sJ tx sM) H) (hD : va_D (fun q : Nat => s.heap.size ≤ q) (lw_w k ax ap af al ag ah ay am sP sF sL sG sH sY sJ tx sM)) (hS : va_S (fun q : Nat => s.heap.size ≤ q) s.heap H locs) (hl : lv_has ls 4 [(0, .ref b), (1, .ref ax), (2, .ref (am 0)), (3, .int (nI i))]) (hk : ∀ (sP sF sL sG sH sY : Nat → Nat → Int32) (sJ : Nat → Int64) (tx : Int32) (sM : Nat → Nat → Int32) (H : Heap) (locs : List Loc), REL sP sF sL sY sJ tx sM → va_P k.1 vwCl (lw_w k ax ap af al ag ah ay am sP sF sL sG sH sY sJ tx sM) H → va_D (fun q : Nat => s.heap.size ≤ q) (lw_w k ax ap af al ag ah ay am sP sF sL sG sH sY sJ tx sM) → va_S (fun q : Nat => s.heap.size ≤ q) s.heap H locs → W p l e room_1 s m #[Value.ref b] below meth c H locs 600000 7302250 (lw_Z below #[Value.ref b] s) (F0 m 936 ls [])) : W p l e room_1 s m #[Value.ref b] below meth c H locs 600000 7302250 (lw_Z below #[Value.ref b] s) (F0 m 745 ls []) := by
  obtain ⟨hx, hb, hr, hml, hown, hts0, hX, hbl, hlocks, hgv⟩ := C0
  have hts := fun w h => hts0 w (wsL_law_in w h)
  have hown : s.vm.findClass RL = some m.cls := hown
  have hA : ∀ q : Nat, s.heap.size ≤ q → (fun q : Nat => s.heap.size ≤ q) q := fun _ h => h
  have hbA : ¬ (fun q : Nat => s.heap.size ≤ q) b := Nat.not_le.mpr hbl
  refine lv_aload_n hx hb dL_law_745 rfl (lv_at hl 1 rfl) ?_
  refine lv_aload_n hx hb dL_law_746 rfl (lv_at hl 0 rfl) ?_
  refine lv_iload_n hx hb dL_law_747 rfl (lv_at hl 3 rfl) ?_
  refine lv_iconst (v := 1) hx hb dL_law_748 (by decide) ?_
  refine lv_iadd hx hb dL_law_749 ?_
  refine va_sld hx hb hX hbl hbA hS (k_sc 1 (by decide) hi hL (by decide)) dL_law_750 ?_
  refine k_Vi (wr := (w_L k al 100 sL) ++ (w_F k ag (ap 0) (ah 0) sG) ++ (w_L k ah 0 sH) ++ (w_M k am sM)) (ws' := lw_w k ax ap af al ag ah ay am sP sF sL sG sH ((f_X4_warn tx sP sF sY sJ (xs (nI i + 1).toNatClampNeg)).2) sJ tx sM) (Rv := ((f_X4_warn tx sP sF sY sJ (xs (nI i + 1).toNatClampNeg)).1)) (rest := []) ⟨hx, hb, hml, hown, hts⟩ hK hA hP hD hS (c_X4_warn l k ax ap af ay (al 0) (ag 0) tx sP sF sY sJ (xs (nI i + 1).toNatClampNeg) (rel_ns hR)) (cwV 1 hts gL_law_X4_warn rfl rfl rfl (by decide +kernel) ⟨Nat.le_of_ble_eq_true rfl, Nat.le_of_ble_eq_true rfl⟩) (va_recv hK hP (ci := 4) (q0 := 0) rfl rfl) rfl hl.1 rfl (Nat.le_of_ble_eq_true rfl) dL_law_751 (Nat.le_refl _) (Nat.le_refl _) [0, 1, 2, 3, 4, 5, 6, 7, 8, 9, 10, 11, 12, 13, 14, 15, 16, 17, 18, 19, 20, 21, 22, 23, 24, 35, 36, 37, 38, 39] [25, 26, 27, 28, 29, 30, 31, 32, 33, 34, 40, 41, 42, 43, 44, 45, 46, 47, 48, 49, 50, 51, 52, 53, 54, 55, 56, 57, 58, 59, 60, 61] [32, 33, 34, 35, 36, 37, 38, 39, 40, 41, 42, 43, 44, 45, 46, 47, 48, 49, 50, 51, 52, 53, 54, 55, 56, 0, 1, 2, 3, 4, 5, 6, 7, 8, 9, 57, 58, 59, 60, 61, 10, 11, 12, 13, 14, 15, 16, 17, 18, 19, 20, 21, 22, 23, 24, 25, 26, 27, 28, 29, 30, 31] rfl rfl rfl (by decide) rfl rfl rfl (fun H locs hP hD hS => ?_)
  refine lv_aload_n hx hb dL_law_754 rfl (lv_at hl 2 rfl) ?_
  refine lv_aload_n hx hb dL_law_755 rfl (lv_at hl 0 rfl) ?_
  refine lv_iload_n hx hb dL_law_756 rfl (lv_at hl 3 rfl) ?_
  refine lv_iconst (v := 1) hx hb dL_law_757 (by decide) ?_
  refine lv_iadd hx hb dL_law_758 ?_
  refine va_sld hx hb hX hbl hbA hS (k_sc 1 (by decide) hi hL (by decide)) dL_law_759 ?_
  refine k_Vi (wr := (w_X ax (ap 0) (af 0) (ag 0) (ay 0) tx) ++ (w_P k ap sP) ++ (w_F k af (ap 0) (al 0) sF) ++ (w_L k al 100 sL) ++ (w_F k ag (ap 0) (ah 0) sG) ++ (w_L k ah 0 sH) ++ (w_Y k ay (af 0) ((f_X4_warn tx sP sF sY sJ (xs (nI i + 1).toNatClampNeg)).2) sJ)) (ws' := lw_w k ax ap af al ag ah ay am sP sF sL sG sH ((f_X4_warn tx sP sF sY sJ (xs (nI i + 1).toNatClampNeg)).2) sJ tx ((f_X5_warn sM (xs (nI i + 1).toNatClampNeg)).2)) (Rv := ((f_X5_warn sM (xs (nI i + 1).toNatClampNeg)).1)) (rest := [.int ((f_X4_warn tx sP sF sY sJ (xs (nI i + 1).toNatClampNeg)).1)]) ⟨hx, hb, hml, hown, hts⟩ hK hA hP hD hS (c_X5_warn l k am sM (xs (nI i + 1).toNatClampNeg) (m_T hR) (m_ns hR)) (cwV 1 hts gL_law_X5_warn rfl rfl rfl (by decide +kernel) ⟨Nat.le_of_ble_eq_true rfl, Nat.le_of_ble_eq_true rfl⟩) (va_recv hK hP (ci := 5) (q0 := 40) rfl rfl) rfl hl.1 rfl (Nat.le_of_ble_eq_true rfl) dL_law_760 (Nat.le_refl _) (Nat.le_refl _) [40, 41, 42, 43, 44, 45, 46, 47, 48, 49, 50, 51, 52, 53, 54, 55, 56, 57, 58, 59, 60, 61] [0, 1, 2, 3, 4, 5, 6, 7, 8, 9, 10, 11, 12, 13, 14, 15, 16, 17, 18, 19, 20, 21, 22, 23, 24, 25, 26, 27, 28, 29, 30, 31, 32, 33, 34, 35, 36, 37, 38, 39] [0, 1, 2, 3, 4, 5, 6, 7, 8, 9, 10, 11, 12, 13, 14, 15, 16, 17, 18, 19, 20, 21, 22, 23, 24, 25, 26, 27, 28, 29, 30, 31, 32, 33, 34, 35, 36, 37, 38, 39, 40, 41, 42, 43, 44, 45, 46, 47, 48, 49, 50, 51, 52, 53, 54, 55, 56, 57, 58, 59, 60, 61] rfl rfl rfl (by decide) rfl rfl rfl (fun H locs hP hD hS => ?_)
  refine lv_icmp_eq (tgt := 936) hx hb dL_law_763 (by decide) (fun c2 => ?_) (fun c2 => ?_)
  · exact hk sP sF sL sG sH ((f_X4_warn tx sP sF sY sJ (xs (nI i + 1).toNatClampNeg)).2) sJ tx ((f_X5_warn sM (xs (nI i + 1).toNatClampNeg)).2) H locs ((sim_warn hR (xs (nI i + 1).toNatClampNeg)).2) hP hD hS
  · exact absurd (sim_warn hR (xs (nI i + 1).toNatClampNeg)).1 c2
set_option maxHeartbeats 4000000 in
set_option maxRecDepth 100000 in
theorem lawc_run {p : Program} {l : Launch} {e : Env} {s : State} {m : MethodId} {below : List Frame} {meth : Method} {c : Code} {k : K_X} {b L : Nat} {xs : Nat → Int32} (hL : L ≤ 2048) (C0 : lw_At p s m meth c b L xs) (hK : k_K k s) {ax : Nat} {ap af al ag ah ay am : Nat → Nat} {i : Nat} (hi : i + 4 ≤ L) (sP sF sL sG sH sY : Nat → Nat → Int32) (sJ : Nat → Int64) (tx : Int32) (sM : Nat → Nat → Int32) (hR : REL sP sF sL sY sJ tx sM) (H : Heap) (locs : List Loc) (ls : Array Slot) (hP : va_P k.1 vwCl (lw_w k ax ap af al ag ah ay am sP sF sL sG sH sY sJ tx sM) H) (hD : va_D (fun q : Nat => s.heap.size ≤ q) (lw_w k ax ap af al ag ah ay am sP sF sL sG sH sY sJ tx sM)) (hS : va_S (fun q : Nat => s.heap.size ≤ q) s.heap H locs) (hl : lv_has ls 4 [(0, .ref b), (1, .ref ax), (2, .ref (am 0)), (3, .int (nI i))]) (hk : ∀ (sP sF sL sG sH sY : Nat → Nat → Int32) (sJ : Nat → Int64) (tx : Int32) (sM : Nat → Nat → Int32) (H : Heap) (locs : List Loc), REL sP sF sL sY sJ tx sM → va_P k.1 vwCl (lw_w k ax ap af al ag ah ay am sP sF sL sG sH sY sJ tx sM) H → va_D (fun q : Nat => s.heap.size ≤ q) (lw_w k ax ap af al ag ah ay am sP sF sL sG sH sY sJ tx sM) → va_S (fun q : Nat => s.heap.size ≤ q) s.heap H locs → W p l e room_1 s m #[Value.ref b] below meth c H locs 600000 7302250 (lw_Z below #[Value.ref b] s) (F0 m 936 ls [])) : W p l e room_1 s m #[Value.ref b] below meth c H locs 600000 7302250 (lw_Z below #[Value.ref b] s) (F0 m 768 ls []) := by
  obtain ⟨hx, hb, hr, hml, hown, hts0, hX, hbl, hlocks, hgv⟩ := C0
  have hts := fun w h => hts0 w (wsL_law_in w h)
  have hown : s.vm.findClass RL = some m.cls := hown
  have hA : ∀ q : Nat, s.heap.size ≤ q → (fun q : Nat => s.heap.size ≤ q) q := fun _ h => h
  have hbA : ¬ (fun q : Nat => s.heap.size ≤ q) b := Nat.not_le.mpr hbl
  refine lv_aload_n hx hb dL_law_768 rfl (lv_at hl 1 rfl) ?_
  refine lv_aload_n hx hb dL_law_769 rfl (lv_at hl 0 rfl) ?_
  refine lv_iload_n hx hb dL_law_770 rfl (lv_at hl 3 rfl) ?_
  refine lv_iconst (v := 1) hx hb dL_law_771 (by decide) ?_
  refine lv_iadd hx hb dL_law_772 ?_
  refine va_sld hx hb hX hbl hbA hS (k_sc 1 (by decide) hi hL (by decide)) dL_law_773 ?_
  refine k_Vi (wr := (w_L k al 100 sL) ++ (w_F k ag (ap 0) (ah 0) sG) ++ (w_L k ah 0 sH) ++ (w_M k am sM)) (ws' := lw_w k ax ap af al ag ah ay am sP sF sL sG sH ((f_X4_run tx sP sF sY sJ (xs (nI i + 1).toNatClampNeg)).2) sJ tx sM) (Rv := ((f_X4_run tx sP sF sY sJ (xs (nI i + 1).toNatClampNeg)).1)) (rest := []) ⟨hx, hb, hml, hown, hts⟩ hK hA hP hD hS (c_X4_run l k ax ap af ay (al 0) (ag 0) tx sP sF sY sJ (xs (nI i + 1).toNatClampNeg) (rel_ns hR)) (cwV 1 hts gL_law_X4_run rfl rfl rfl (by decide +kernel) ⟨Nat.le_of_ble_eq_true rfl, Nat.le_of_ble_eq_true rfl⟩) (va_recv hK hP (ci := 4) (q0 := 0) rfl rfl) rfl hl.1 rfl (Nat.le_of_ble_eq_true rfl) dL_law_774 (Nat.le_refl _) (Nat.le_refl _) [0, 1, 2, 3, 4, 5, 6, 7, 8, 9, 10, 11, 12, 13, 14, 15, 16, 17, 18, 19, 20, 21, 22, 23, 24, 35, 36, 37, 38, 39] [25, 26, 27, 28, 29, 30, 31, 32, 33, 34, 40, 41, 42, 43, 44, 45, 46, 47, 48, 49, 50, 51, 52, 53, 54, 55, 56, 57, 58, 59, 60, 61] [32, 33, 34, 35, 36, 37, 38, 39, 40, 41, 42, 43, 44, 45, 46, 47, 48, 49, 50, 51, 52, 53, 54, 55, 56, 0, 1, 2, 3, 4, 5, 6, 7, 8, 9, 57, 58, 59, 60, 61, 10, 11, 12, 13, 14, 15, 16, 17, 18, 19, 20, 21, 22, 23, 24, 25, 26, 27, 28, 29, 30, 31] rfl rfl rfl (by decide) rfl rfl rfl (fun H locs hP hD hS => ?_)
  refine lv_aload_n hx hb dL_law_777 rfl (lv_at hl 2 rfl) ?_
  refine lv_aload_n hx hb dL_law_778 rfl (lv_at hl 0 rfl) ?_
  refine lv_iload_n hx hb dL_law_779 rfl (lv_at hl 3 rfl) ?_
  refine lv_iconst (v := 1) hx hb dL_law_780 (by decide) ?_
  refine lv_iadd hx hb dL_law_781 ?_
  refine va_sld hx hb hX hbl hbA hS (k_sc 1 (by decide) hi hL (by decide)) dL_law_782 ?_
  refine k_Vi (wr := (w_X ax (ap 0) (af 0) (ag 0) (ay 0) tx) ++ (w_P k ap sP) ++ (w_F k af (ap 0) (al 0) sF) ++ (w_L k al 100 sL) ++ (w_F k ag (ap 0) (ah 0) sG) ++ (w_L k ah 0 sH) ++ (w_Y k ay (af 0) ((f_X4_run tx sP sF sY sJ (xs (nI i + 1).toNatClampNeg)).2) sJ)) (ws' := lw_w k ax ap af al ag ah ay am sP sF sL sG sH ((f_X4_run tx sP sF sY sJ (xs (nI i + 1).toNatClampNeg)).2) sJ tx ((f_X5_run sM (xs (nI i + 1).toNatClampNeg)).2)) (Rv := ((f_X5_run sM (xs (nI i + 1).toNatClampNeg)).1)) (rest := [.int ((f_X4_run tx sP sF sY sJ (xs (nI i + 1).toNatClampNeg)).1)]) ⟨hx, hb, hml, hown, hts⟩ hK hA hP hD hS (c_X5_run l k am sM (xs (nI i + 1).toNatClampNeg) (m_T hR) (m_ns hR)) (cwV 1 hts gL_law_X5_run rfl rfl rfl (by decide +kernel) ⟨Nat.le_of_ble_eq_true rfl, Nat.le_of_ble_eq_true rfl⟩) (va_recv hK hP (ci := 5) (q0 := 40) rfl rfl) rfl hl.1 rfl (Nat.le_of_ble_eq_true rfl) dL_law_783 (Nat.le_refl _) (Nat.le_refl _) [40, 41, 42, 43, 44, 45, 46, 47, 48, 49, 50, 51, 52, 53, 54, 55, 56, 57, 58, 59, 60, 61] [0, 1, 2, 3, 4, 5, 6, 7, 8, 9, 10, 11, 12, 13, 14, 15, 16, 17, 18, 19, 20, 21, 22, 23, 24, 25, 26, 27, 28, 29, 30, 31, 32, 33, 34, 35, 36, 37, 38, 39] [0, 1, 2, 3, 4, 5, 6, 7, 8, 9, 10, 11, 12, 13, 14, 15, 16, 17, 18, 19, 20, 21, 22, 23, 24, 25, 26, 27, 28, 29, 30, 31, 32, 33, 34, 35, 36, 37, 38, 39, 40, 41, 42, 43, 44, 45, 46, 47, 48, 49, 50, 51, 52, 53, 54, 55, 56, 57, 58, 59, 60, 61] rfl rfl rfl (by decide) rfl rfl rfl (fun H locs hP hD hS => ?_)
  refine lv_icmp_eq (tgt := 936) hx hb dL_law_786 (by decide) (fun c2 => ?_) (fun c2 => ?_)
  · exact hk sP sF sL sG sH ((f_X4_run tx sP sF sY sJ (xs (nI i + 1).toNatClampNeg)).2) sJ tx ((f_X5_run sM (xs (nI i + 1).toNatClampNeg)).2) H locs ((sim_run hR (xs (nI i + 1).toNatClampNeg)).2) hP hD hS
  · exact absurd (sim_run hR (xs (nI i + 1).toNatClampNeg)).1 c2
set_option maxHeartbeats 4000000 in
set_option maxRecDepth 100000 in
theorem lawc_send {p : Program} {l : Launch} {e : Env} {s : State} {m : MethodId} {below : List Frame} {meth : Method} {c : Code} {k : K_X} {b L : Nat} {xs : Nat → Int32} (hL : L ≤ 2048) (C0 : lw_At p s m meth c b L xs) (hK : k_K k s) {ax : Nat} {ap af al ag ah ay am : Nat → Nat} {i : Nat} (hi : i + 4 ≤ L) (sP sF sL sG sH sY : Nat → Nat → Int32) (sJ : Nat → Int64) (tx : Int32) (sM : Nat → Nat → Int32) (hR : REL sP sF sL sY sJ tx sM) (H : Heap) (locs : List Loc) (ls : Array Slot) (hP : va_P k.1 vwCl (lw_w k ax ap af al ag ah ay am sP sF sL sG sH sY sJ tx sM) H) (hD : va_D (fun q : Nat => s.heap.size ≤ q) (lw_w k ax ap af al ag ah ay am sP sF sL sG sH sY sJ tx sM)) (hS : va_S (fun q : Nat => s.heap.size ≤ q) s.heap H locs) (hl : lv_has ls 4 [(0, .ref b), (1, .ref ax), (2, .ref (am 0)), (3, .int (nI i))]) (hk : ∀ (sP sF sL sG sH sY : Nat → Nat → Int32) (sJ : Nat → Int64) (tx : Int32) (sM : Nat → Nat → Int32) (H : Heap) (locs : List Loc), REL sP sF sL sY sJ tx sM → va_P k.1 vwCl (lw_w k ax ap af al ag ah ay am sP sF sL sG sH sY sJ tx sM) H → va_D (fun q : Nat => s.heap.size ≤ q) (lw_w k ax ap af al ag ah ay am sP sF sL sG sH sY sJ tx sM) → va_S (fun q : Nat => s.heap.size ≤ q) s.heap H locs → W p l e room_1 s m #[Value.ref b] below meth c H locs 600000 7302250 (lw_Z below #[Value.ref b] s) (F0 m 936 ls [])) : W p l e room_1 s m #[Value.ref b] below meth c H locs 600000 7302250 (lw_Z below #[Value.ref b] s) (F0 m 791 ls []) := by
  obtain ⟨hx, hb, hr, hml, hown, hts0, hX, hbl, hlocks, hgv⟩ := C0
  have hts := fun w h => hts0 w (wsL_law_in w h)
  have hown : s.vm.findClass RL = some m.cls := hown
  have hA : ∀ q : Nat, s.heap.size ≤ q → (fun q : Nat => s.heap.size ≤ q) q := fun _ h => h
  have hbA : ¬ (fun q : Nat => s.heap.size ≤ q) b := Nat.not_le.mpr hbl
  refine lv_aload_n hx hb dL_law_791 rfl (lv_at hl 1 rfl) ?_
  refine lv_aload_n hx hb dL_law_792 rfl (lv_at hl 0 rfl) ?_
  refine lv_iload_n hx hb dL_law_793 rfl (lv_at hl 3 rfl) ?_
  refine lv_iconst (v := 1) hx hb dL_law_794 (by decide) ?_
  refine lv_iadd hx hb dL_law_795 ?_
  refine va_sld hx hb hX hbl hbA hS (k_sc 1 (by decide) hi hL (by decide)) dL_law_796 ?_
  refine k_Vi (wr := (w_L k al 100 sL) ++ (w_F k ag (ap 0) (ah 0) sG) ++ (w_L k ah 0 sH) ++ (w_M k am sM)) (ws' := lw_w k ax ap af al ag ah ay am sP sF sL sG sH ((f_X4_send tx sP sF sY sJ (xs (nI i + 1).toNatClampNeg)).2) sJ tx sM) (Rv := ((f_X4_send tx sP sF sY sJ (xs (nI i + 1).toNatClampNeg)).1)) (rest := []) ⟨hx, hb, hml, hown, hts⟩ hK hA hP hD hS (c_X4_send l k ax ap af ay (al 0) (ag 0) tx sP sF sY sJ (xs (nI i + 1).toNatClampNeg) (rel_ns hR) (rel_B hR)) (cwV 1 hts gL_law_X4_send rfl rfl rfl (by decide +kernel) ⟨Nat.le_of_ble_eq_true rfl, Nat.le_of_ble_eq_true rfl⟩) (va_recv hK hP (ci := 4) (q0 := 0) rfl rfl) rfl hl.1 rfl (Nat.le_of_ble_eq_true rfl) dL_law_797 (Nat.le_refl _) (Nat.le_refl _) [0, 1, 2, 3, 4, 5, 6, 7, 8, 9, 10, 11, 12, 13, 14, 15, 16, 17, 18, 19, 20, 21, 22, 23, 24, 35, 36, 37, 38, 39] [25, 26, 27, 28, 29, 30, 31, 32, 33, 34, 40, 41, 42, 43, 44, 45, 46, 47, 48, 49, 50, 51, 52, 53, 54, 55, 56, 57, 58, 59, 60, 61] [32, 33, 34, 35, 36, 37, 38, 39, 40, 41, 42, 43, 44, 45, 46, 47, 48, 49, 50, 51, 52, 53, 54, 55, 56, 0, 1, 2, 3, 4, 5, 6, 7, 8, 9, 57, 58, 59, 60, 61, 10, 11, 12, 13, 14, 15, 16, 17, 18, 19, 20, 21, 22, 23, 24, 25, 26, 27, 28, 29, 30, 31] rfl rfl rfl (by decide) rfl rfl rfl (fun H locs hP hD hS => ?_)
  refine lv_aload_n hx hb dL_law_800 rfl (lv_at hl 2 rfl) ?_
  refine lv_aload_n hx hb dL_law_801 rfl (lv_at hl 0 rfl) ?_
  refine lv_iload_n hx hb dL_law_802 rfl (lv_at hl 3 rfl) ?_
  refine lv_iconst (v := 1) hx hb dL_law_803 (by decide) ?_
  refine lv_iadd hx hb dL_law_804 ?_
  refine va_sld hx hb hX hbl hbA hS (k_sc 1 (by decide) hi hL (by decide)) dL_law_805 ?_
  refine k_Vi (wr := (w_X ax (ap 0) (af 0) (ag 0) (ay 0) tx) ++ (w_P k ap sP) ++ (w_F k af (ap 0) (al 0) sF) ++ (w_L k al 100 sL) ++ (w_F k ag (ap 0) (ah 0) sG) ++ (w_L k ah 0 sH) ++ (w_Y k ay (af 0) ((f_X4_send tx sP sF sY sJ (xs (nI i + 1).toNatClampNeg)).2) sJ)) (ws' := lw_w k ax ap af al ag ah ay am sP sF sL sG sH ((f_X4_send tx sP sF sY sJ (xs (nI i + 1).toNatClampNeg)).2) sJ tx ((f_X5_send sM (xs (nI i + 1).toNatClampNeg)).2)) (Rv := ((f_X5_send sM (xs (nI i + 1).toNatClampNeg)).1)) (rest := [.int ((f_X4_send tx sP sF sY sJ (xs (nI i + 1).toNatClampNeg)).1)]) ⟨hx, hb, hml, hown, hts⟩ hK hA hP hD hS (c_X5_send l k am sM (xs (nI i + 1).toNatClampNeg) (m_T hR) (m_ns hR) (m_B hR)) (cwV 1 hts gL_law_X5_send rfl rfl rfl (by decide +kernel) ⟨Nat.le_of_ble_eq_true rfl, Nat.le_of_ble_eq_true rfl⟩) (va_recv hK hP (ci := 5) (q0 := 40) rfl rfl) rfl hl.1 rfl (Nat.le_of_ble_eq_true rfl) dL_law_806 (Nat.le_refl _) (Nat.le_refl _) [40, 41, 42, 43, 44, 45, 46, 47, 48, 49, 50, 51, 52, 53, 54, 55, 56, 57, 58, 59, 60, 61] [0, 1, 2, 3, 4, 5, 6, 7, 8, 9, 10, 11, 12, 13, 14, 15, 16, 17, 18, 19, 20, 21, 22, 23, 24, 25, 26, 27, 28, 29, 30, 31, 32, 33, 34, 35, 36, 37, 38, 39] [0, 1, 2, 3, 4, 5, 6, 7, 8, 9, 10, 11, 12, 13, 14, 15, 16, 17, 18, 19, 20, 21, 22, 23, 24, 25, 26, 27, 28, 29, 30, 31, 32, 33, 34, 35, 36, 37, 38, 39, 40, 41, 42, 43, 44, 45, 46, 47, 48, 49, 50, 51, 52, 53, 54, 55, 56, 57, 58, 59, 60, 61] rfl rfl rfl (by decide) rfl rfl rfl (fun H locs hP hD hS => ?_)
  refine lv_icmp_eq (tgt := 936) hx hb dL_law_809 (by decide) (fun c2 => ?_) (fun c2 => ?_)
  · exact hk sP sF sL sG sH ((f_X4_send tx sP sF sY sJ (xs (nI i + 1).toNatClampNeg)).2) sJ tx ((f_X5_send sM (xs (nI i + 1).toNatClampNeg)).2) H locs ((sim_send hR (xs (nI i + 1).toNatClampNeg)).2) hP hD hS
  · exact absurd (sim_send hR (xs (nI i + 1).toNatClampNeg)).1 c2
set_option maxHeartbeats 4000000 in
set_option maxRecDepth 100000 in
theorem lawc_due {p : Program} {l : Launch} {e : Env} {s : State} {m : MethodId} {below : List Frame} {meth : Method} {c : Code} {k : K_X} {b L : Nat} {xs : Nat → Int32} (hL : L ≤ 2048) (C0 : lw_At p s m meth c b L xs) (hK : k_K k s) {ax : Nat} {ap af al ag ah ay am : Nat → Nat} {i : Nat} (hi : i + 4 ≤ L) (sP sF sL sG sH sY : Nat → Nat → Int32) (sJ : Nat → Int64) (tx : Int32) (sM : Nat → Nat → Int32) (hR : REL sP sF sL sY sJ tx sM) (H : Heap) (locs : List Loc) (ls : Array Slot) (hP : va_P k.1 vwCl (lw_w k ax ap af al ag ah ay am sP sF sL sG sH sY sJ tx sM) H) (hD : va_D (fun q : Nat => s.heap.size ≤ q) (lw_w k ax ap af al ag ah ay am sP sF sL sG sH sY sJ tx sM)) (hS : va_S (fun q : Nat => s.heap.size ≤ q) s.heap H locs) (hl : lv_has ls 4 [(0, .ref b), (1, .ref ax), (2, .ref (am 0)), (3, .int (nI i))]) (hk : ∀ (sP sF sL sG sH sY : Nat → Nat → Int32) (sJ : Nat → Int64) (tx : Int32) (sM : Nat → Nat → Int32) (H : Heap) (locs : List Loc), REL sP sF sL sY sJ tx sM → va_P k.1 vwCl (lw_w k ax ap af al ag ah ay am sP sF sL sG sH sY sJ tx sM) H → va_D (fun q : Nat => s.heap.size ≤ q) (lw_w k ax ap af al ag ah ay am sP sF sL sG sH sY sJ tx sM) → va_S (fun q : Nat => s.heap.size ≤ q) s.heap H locs → W p l e room_1 s m #[Value.ref b] below meth c H locs 600000 7302250 (lw_Z below #[Value.ref b] s) (F0 m 936 ls [])) : W p l e room_1 s m #[Value.ref b] below meth c H locs 600000 7302250 (lw_Z below #[Value.ref b] s) (F0 m 814 ls []) := by
  obtain ⟨hx, hb, hr, hml, hown, hts0, hX, hbl, hlocks, hgv⟩ := C0
  have hts := fun w h => hts0 w (wsL_law_in w h)
  have hown : s.vm.findClass RL = some m.cls := hown
  have hA : ∀ q : Nat, s.heap.size ≤ q → (fun q : Nat => s.heap.size ≤ q) q := fun _ h => h
  have hbA : ¬ (fun q : Nat => s.heap.size ≤ q) b := Nat.not_le.mpr hbl
  refine lv_aload_n hx hb dL_law_814 rfl (lv_at hl 1 rfl) ?_
  refine lv_aload_n hx hb dL_law_815 rfl (lv_at hl 0 rfl) ?_
  refine lv_iload_n hx hb dL_law_816 rfl (lv_at hl 3 rfl) ?_
  refine lv_iconst (v := 1) hx hb dL_law_817 (by decide) ?_
  refine lv_iadd hx hb dL_law_818 ?_
  refine va_sld hx hb hX hbl hbA hS (k_sc 1 (by decide) hi hL (by decide)) dL_law_819 ?_
  refine lv_aload_n hx hb dL_law_820 rfl (lv_at hl 0 rfl) ?_
  refine lv_iload_n hx hb dL_law_821 rfl (lv_at hl 3 rfl) ?_
  refine lv_iconst (v := 2) hx hb dL_law_822 (by decide) ?_
  refine lv_iadd hx hb dL_law_823 ?_
  refine va_sld hx hb hX hbl hbA hS (k_sc 2 (by decide) hi hL (by decide)) dL_law_824 ?_
  refine k_Vi (wr := (w_L k al 100 sL) ++ (w_F k ag (ap 0) (ah 0) sG) ++ (w_L k ah 0 sH) ++ (w_M k am sM)) (ws' := lw_w k ax ap af al ag ah ay am sP sF sL sG sH sY sJ tx sM) (Rv := (f_X4_due tx sP sF sY sJ (xs (nI i + 1).toNatClampNeg) (xs (nI i + 2).toNatClampNeg))) (rest := []) ⟨hx, hb, hml, hown, hts⟩ hK hA hP hD hS (c_X4_due l k ax ap af ay (al 0) (ag 0) tx sP sF sY sJ (xs (nI i + 1).toNatClampNeg) (xs (nI i + 2).toNatClampNeg) (rel_ns hR) (rel_E hR)) (cwV 2 hts gL_law_X4_due rfl rfl rfl (by decide +kernel) ⟨Nat.le_of_ble_eq_true rfl, Nat.le_of_ble_eq_true rfl⟩) (va_recv hK hP (ci := 4) (q0 := 0) rfl rfl) rfl hl.1 rfl (Nat.le_of_ble_eq_true rfl) dL_law_825 (Nat.le_refl _) (Nat.le_refl _) [0, 1, 2, 3, 4, 5, 6, 7, 8, 9, 10, 11, 12, 13, 14, 15, 16, 17, 18, 19, 20, 21, 22, 23, 24, 35, 36, 37, 38, 39] [25, 26, 27, 28, 29, 30, 31, 32, 33, 34, 40, 41, 42, 43, 44, 45, 46, 47, 48, 49, 50, 51, 52, 53, 54, 55, 56, 57, 58, 59, 60, 61] [32, 33, 34, 35, 36, 37, 38, 39, 40, 41, 42, 43, 44, 45, 46, 47, 48, 49, 50, 51, 52, 53, 54, 55, 56, 0, 1, 2, 3, 4, 5, 6, 7, 8, 9, 57, 58, 59, 60, 61, 10, 11, 12, 13, 14, 15, 16, 17, 18, 19, 20, 21, 22, 23, 24, 25, 26, 27, 28, 29, 30, 31] rfl rfl rfl (by decide) rfl rfl rfl (fun H locs hP hD hS => ?_)
  refine lv_aload_n hx hb dL_law_828 rfl (lv_at hl 2 rfl) ?_
  refine lv_aload_n hx hb dL_law_829 rfl (lv_at hl 0 rfl) ?_
  refine lv_iload_n hx hb dL_law_830 rfl (lv_at hl 3 rfl) ?_
  refine lv_iconst (v := 1) hx hb dL_law_831 (by decide) ?_
  refine lv_iadd hx hb dL_law_832 ?_
  refine va_sld hx hb hX hbl hbA hS (k_sc 1 (by decide) hi hL (by decide)) dL_law_833 ?_
  refine lv_aload_n hx hb dL_law_834 rfl (lv_at hl 0 rfl) ?_
  refine lv_iload_n hx hb dL_law_835 rfl (lv_at hl 3 rfl) ?_
  refine lv_iconst (v := 2) hx hb dL_law_836 (by decide) ?_
  refine lv_iadd hx hb dL_law_837 ?_
  refine va_sld hx hb hX hbl hbA hS (k_sc 2 (by decide) hi hL (by decide)) dL_law_838 ?_
  refine k_Vi (wr := (w_X ax (ap 0) (af 0) (ag 0) (ay 0) tx) ++ (w_P k ap sP) ++ (w_F k af (ap 0) (al 0) sF) ++ (w_L k al 100 sL) ++ (w_F k ag (ap 0) (ah 0) sG) ++ (w_L k ah 0 sH) ++ (w_Y k ay (af 0) sY sJ)) (ws' := lw_w k ax ap af al ag ah ay am sP sF sL sG sH sY sJ tx sM) (Rv := (f_X5_due sM (xs (nI i + 1).toNatClampNeg) (xs (nI i + 2).toNatClampNeg))) (rest := [.int (f_X4_due tx sP sF sY sJ (xs (nI i + 1).toNatClampNeg) (xs (nI i + 2).toNatClampNeg))]) ⟨hx, hb, hml, hown, hts⟩ hK hA hP hD hS (c_X5_due l k am sM (xs (nI i + 1).toNatClampNeg) (xs (nI i + 2).toNatClampNeg) (m_T hR) (m_ns hR)) (cwV 2 hts gL_law_X5_due rfl rfl rfl (by decide +kernel) ⟨Nat.le_of_ble_eq_true rfl, Nat.le_of_ble_eq_true rfl⟩) (va_recv hK hP (ci := 5) (q0 := 40) rfl rfl) rfl hl.1 rfl (Nat.le_of_ble_eq_true rfl) dL_law_839 (Nat.le_refl _) (Nat.le_refl _) [40, 41, 42, 43, 44, 45, 46, 47, 48, 49, 50, 51, 52, 53, 54, 55, 56, 57, 58, 59, 60, 61] [0, 1, 2, 3, 4, 5, 6, 7, 8, 9, 10, 11, 12, 13, 14, 15, 16, 17, 18, 19, 20, 21, 22, 23, 24, 25, 26, 27, 28, 29, 30, 31, 32, 33, 34, 35, 36, 37, 38, 39] [0, 1, 2, 3, 4, 5, 6, 7, 8, 9, 10, 11, 12, 13, 14, 15, 16, 17, 18, 19, 20, 21, 22, 23, 24, 25, 26, 27, 28, 29, 30, 31, 32, 33, 34, 35, 36, 37, 38, 39, 40, 41, 42, 43, 44, 45, 46, 47, 48, 49, 50, 51, 52, 53, 54, 55, 56, 57, 58, 59, 60, 61] rfl rfl rfl (by decide) rfl rfl rfl (fun H locs hP hD hS => ?_)
  refine lv_icmp_eq (tgt := 936) hx hb dL_law_842 (by decide) (fun c2 => ?_) (fun c2 => ?_)
  · exact hk sP sF sL sG sH sY sJ tx sM H locs (hR) hP hD hS
  · exact absurd (sim_due hR (xs (nI i + 1).toNatClampNeg) (xs (nI i + 2).toNatClampNeg)) c2
set_option maxHeartbeats 4000000 in
set_option maxRecDepth 100000 in
theorem lawc_owes {p : Program} {l : Launch} {e : Env} {s : State} {m : MethodId} {below : List Frame} {meth : Method} {c : Code} {k : K_X} {b L : Nat} {xs : Nat → Int32} (hL : L ≤ 2048) (C0 : lw_At p s m meth c b L xs) (hK : k_K k s) {ax : Nat} {ap af al ag ah ay am : Nat → Nat} {i : Nat} (hi : i + 4 ≤ L) (sP sF sL sG sH sY : Nat → Nat → Int32) (sJ : Nat → Int64) (tx : Int32) (sM : Nat → Nat → Int32) (hR : REL sP sF sL sY sJ tx sM) (H : Heap) (locs : List Loc) (ls : Array Slot) (hP : va_P k.1 vwCl (lw_w k ax ap af al ag ah ay am sP sF sL sG sH sY sJ tx sM) H) (hD : va_D (fun q : Nat => s.heap.size ≤ q) (lw_w k ax ap af al ag ah ay am sP sF sL sG sH sY sJ tx sM)) (hS : va_S (fun q : Nat => s.heap.size ≤ q) s.heap H locs) (hl : lv_has ls 4 [(0, .ref b), (1, .ref ax), (2, .ref (am 0)), (3, .int (nI i))]) (hk : ∀ (sP sF sL sG sH sY : Nat → Nat → Int32) (sJ : Nat → Int64) (tx : Int32) (sM : Nat → Nat → Int32) (H : Heap) (locs : List Loc), REL sP sF sL sY sJ tx sM → va_P k.1 vwCl (lw_w k ax ap af al ag ah ay am sP sF sL sG sH sY sJ tx sM) H → va_D (fun q : Nat => s.heap.size ≤ q) (lw_w k ax ap af al ag ah ay am sP sF sL sG sH sY sJ tx sM) → va_S (fun q : Nat => s.heap.size ≤ q) s.heap H locs → W p l e room_1 s m #[Value.ref b] below meth c H locs 600000 7302250 (lw_Z below #[Value.ref b] s) (F0 m 936 ls [])) : W p l e room_1 s m #[Value.ref b] below meth c H locs 600000 7302250 (lw_Z below #[Value.ref b] s) (F0 m 847 ls []) := by
  obtain ⟨hx, hb, hr, hml, hown, hts0, hX, hbl, hlocks, hgv⟩ := C0
  have hts := fun w h => hts0 w (wsL_law_in w h)
  have hown : s.vm.findClass RL = some m.cls := hown
  have hA : ∀ q : Nat, s.heap.size ≤ q → (fun q : Nat => s.heap.size ≤ q) q := fun _ h => h
  have hbA : ¬ (fun q : Nat => s.heap.size ≤ q) b := Nat.not_le.mpr hbl
  refine lv_aload_n hx hb dL_law_847 rfl (lv_at hl 1 rfl) ?_
  refine lv_aload_n hx hb dL_law_848 rfl (lv_at hl 0 rfl) ?_
  refine lv_iload_n hx hb dL_law_849 rfl (lv_at hl 3 rfl) ?_
  refine lv_iconst (v := 1) hx hb dL_law_850 (by decide) ?_
  refine lv_iadd hx hb dL_law_851 ?_
  refine va_sld hx hb hX hbl hbA hS (k_sc 1 (by decide) hi hL (by decide)) dL_law_852 ?_
  refine lv_aload_n hx hb dL_law_853 rfl (lv_at hl 0 rfl) ?_
  refine lv_iload_n hx hb dL_law_854 rfl (lv_at hl 3 rfl) ?_
  refine lv_iconst (v := 2) hx hb dL_law_855 (by decide) ?_
  refine lv_iadd hx hb dL_law_856 ?_
  refine va_sld hx hb hX hbl hbA hS (k_sc 2 (by decide) hi hL (by decide)) dL_law_857 ?_
  refine k_Vi (wr := (w_L k al 100 sL) ++ (w_F k ag (ap 0) (ah 0) sG) ++ (w_L k ah 0 sH) ++ (w_M k am sM)) (ws' := lw_w k ax ap af al ag ah ay am sP sF sL sG sH sY sJ tx sM) (Rv := (f_X4_owes tx sP sF sY sJ (xs (nI i + 1).toNatClampNeg) (xs (nI i + 2).toNatClampNeg))) (rest := []) ⟨hx, hb, hml, hown, hts⟩ hK hA hP hD hS (c_X4_owes l k ax ap af ay (al 0) (ag 0) tx sP sF sY sJ (xs (nI i + 1).toNatClampNeg) (xs (nI i + 2).toNatClampNeg) (rel_nm hR) (rel_O hR) (rel_E hR)) (cwV 2 hts gL_law_X4_owes rfl rfl rfl (by decide +kernel) ⟨Nat.le_of_ble_eq_true rfl, Nat.le_of_ble_eq_true rfl⟩) (va_recv hK hP (ci := 4) (q0 := 0) rfl rfl) rfl hl.1 rfl (Nat.le_of_ble_eq_true rfl) dL_law_858 (Nat.le_refl _) (Nat.le_refl _) [0, 1, 2, 3, 4, 5, 6, 7, 8, 9, 10, 11, 12, 13, 14, 15, 16, 17, 18, 19, 20, 21, 22, 23, 24, 35, 36, 37, 38, 39] [25, 26, 27, 28, 29, 30, 31, 32, 33, 34, 40, 41, 42, 43, 44, 45, 46, 47, 48, 49, 50, 51, 52, 53, 54, 55, 56, 57, 58, 59, 60, 61] [32, 33, 34, 35, 36, 37, 38, 39, 40, 41, 42, 43, 44, 45, 46, 47, 48, 49, 50, 51, 52, 53, 54, 55, 56, 0, 1, 2, 3, 4, 5, 6, 7, 8, 9, 57, 58, 59, 60, 61, 10, 11, 12, 13, 14, 15, 16, 17, 18, 19, 20, 21, 22, 23, 24, 25, 26, 27, 28, 29, 30, 31] rfl rfl rfl (by decide) rfl rfl rfl (fun H locs hP hD hS => ?_)
  refine lv_aload_n hx hb dL_law_861 rfl (lv_at hl 2 rfl) ?_
  refine lv_aload_n hx hb dL_law_862 rfl (lv_at hl 0 rfl) ?_
  refine lv_iload_n hx hb dL_law_863 rfl (lv_at hl 3 rfl) ?_
  refine lv_iconst (v := 1) hx hb dL_law_864 (by decide) ?_
  refine lv_iadd hx hb dL_law_865 ?_
  refine va_sld hx hb hX hbl hbA hS (k_sc 1 (by decide) hi hL (by decide)) dL_law_866 ?_
  refine lv_aload_n hx hb dL_law_867 rfl (lv_at hl 0 rfl) ?_
  refine lv_iload_n hx hb dL_law_868 rfl (lv_at hl 3 rfl) ?_
  refine lv_iconst (v := 2) hx hb dL_law_869 (by decide) ?_
  refine lv_iadd hx hb dL_law_870 ?_
  refine va_sld hx hb hX hbl hbA hS (k_sc 2 (by decide) hi hL (by decide)) dL_law_871 ?_
  refine k_Vi (wr := (w_X ax (ap 0) (af 0) (ag 0) (ay 0) tx) ++ (w_P k ap sP) ++ (w_F k af (ap 0) (al 0) sF) ++ (w_L k al 100 sL) ++ (w_F k ag (ap 0) (ah 0) sG) ++ (w_L k ah 0 sH) ++ (w_Y k ay (af 0) sY sJ)) (ws' := lw_w k ax ap af al ag ah ay am sP sF sL sG sH sY sJ tx sM) (Rv := (f_X5_owes sM (xs (nI i + 1).toNatClampNeg) (xs (nI i + 2).toNatClampNeg))) (rest := [.int (f_X4_owes tx sP sF sY sJ (xs (nI i + 1).toNatClampNeg) (xs (nI i + 2).toNatClampNeg))]) ⟨hx, hb, hml, hown, hts⟩ hK hA hP hD hS (c_X5_owes l k am sM (xs (nI i + 1).toNatClampNeg) (xs (nI i + 2).toNatClampNeg) (m_T hR) (m_nm hR) (m_O hR)) (cwV 2 hts gL_law_X5_owes rfl rfl rfl (by decide +kernel) ⟨Nat.le_of_ble_eq_true rfl, Nat.le_of_ble_eq_true rfl⟩) (va_recv hK hP (ci := 5) (q0 := 40) rfl rfl) rfl hl.1 rfl (Nat.le_of_ble_eq_true rfl) dL_law_872 (Nat.le_refl _) (Nat.le_refl _) [40, 41, 42, 43, 44, 45, 46, 47, 48, 49, 50, 51, 52, 53, 54, 55, 56, 57, 58, 59, 60, 61] [0, 1, 2, 3, 4, 5, 6, 7, 8, 9, 10, 11, 12, 13, 14, 15, 16, 17, 18, 19, 20, 21, 22, 23, 24, 25, 26, 27, 28, 29, 30, 31, 32, 33, 34, 35, 36, 37, 38, 39] [0, 1, 2, 3, 4, 5, 6, 7, 8, 9, 10, 11, 12, 13, 14, 15, 16, 17, 18, 19, 20, 21, 22, 23, 24, 25, 26, 27, 28, 29, 30, 31, 32, 33, 34, 35, 36, 37, 38, 39, 40, 41, 42, 43, 44, 45, 46, 47, 48, 49, 50, 51, 52, 53, 54, 55, 56, 57, 58, 59, 60, 61] rfl rfl rfl (by decide) rfl rfl rfl (fun H locs hP hD hS => ?_)
  refine lv_icmp_eq (tgt := 936) hx hb dL_law_875 (by decide) (fun c2 => ?_) (fun c2 => ?_)
  · exact hk sP sF sL sG sH sY sJ tx sM H locs (hR) hP hD hS
  · exact absurd (sim_owes hR (xs (nI i + 1).toNatClampNeg) (xs (nI i + 2).toNatClampNeg)) c2
set_option maxHeartbeats 4000000 in
set_option maxRecDepth 100000 in
theorem lawc_hands {p : Program} {l : Launch} {e : Env} {s : State} {m : MethodId} {below : List Frame} {meth : Method} {c : Code} {k : K_X} {b L : Nat} {xs : Nat → Int32} (hL : L ≤ 2048) (C0 : lw_At p s m meth c b L xs) (hK : k_K k s) {ax : Nat} {ap af al ag ah ay am : Nat → Nat} {i : Nat} (hi : i + 4 ≤ L) (sP sF sL sG sH sY : Nat → Nat → Int32) (sJ : Nat → Int64) (tx : Int32) (sM : Nat → Nat → Int32) (hR : REL sP sF sL sY sJ tx sM) (H : Heap) (locs : List Loc) (ls : Array Slot) (hP : va_P k.1 vwCl (lw_w k ax ap af al ag ah ay am sP sF sL sG sH sY sJ tx sM) H) (hD : va_D (fun q : Nat => s.heap.size ≤ q) (lw_w k ax ap af al ag ah ay am sP sF sL sG sH sY sJ tx sM)) (hS : va_S (fun q : Nat => s.heap.size ≤ q) s.heap H locs) (hl : lv_has ls 4 [(0, .ref b), (1, .ref ax), (2, .ref (am 0)), (3, .int (nI i))]) (hk : ∀ (sP sF sL sG sH sY : Nat → Nat → Int32) (sJ : Nat → Int64) (tx : Int32) (sM : Nat → Nat → Int32) (H : Heap) (locs : List Loc), REL sP sF sL sY sJ tx sM → va_P k.1 vwCl (lw_w k ax ap af al ag ah ay am sP sF sL sG sH sY sJ tx sM) H → va_D (fun q : Nat => s.heap.size ≤ q) (lw_w k ax ap af al ag ah ay am sP sF sL sG sH sY sJ tx sM) → va_S (fun q : Nat => s.heap.size ≤ q) s.heap H locs → W p l e room_1 s m #[Value.ref b] below meth c H locs 600000 7302250 (lw_Z below #[Value.ref b] s) (F0 m 936 ls [])) : W p l e room_1 s m #[Value.ref b] below meth c H locs 600000 7302250 (lw_Z below #[Value.ref b] s) (F0 m 880 ls []) := by
  obtain ⟨hx, hb, hr, hml, hown, hts0, hX, hbl, hlocks, hgv⟩ := C0
  have hts := fun w h => hts0 w (wsL_law_in w h)
  have hown : s.vm.findClass RL = some m.cls := hown
  have hA : ∀ q : Nat, s.heap.size ≤ q → (fun q : Nat => s.heap.size ≤ q) q := fun _ h => h
  have hbA : ¬ (fun q : Nat => s.heap.size ≤ q) b := Nat.not_le.mpr hbl
  refine lv_aload_n hx hb dL_law_880 rfl (lv_at hl 1 rfl) ?_
  refine lv_aload_n hx hb dL_law_881 rfl (lv_at hl 0 rfl) ?_
  refine lv_iload_n hx hb dL_law_882 rfl (lv_at hl 3 rfl) ?_
  refine lv_iconst (v := 1) hx hb dL_law_883 (by decide) ?_
  refine lv_iadd hx hb dL_law_884 ?_
  refine va_sld hx hb hX hbl hbA hS (k_sc 1 (by decide) hi hL (by decide)) dL_law_885 ?_
  refine lv_aload_n hx hb dL_law_886 rfl (lv_at hl 0 rfl) ?_
  refine lv_iload_n hx hb dL_law_887 rfl (lv_at hl 3 rfl) ?_
  refine lv_iconst (v := 2) hx hb dL_law_888 (by decide) ?_
  refine lv_iadd hx hb dL_law_889 ?_
  refine va_sld hx hb hX hbl hbA hS (k_sc 2 (by decide) hi hL (by decide)) dL_law_890 ?_
  refine k_Vi (wr := (w_L k al 100 sL) ++ (w_F k ag (ap 0) (ah 0) sG) ++ (w_L k ah 0 sH) ++ (w_M k am sM)) (ws' := lw_w k ax ap af al ag ah ay am sP sF sL sG sH sY sJ tx sM) (Rv := (f_X4_hands tx sP sF sY sJ (xs (nI i + 1).toNatClampNeg) (xs (nI i + 2).toNatClampNeg))) (rest := []) ⟨hx, hb, hml, hown, hts⟩ hK hA hP hD hS (c_X4_hands l k ax ap af ay (al 0) (ag 0) tx sP sF sY sJ (xs (nI i + 1).toNatClampNeg) (xs (nI i + 2).toNatClampNeg) (rel_ns hR)) (cwV 2 hts gL_law_X4_hands rfl rfl rfl (by decide +kernel) ⟨Nat.le_of_ble_eq_true rfl, Nat.le_of_ble_eq_true rfl⟩) (va_recv hK hP (ci := 4) (q0 := 0) rfl rfl) rfl hl.1 rfl (Nat.le_of_ble_eq_true rfl) dL_law_891 (Nat.le_refl _) (Nat.le_refl _) [0, 1, 2, 3, 4, 5, 6, 7, 8, 9, 10, 11, 12, 13, 14, 15, 16, 17, 18, 19, 20, 21, 22, 23, 24, 35, 36, 37, 38, 39] [25, 26, 27, 28, 29, 30, 31, 32, 33, 34, 40, 41, 42, 43, 44, 45, 46, 47, 48, 49, 50, 51, 52, 53, 54, 55, 56, 57, 58, 59, 60, 61] [32, 33, 34, 35, 36, 37, 38, 39, 40, 41, 42, 43, 44, 45, 46, 47, 48, 49, 50, 51, 52, 53, 54, 55, 56, 0, 1, 2, 3, 4, 5, 6, 7, 8, 9, 57, 58, 59, 60, 61, 10, 11, 12, 13, 14, 15, 16, 17, 18, 19, 20, 21, 22, 23, 24, 25, 26, 27, 28, 29, 30, 31] rfl rfl rfl (by decide) rfl rfl rfl (fun H locs hP hD hS => ?_)
  refine lv_aload_n hx hb dL_law_894 rfl (lv_at hl 2 rfl) ?_
  refine lv_aload_n hx hb dL_law_895 rfl (lv_at hl 0 rfl) ?_
  refine lv_iload_n hx hb dL_law_896 rfl (lv_at hl 3 rfl) ?_
  refine lv_iconst (v := 1) hx hb dL_law_897 (by decide) ?_
  refine lv_iadd hx hb dL_law_898 ?_
  refine va_sld hx hb hX hbl hbA hS (k_sc 1 (by decide) hi hL (by decide)) dL_law_899 ?_
  refine lv_aload_n hx hb dL_law_900 rfl (lv_at hl 0 rfl) ?_
  refine lv_iload_n hx hb dL_law_901 rfl (lv_at hl 3 rfl) ?_
  refine lv_iconst (v := 2) hx hb dL_law_902 (by decide) ?_
  refine lv_iadd hx hb dL_law_903 ?_
  refine va_sld hx hb hX hbl hbA hS (k_sc 2 (by decide) hi hL (by decide)) dL_law_904 ?_
  refine k_Vi (wr := (w_X ax (ap 0) (af 0) (ag 0) (ay 0) tx) ++ (w_P k ap sP) ++ (w_F k af (ap 0) (al 0) sF) ++ (w_L k al 100 sL) ++ (w_F k ag (ap 0) (ah 0) sG) ++ (w_L k ah 0 sH) ++ (w_Y k ay (af 0) sY sJ)) (ws' := lw_w k ax ap af al ag ah ay am sP sF sL sG sH sY sJ tx sM) (Rv := (f_X5_hands sM (xs (nI i + 1).toNatClampNeg) (xs (nI i + 2).toNatClampNeg))) (rest := [.int (f_X4_hands tx sP sF sY sJ (xs (nI i + 1).toNatClampNeg) (xs (nI i + 2).toNatClampNeg))]) ⟨hx, hb, hml, hown, hts⟩ hK hA hP hD hS (c_X5_hands l k am sM (xs (nI i + 1).toNatClampNeg) (xs (nI i + 2).toNatClampNeg) (m_T hR) (m_ns hR)) (cwV 2 hts gL_law_X5_hands rfl rfl rfl (by decide +kernel) ⟨Nat.le_of_ble_eq_true rfl, Nat.le_of_ble_eq_true rfl⟩) (va_recv hK hP (ci := 5) (q0 := 40) rfl rfl) rfl hl.1 rfl (Nat.le_of_ble_eq_true rfl) dL_law_905 (Nat.le_refl _) (Nat.le_refl _) [40, 41, 42, 43, 44, 45, 46, 47, 48, 49, 50, 51, 52, 53, 54, 55, 56, 57, 58, 59, 60, 61] [0, 1, 2, 3, 4, 5, 6, 7, 8, 9, 10, 11, 12, 13, 14, 15, 16, 17, 18, 19, 20, 21, 22, 23, 24, 25, 26, 27, 28, 29, 30, 31, 32, 33, 34, 35, 36, 37, 38, 39] [0, 1, 2, 3, 4, 5, 6, 7, 8, 9, 10, 11, 12, 13, 14, 15, 16, 17, 18, 19, 20, 21, 22, 23, 24, 25, 26, 27, 28, 29, 30, 31, 32, 33, 34, 35, 36, 37, 38, 39, 40, 41, 42, 43, 44, 45, 46, 47, 48, 49, 50, 51, 52, 53, 54, 55, 56, 57, 58, 59, 60, 61] rfl rfl rfl (by decide) rfl rfl rfl (fun H locs hP hD hS => ?_)
  refine lv_icmp_eq (tgt := 936) hx hb dL_law_908 (by decide) (fun c2 => ?_) (fun c2 => ?_)
  · exact hk sP sF sL sG sH sY sJ tx sM H locs (hR) hP hD hS
  · exact absurd (sim_hands hR (xs (nI i + 1).toNatClampNeg) (xs (nI i + 2).toNatClampNeg)) c2
set_option maxHeartbeats 4000000 in
set_option maxRecDepth 100000 in
theorem lawc_total {p : Program} {l : Launch} {e : Env} {s : State} {m : MethodId} {below : List Frame} {meth : Method} {c : Code} {k : K_X} {b L : Nat} {xs : Nat → Int32} (hL : L ≤ 2048) (C0 : lw_At p s m meth c b L xs) (hK : k_K k s) {ax : Nat} {ap af al ag ah ay am : Nat → Nat} {i : Nat} (hi : i + 4 ≤ L) (sP sF sL sG sH sY : Nat → Nat → Int32) (sJ : Nat → Int64) (tx : Int32) (sM : Nat → Nat → Int32) (hR : REL sP sF sL sY sJ tx sM) (H : Heap) (locs : List Loc) (ls : Array Slot) (hP : va_P k.1 vwCl (lw_w k ax ap af al ag ah ay am sP sF sL sG sH sY sJ tx sM) H) (hD : va_D (fun q : Nat => s.heap.size ≤ q) (lw_w k ax ap af al ag ah ay am sP sF sL sG sH sY sJ tx sM)) (hS : va_S (fun q : Nat => s.heap.size ≤ q) s.heap H locs) (hl : lv_has ls 4 [(0, .ref b), (1, .ref ax), (2, .ref (am 0)), (3, .int (nI i))]) (hk : ∀ (sP sF sL sG sH sY : Nat → Nat → Int32) (sJ : Nat → Int64) (tx : Int32) (sM : Nat → Nat → Int32) (H : Heap) (locs : List Loc), REL sP sF sL sY sJ tx sM → va_P k.1 vwCl (lw_w k ax ap af al ag ah ay am sP sF sL sG sH sY sJ tx sM) H → va_D (fun q : Nat => s.heap.size ≤ q) (lw_w k ax ap af al ag ah ay am sP sF sL sG sH sY sJ tx sM) → va_S (fun q : Nat => s.heap.size ≤ q) s.heap H locs → W p l e room_1 s m #[Value.ref b] below meth c H locs 600000 7302250 (lw_Z below #[Value.ref b] s) (F0 m 936 ls [])) : W p l e room_1 s m #[Value.ref b] below meth c H locs 600000 7302250 (lw_Z below #[Value.ref b] s) (F0 m 913 ls []) := by
  obtain ⟨hx, hb, hr, hml, hown, hts0, hX, hbl, hlocks, hgv⟩ := C0
  have hts := fun w h => hts0 w (wsL_law_in w h)
  have hown : s.vm.findClass RL = some m.cls := hown
  have hA : ∀ q : Nat, s.heap.size ≤ q → (fun q : Nat => s.heap.size ≤ q) q := fun _ h => h
  have hbA : ¬ (fun q : Nat => s.heap.size ≤ q) b := Nat.not_le.mpr hbl
  refine lv_aload_n hx hb dL_law_913 rfl (lv_at hl 1 rfl) ?_
  refine lv_aload_n hx hb dL_law_914 rfl (lv_at hl 0 rfl) ?_
  refine lv_iload_n hx hb dL_law_915 rfl (lv_at hl 3 rfl) ?_
  refine lv_iconst (v := 1) hx hb dL_law_916 (by decide) ?_
  refine lv_iadd hx hb dL_law_917 ?_
  refine va_sld hx hb hX hbl hbA hS (k_sc 1 (by decide) hi hL (by decide)) dL_law_918 ?_
  refine k_Vi (wr := (w_L k al 100 sL) ++ (w_F k ag (ap 0) (ah 0) sG) ++ (w_L k ah 0 sH) ++ (w_M k am sM)) (ws' := lw_w k ax ap af al ag ah ay am sP sF sL sG sH sY sJ tx sM) (Rv := (f_X4_total tx sP sF sY sJ (xs (nI i + 1).toNatClampNeg))) (rest := []) ⟨hx, hb, hml, hown, hts⟩ hK hA hP hD hS (c_X4_total l k ax ap af ay (al 0) (ag 0) tx sP sF sY sJ (xs (nI i + 1).toNatClampNeg) (rel_ns hR)) (cwV 1 hts gL_law_X4_total rfl rfl rfl (by decide +kernel) ⟨Nat.le_of_ble_eq_true rfl, Nat.le_of_ble_eq_true rfl⟩) (va_recv hK hP (ci := 4) (q0 := 0) rfl rfl) rfl hl.1 rfl (Nat.le_of_ble_eq_true rfl) dL_law_919 (Nat.le_refl _) (Nat.le_refl _) [0, 1, 2, 3, 4, 5, 6, 7, 8, 9, 10, 11, 12, 13, 14, 15, 16, 17, 18, 19, 20, 21, 22, 23, 24, 35, 36, 37, 38, 39] [25, 26, 27, 28, 29, 30, 31, 32, 33, 34, 40, 41, 42, 43, 44, 45, 46, 47, 48, 49, 50, 51, 52, 53, 54, 55, 56, 57, 58, 59, 60, 61] [32, 33, 34, 35, 36, 37, 38, 39, 40, 41, 42, 43, 44, 45, 46, 47, 48, 49, 50, 51, 52, 53, 54, 55, 56, 0, 1, 2, 3, 4, 5, 6, 7, 8, 9, 57, 58, 59, 60, 61, 10, 11, 12, 13, 14, 15, 16, 17, 18, 19, 20, 21, 22, 23, 24, 25, 26, 27, 28, 29, 30, 31] rfl rfl rfl (by decide) rfl rfl rfl (fun H locs hP hD hS => ?_)
  refine lv_aload_n hx hb dL_law_922 rfl (lv_at hl 2 rfl) ?_
  refine lv_aload_n hx hb dL_law_923 rfl (lv_at hl 0 rfl) ?_
  refine lv_iload_n hx hb dL_law_924 rfl (lv_at hl 3 rfl) ?_
  refine lv_iconst (v := 1) hx hb dL_law_925 (by decide) ?_
  refine lv_iadd hx hb dL_law_926 ?_
  refine va_sld hx hb hX hbl hbA hS (k_sc 1 (by decide) hi hL (by decide)) dL_law_927 ?_
  refine k_Vi (wr := (w_X ax (ap 0) (af 0) (ag 0) (ay 0) tx) ++ (w_P k ap sP) ++ (w_F k af (ap 0) (al 0) sF) ++ (w_L k al 100 sL) ++ (w_F k ag (ap 0) (ah 0) sG) ++ (w_L k ah 0 sH) ++ (w_Y k ay (af 0) sY sJ)) (ws' := lw_w k ax ap af al ag ah ay am sP sF sL sG sH sY sJ tx sM) (Rv := (f_X5_total sM (xs (nI i + 1).toNatClampNeg))) (rest := [.int (f_X4_total tx sP sF sY sJ (xs (nI i + 1).toNatClampNeg))]) ⟨hx, hb, hml, hown, hts⟩ hK hA hP hD hS (c_X5_total l k am sM (xs (nI i + 1).toNatClampNeg) (m_T hR) (m_ns hR)) (cwV 1 hts gL_law_X5_total rfl rfl rfl (by decide +kernel) ⟨Nat.le_of_ble_eq_true rfl, Nat.le_of_ble_eq_true rfl⟩) (va_recv hK hP (ci := 5) (q0 := 40) rfl rfl) rfl hl.1 rfl (Nat.le_of_ble_eq_true rfl) dL_law_928 (Nat.le_refl _) (Nat.le_refl _) [40, 41, 42, 43, 44, 45, 46, 47, 48, 49, 50, 51, 52, 53, 54, 55, 56, 57, 58, 59, 60, 61] [0, 1, 2, 3, 4, 5, 6, 7, 8, 9, 10, 11, 12, 13, 14, 15, 16, 17, 18, 19, 20, 21, 22, 23, 24, 25, 26, 27, 28, 29, 30, 31, 32, 33, 34, 35, 36, 37, 38, 39] [0, 1, 2, 3, 4, 5, 6, 7, 8, 9, 10, 11, 12, 13, 14, 15, 16, 17, 18, 19, 20, 21, 22, 23, 24, 25, 26, 27, 28, 29, 30, 31, 32, 33, 34, 35, 36, 37, 38, 39, 40, 41, 42, 43, 44, 45, 46, 47, 48, 49, 50, 51, 52, 53, 54, 55, 56, 57, 58, 59, 60, 61] rfl rfl rfl (by decide) rfl rfl rfl (fun H locs hP hD hS => ?_)
  refine lv_icmp_eq (tgt := 936) hx hb dL_law_931 (by decide) (fun c2 => ?_) (fun c2 => ?_)
  · exact hk sP sF sL sG sH sY sJ tx sM H locs (hR) hP hD hS
  · exact absurd (sim_total hR (xs (nI i + 1).toNatClampNeg)) c2
