theorem k_TI_out {NM : Nat} (i1 : Int32) (hN : NM ≤ 10) : ∀ (r j : Nat) (M : Nat → Nat → Int32), k_TI NM M → k_TI NM (g_X5_foretell_out i1 NM r j M) := by
  intro r
  induction r with
  | zero => intro j M hI; rw [g_X5_foretell_out]; exact hI
  | succ r ih => intro j M hI; rw [g_X5_foretell_out]; exact ih _ _ (k_TI_in hN hI)
theorem k_TI_fore {M : Nat → Nat → Int32} {i1 : Int32} (h : (M 0 2) = nI (M 0 2).toNatClampNeg ∧ (M 0 2).toNatClampNeg ≤ 10 ∧ k_n (M 0 1) 10) : k_TI (M 0 2).toNatClampNeg (f_X5_foretell M i1) :=
  k_TI_out i1 h.2.1 240 0 _ (k_TI_0 h)
theorem k_TI.nm {NM : Nat} {M : Nat → Nat → Int32} (h : k_TI NM M) : k_n (M 0 2) 10 := by rw [h.1]; exact k_n.mk h.2.1
theorem in_X5_foretold_X5 : ∀ w ∈ wsX50, w ∈ wsX5_foretold := fun _ h => List.mem_cons_of_mem _ (List.mem_append_right _ h)
def g_X5_foretold_in (sM : Nat → Nat → Int32) (i1 : Int32) (i2 : Int32) (jo : Nat) : Nat → Nat → Int32 → Int32
  | 0, j, a1 => a1
  | r + 1, j, a1 => if (f_X5_isTorn_t sM (nI jo) (nI j)) = 0 then g_X5_foretold_in sM i1 i2 jo r (j + 1) (a1 + 0)
    else g_X5_foretold_in sM i1 i2 jo r (j + 1) (a1 + 1)
set_option maxHeartbeats 4000000 in
set_option maxRecDepth 100000 in
theorem lp_X5_foretold_in {p : Program} {l : Launch} {e : Env} {s : State} {m : MethodId} {below : List Frame} {meth : Method} {c : Code} {A : Nat → Prop} {Q : State → Prop} {av : Array Value} (k : K_X) (am : Nat → Nat) (sM : Nat → Nat → Int32) (i1 : Int32) (i2 : Int32) (jo : Nat) (C0 : k_Cx p s m meth c k cX5_foretold (some .int) wsX5_foretold RX5 6 av A) (hjo : jo < 10) (hNm : k_n (sM 0 2) 10) (hO : ∀ j, j < 10 → k_o (sM 21 j) 10) : ∀ (r j : Nat) (a1 : Int32) (H : Heap) (locs : List Loc) (ls : Array Slot), j + r = (sM 0 2).toNatClampNeg → va_P k.1 vwCl (w_M k am sM) H → va_D A (w_M k am sM) → va_S A s.heap H locs → lv_has ls 6 [(0, .ref (am 0)), (1, .int i1), (2, .int i2), (3, .int a1), (4, .int (nI jo)), (5, .int (nI j))] → (∀ (H : Heap) (locs : List Loc) (ls : Array Slot), va_P k.1 vwCl (w_M k am sM) H → va_D A (w_M k am sM) → va_S A s.heap H locs → lv_has ls 6 [(0, .ref (am 0)), (1, .int i1), (2, .int i2), (3, .int (g_X5_foretold_in sM i1 i2 jo r j a1)), (4, .int (nI jo))] → W p l e (k_rm 4 98) s m av below meth c H locs 0 0 Q (F0 m 149 ls [])) → W p l e (k_rm 4 98) s m av below meth c H locs 0 0 Q (F0 m 103 ls []) := by
  obtain ⟨hx, hb, hr, hts, hown, hlocks, hml, hA, hK⟩ := id C0
  have hq2 := hNm.2
  intro r
  induction r with
  | zero =>
    intro j a1 H locs ls hj hP hD hS hl hQ
    refine lv_iload hx hb dX5_foretold_103 (lv_at hl 5 rfl) ?_
    refine lv_aload_n hx hb dX5_foretold_105 rfl (lv_at hl 0 rfl) ?_
    refine va_get (D := k.1) (ci := 5) (v := .int (sM 0 2)) (C := RX5) (T := TX5) (N := 28) hx hb hts in_X5_foretold_X5 hown hK hP 0 rfl rfl 5 (by decide) (k_w hts 6 rfl) (fun _ h9 => h9) rfl dX5_foretold_106 ?_
    refine lv_icmp_ge (tgt := 149) hx hb dX5_foretold_109 (by decide) (fun c_1 => ?_) (fun c_1 => ?_)
    rotate_left
    · exact absurd (hNm.ge (by omega)) c_1
    have eg : g_X5_foretold_in sM i1 i2 jo 0 j a1 = a1 := by
      rw [g_X5_foretold_in]
    rw [eg] at hQ
    exact hQ _ _ _ hP hD hS (lv_sub hl [0, 1, 2, 3, 4] rfl)
  | succ r ih =>
    intro j a1 H locs ls hj hP hD hS hl hQ
    refine lv_iload hx hb dX5_foretold_103 (lv_at hl 5 rfl) ?_
    refine lv_aload_n hx hb dX5_foretold_105 rfl (lv_at hl 0 rfl) ?_
    refine va_get (D := k.1) (ci := 5) (v := .int (sM 0 2)) (C := RX5) (T := TX5) (N := 28) hx hb hts in_X5_foretold_X5 hown hK hP 0 rfl rfl 5 (by decide) (k_w hts 6 rfl) (fun _ h9 => h9) rfl dX5_foretold_106 ?_
    refine lv_icmp_ge (tgt := 149) hx hb dX5_foretold_109 (by decide) (fun c_1 => ?_) (fun c_1 => ?_)
    · exact absurd c_1 (hNm.nge (by omega))
    refine lv_iload_n hx hb dX5_foretold_112 rfl (lv_at hl 3 rfl) ?_
    refine lv_aload_n hx hb dX5_foretold_113 rfl (lv_at hl 0 rfl) ?_
    refine lv_iload hx hb dX5_foretold_114 (lv_at hl 4 rfl) ?_
    refine lv_iload hx hb dX5_foretold_116 (lv_at hl 5 rfl) ?_
    refine lv_aload_n hx hb dX5_foretold_118 rfl (lv_at hl 0 rfl) ?_
    refine va_get (D := k.1) (ci := 5) (v := .ref (am 19)) (C := RX5) (T := TX5) (N := 28) hx hb hts in_X5_foretold_X5 hown hK hP 0 rfl rfl 25 (by decide) (k_w hts 4 rfl) (fun _ h9 => h9) rfl dX5_foretold_119 ?_
    refine lv_aload_n hx hb dX5_foretold_122 rfl (lv_at hl 0 rfl) ?_
    refine va_get (D := k.1) (ci := 5) (v := .ref (am 20)) (C := RX5) (T := TX5) (N := 28) hx hb hts in_X5_foretold_X5 hown hK hP 0 rfl rfl 26 (by decide) (k_w hts 5 rfl) (fun _ h9 => h9) rfl dX5_foretold_123 ?_
    refine lv_aload_n hx hb dX5_foretold_126 rfl (lv_at hl 0 rfl) ?_
    refine va_get (D := k.1) (ci := 5) (v := .ref (am 21)) (C := RX5) (T := TX5) (N := 28) hx hb hts in_X5_foretold_X5 hown hK hP 0 rfl rfl 27 (by decide) (k_w hts 7 rfl) (fun _ h9 => h9) rfl dX5_foretold_127 ?_
    refine k_Vi (wr := ([] : va_W)) (ws' := w_M k am sM) (Rv := (f_X5_isTorn_t sM (nI jo) (nI j))) (rest := [.int a1]) ⟨hx, hb, hml, hown, hts⟩ hK hA hP hD hS (c_X5_isTorn_t l k am sM (nI jo) (nI j) (by first | assumption | omega | exact vp_in_nI (by omega) (by omega)) (by first | assumption | omega | exact vp_in_nI (by omega) (by omega)) (by first | assumption | exact k_ofj (by assumption) (by omega))) (cwV 5 hts gX5_foretold_X5_isTorn rfl rfl rfl (by decide +kernel) ⟨Nat.le_of_ble_eq_true rfl, Nat.le_of_ble_eq_true rfl⟩) (va_recv hK hP (ci := 5) (q0 := 0) rfl rfl) rfl hl.1 rfl (Nat.le_of_ble_eq_true rfl) dX5_foretold_130 (Nat.zero_le _) (Nat.zero_le _) [0, 1, 2, 3, 4, 5, 6, 7, 8, 9, 10, 11, 12, 13, 14, 15, 16, 17, 18, 19, 20, 21] [] [0, 1, 2, 3, 4, 5, 6, 7, 8, 9, 10, 11, 12, 13, 14, 15, 16, 17, 18, 19, 20, 21] rfl rfl rfl (by decide) rfl rfl rfl (fun H locs hP hD hS => ?_)
    refine lv_if_eq (tgt := 140) hx hb dX5_foretold_133 (by decide) (fun c_2 => ?_) (fun c_2 => ?_)
    ·
      refine lv_iconst (v := 0) hx hb dX5_foretold_140 (by decide) ?_
      refine lv_iadd hx hb dX5_foretold_141 ?_
      refine lv_istore_n (lv' := [(3, .int (a1 + 0)), (0, .ref (am 0)), (1, .int i1), (2, .int i2), (4, .int (nI jo)), (5, .int (nI j))]) hx hb dX5_foretold_142 rfl hl (by decide) rfl (fun ls hl => ?_)
      refine lv_iinc (v := nI (j + 1)) (lv' := [(5, .int (nI (j + 1))), (3, .int (a1 + 0)), (0, .ref (am 0)), (1, .int i1), (2, .int i2), (4, .int (nI jo))]) hx hb dX5_foretold_143 hl (k := 5) rfl (nI_1 j) (by decide) rfl (fun ls hl => ?_)
      refine lv_goto (tgt := 103) hx hb dX5_foretold_146 (by decide) ?_
      have eg : g_X5_foretold_in sM i1 i2 jo (r + 1) j a1 = g_X5_foretold_in sM i1 i2 jo r (j + 1) (a1 + 0) := by
        rw [g_X5_foretold_in, if_pos c_2]
      rw [eg] at hQ
      exact ih (j + 1) (a1 + 0) _ _ _ (by omega) hP hD hS (lv_sub hl [2, 3, 4, 1, 5, 0] rfl) hQ
    ·
      refine lv_iconst (v := 1) hx hb dX5_foretold_136 (by decide) ?_
      refine lv_goto (tgt := 141) hx hb dX5_foretold_137 (by decide) ?_
      refine lv_iadd hx hb dX5_foretold_141 ?_
      refine lv_istore_n (lv' := [(3, .int (a1 + 1)), (0, .ref (am 0)), (1, .int i1), (2, .int i2), (4, .int (nI jo)), (5, .int (nI j))]) hx hb dX5_foretold_142 rfl hl (by decide) rfl (fun ls hl => ?_)
      refine lv_iinc (v := nI (j + 1)) (lv' := [(5, .int (nI (j + 1))), (3, .int (a1 + 1)), (0, .ref (am 0)), (1, .int i1), (2, .int i2), (4, .int (nI jo))]) hx hb dX5_foretold_143 hl (k := 5) rfl (nI_1 j) (by decide) rfl (fun ls hl => ?_)
      refine lv_goto (tgt := 103) hx hb dX5_foretold_146 (by decide) ?_
      have eg : g_X5_foretold_in sM i1 i2 jo (r + 1) j a1 = g_X5_foretold_in sM i1 i2 jo r (j + 1) (a1 + 1) := by
        rw [g_X5_foretold_in, if_neg c_2]
      rw [eg] at hQ
      exact ih (j + 1) (a1 + 1) _ _ _ (by omega) hP hD hS (lv_sub hl [2, 3, 4, 1, 5, 0] rfl) hQ
def g_X5_foretold_out (sM : Nat → Nat → Int32) (i1 : Int32) (i2 : Int32) : Nat → Nat → Int32 → Int32
  | 0, j, a1 => a1
  | r + 1, j, a1 => if i2 = 1 then g_X5_foretold_out sM i1 i2 r (j + 1) (g_X5_foretold_in sM i1 i2 j ((sM 0 2).toNatClampNeg) 0 a1)
    else if ((sM 19) (nI j).toNatClampNeg) = (-9) then g_X5_foretold_out sM i1 i2 r (j + 1) (a1 + 0)
    else if i2 = 0 then g_X5_foretold_out sM i1 i2 r (j + 1) (a1 + 1)
    else g_X5_foretold_out sM i1 i2 r (j + 1) (a1 + ((sM 20) (nI j).toNatClampNeg))
set_option maxHeartbeats 4000000 in
set_option maxRecDepth 100000 in
theorem lp_X5_foretold_out {p : Program} {l : Launch} {e : Env} {s : State} {m : MethodId} {below : List Frame} {meth : Method} {c : Code} {A : Nat → Prop} {Q : State → Prop} {av : Array Value} (k : K_X) (am : Nat → Nat) (sM : Nat → Nat → Int32) (i1 : Int32) (i2 : Int32) (C0 : k_Cx p s m meth c k cX5_foretold (some .int) wsX5_foretold RX5 6 av A) (hNs : k_n (sM 0 1) 10) (hNm : k_n (sM 0 2) 10) (hO : ∀ j, j < 10 → k_o (sM 21 j) 10) : ∀ (r j : Nat) (a1 : Int32) (H : Heap) (locs : List Loc) (ls : Array Slot), j + r = (sM 0 1).toNatClampNeg → va_P k.1 vwCl (w_M k am sM) H → va_D A (w_M k am sM) → va_S A s.heap H locs → lv_has ls 6 [(0, .ref (am 0)), (1, .int i1), (2, .int i2), (3, .int a1), (4, .int (nI j))] → (∀ (H : Heap) (locs : List Loc) (ls : Array Slot), va_P k.1 vwCl (w_M k am sM) H → va_D A (w_M k am sM) → va_S A s.heap H locs → lv_has ls 6 [(0, .ref (am 0)), (1, .int i1), (2, .int i2), (3, .int (g_X5_foretold_out sM i1 i2 r j a1))] → W p l e (k_rm 4 98) s m av below meth c H locs 0 0 Q (F0 m 155 ls [])) → W p l e (k_rm 4 98) s m av below meth c H locs 0 0 Q (F0 m 49 ls []) := by
  obtain ⟨hx, hb, hr, hts, hown, hlocks, hml, hA, hK⟩ := id C0
  have hq := hNs.2; have hq2 := hNm.2
  intro r
  induction r with
  | zero =>
    intro j a1 H locs ls hj hP hD hS hl hQ
    refine lv_iload hx hb dX5_foretold_49 (lv_at hl 4 rfl) ?_
    refine lv_aload_n hx hb dX5_foretold_51 rfl (lv_at hl 0 rfl) ?_
    refine va_get (D := k.1) (ci := 5) (v := .int (sM 0 1)) (C := RX5) (T := TX5) (N := 28) hx hb hts in_X5_foretold_X5 hown hK hP 0 rfl rfl 1 (by decide) (k_w hts 3 rfl) (fun _ h9 => h9) rfl dX5_foretold_52 ?_
    refine lv_icmp_ge (tgt := 155) hx hb dX5_foretold_55 (by decide) (fun c_1 => ?_) (fun c_1 => ?_)
    rotate_left
    · exact absurd (hNs.ge (by omega)) c_1
    have eg : g_X5_foretold_out sM i1 i2 0 j a1 = a1 := by
      rw [g_X5_foretold_out]
    rw [eg] at hQ
    exact hQ _ _ _ hP hD hS (lv_sub hl [0, 1, 2, 3] rfl)
  | succ r ih =>
    intro j a1 H locs ls hj hP hD hS hl hQ
    refine lv_iload hx hb dX5_foretold_49 (lv_at hl 4 rfl) ?_
    refine lv_aload_n hx hb dX5_foretold_51 rfl (lv_at hl 0 rfl) ?_
    refine va_get (D := k.1) (ci := 5) (v := .int (sM 0 1)) (C := RX5) (T := TX5) (N := 28) hx hb hts in_X5_foretold_X5 hown hK hP 0 rfl rfl 1 (by decide) (k_w hts 3 rfl) (fun _ h9 => h9) rfl dX5_foretold_52 ?_
    refine lv_icmp_ge (tgt := 155) hx hb dX5_foretold_55 (by decide) (fun c_1 => ?_) (fun c_1 => ?_)
    · exact absurd c_1 (hNs.nge (by omega))
    refine lv_iload_n hx hb dX5_foretold_58 rfl (lv_at hl 2 rfl) ?_
    refine lv_iconst (v := 1) hx hb dX5_foretold_59 (by decide) ?_
    refine lv_icmp_eq (tgt := 100) hx hb dX5_foretold_60 (by decide) (fun c_2 => ?_) (fun c_2 => ?_)
    ·
      refine lv_iconst (v := 0) hx hb dX5_foretold_100 (by decide) ?_
      refine lv_istore (lv' := [(5, .int 0), (0, .ref (am 0)), (1, .int i1), (2, .int i2), (3, .int a1), (4, .int (nI j))]) hx hb dX5_foretold_101 hl (by decide) rfl (fun ls hl => ?_)
      have hl : lv_has ls 6 [(0, .ref (am 0)), (1, .int i1), (2, .int i2), (3, .int a1), (4, .int (nI j)), (5, .int (nI 0))] := lv_sub hl [1, 2, 3, 4, 5, 0] rfl
      refine lp_X5_foretold_in k am sM i1 i2 j C0 (by first | assumption | omega) (by first | assumption | omega) (by first | assumption | omega) ((sM 0 2).toNatClampNeg) 0 a1 _ _ _ (by omega) hP hD hS hl (fun H locs ls hP hD hS hl => ?_)
      refine lv_iinc (v := nI (j + 1)) (lv' := [(4, .int (nI (j + 1))), (0, .ref (am 0)), (1, .int i1), (2, .int i2), (3, .int (g_X5_foretold_in sM i1 i2 j ((sM 0 2).toNatClampNeg) 0 a1))]) hx hb dX5_foretold_149 hl (k := 4) rfl (nI_1 j) (by decide) rfl (fun ls hl => ?_)
      refine lv_goto (tgt := 49) hx hb dX5_foretold_152 (by decide) ?_
      have eg : g_X5_foretold_out sM i1 i2 (r + 1) j a1 = g_X5_foretold_out sM i1 i2 r (j + 1) (g_X5_foretold_in sM i1 i2 j ((sM 0 2).toNatClampNeg) 0 a1) := by
        rw [g_X5_foretold_out, if_pos c_2]
      rw [eg] at hQ
      exact ih (j + 1) (g_X5_foretold_in sM i1 i2 j ((sM 0 2).toNatClampNeg) 0 a1) _ _ _ (by omega) hP hD hS (lv_sub hl [1, 2, 3, 4, 0] rfl) hQ
    ·
      refine lv_iload_n hx hb dX5_foretold_63 rfl (lv_at hl 3 rfl) ?_
      refine lv_aload_n hx hb dX5_foretold_64 rfl (lv_at hl 0 rfl) ?_
      refine va_get (D := k.1) (ci := 5) (v := .ref (am 19)) (C := RX5) (T := TX5) (N := 28) hx hb hts in_X5_foretold_X5 hown hK hP 0 rfl rfl 25 (by decide) (k_w hts 4 rfl) (fun _ h9 => h9) rfl dX5_foretold_65 ?_
      refine lv_iload hx hb dX5_foretold_68 (lv_at hl 4 rfl) ?_
      refine va_iald (f := sM 19) hx hb hK hP 19 0 rfl rfl (vp_in_nI (by omega) (by omega)) dX5_foretold_70 ?_
      refine lv_bipush (v := (-9)) hx hb dX5_foretold_71 (by decide) ?_
      refine lv_icmp_ne (tgt := 80) hx hb dX5_foretold_73 (by decide) (fun c_3 => ?_) (fun c_3 => ?_)
      ·
        refine lv_iload_n hx hb dX5_foretold_80 rfl (lv_at hl 2 rfl) ?_
        refine lv_if_ne (tgt := 88) hx hb dX5_foretold_81 (by decide) (fun c_4 => ?_) (fun c_4 => ?_)
        ·
          refine lv_aload_n hx hb dX5_foretold_88 rfl (lv_at hl 0 rfl) ?_
          refine va_get (D := k.1) (ci := 5) (v := .ref (am 20)) (C := RX5) (T := TX5) (N := 28) hx hb hts in_X5_foretold_X5 hown hK hP 0 rfl rfl 26 (by decide) (k_w hts 5 rfl) (fun _ h9 => h9) rfl dX5_foretold_89 ?_
          refine lv_iload hx hb dX5_foretold_92 (lv_at hl 4 rfl) ?_
          refine va_iald (f := sM 20) hx hb hK hP 20 0 rfl rfl (vp_in_nI (by omega) (by omega)) dX5_foretold_94 ?_
          refine lv_iadd hx hb dX5_foretold_95 ?_
          refine lv_istore_n (lv' := [(3, .int (a1 + ((sM 20) (nI j).toNatClampNeg))), (0, .ref (am 0)), (1, .int i1), (2, .int i2), (4, .int (nI j))]) hx hb dX5_foretold_96 rfl hl (by decide) rfl (fun ls hl => ?_)
          refine lv_goto (tgt := 149) hx hb dX5_foretold_97 (by decide) ?_
          refine lv_iinc (v := nI (j + 1)) (lv' := [(4, .int (nI (j + 1))), (3, .int (a1 + ((sM 20) (nI j).toNatClampNeg))), (0, .ref (am 0)), (1, .int i1), (2, .int i2)]) hx hb dX5_foretold_149 hl (k := 4) rfl (nI_1 j) (by decide) rfl (fun ls hl => ?_)
          refine lv_goto (tgt := 49) hx hb dX5_foretold_152 (by decide) ?_
          have eg : g_X5_foretold_out sM i1 i2 (r + 1) j a1 = g_X5_foretold_out sM i1 i2 r (j + 1) (a1 + ((sM 20) (nI j).toNatClampNeg)) := by
            rw [g_X5_foretold_out, if_neg c_2, if_neg c_3, if_neg c_4]
          rw [eg] at hQ
          exact ih (j + 1) (a1 + ((sM 20) (nI j).toNatClampNeg)) _ _ _ (by omega) hP hD hS (lv_sub hl [2, 3, 4, 1, 0] rfl) hQ
        ·
          refine lv_iconst (v := 1) hx hb dX5_foretold_84 (by decide) ?_
          refine lv_goto (tgt := 95) hx hb dX5_foretold_85 (by decide) ?_
          refine lv_iadd hx hb dX5_foretold_95 ?_
          refine lv_istore_n (lv' := [(3, .int (a1 + 1)), (0, .ref (am 0)), (1, .int i1), (2, .int i2), (4, .int (nI j))]) hx hb dX5_foretold_96 rfl hl (by decide) rfl (fun ls hl => ?_)
          refine lv_goto (tgt := 149) hx hb dX5_foretold_97 (by decide) ?_
          refine lv_iinc (v := nI (j + 1)) (lv' := [(4, .int (nI (j + 1))), (3, .int (a1 + 1)), (0, .ref (am 0)), (1, .int i1), (2, .int i2)]) hx hb dX5_foretold_149 hl (k := 4) rfl (nI_1 j) (by decide) rfl (fun ls hl => ?_)
          refine lv_goto (tgt := 49) hx hb dX5_foretold_152 (by decide) ?_
          have eg : g_X5_foretold_out sM i1 i2 (r + 1) j a1 = g_X5_foretold_out sM i1 i2 r (j + 1) (a1 + 1) := by
            rw [g_X5_foretold_out, if_neg c_2, if_neg c_3, if_pos c_4]
          rw [eg] at hQ
          exact ih (j + 1) (a1 + 1) _ _ _ (by omega) hP hD hS (lv_sub hl [2, 3, 4, 1, 0] rfl) hQ
      ·
        refine lv_iconst (v := 0) hx hb dX5_foretold_76 (by decide) ?_
        refine lv_goto (tgt := 95) hx hb dX5_foretold_77 (by decide) ?_
        refine lv_iadd hx hb dX5_foretold_95 ?_
        refine lv_istore_n (lv' := [(3, .int (a1 + 0)), (0, .ref (am 0)), (1, .int i1), (2, .int i2), (4, .int (nI j))]) hx hb dX5_foretold_96 rfl hl (by decide) rfl (fun ls hl => ?_)
        refine lv_goto (tgt := 149) hx hb dX5_foretold_97 (by decide) ?_
        refine lv_iinc (v := nI (j + 1)) (lv' := [(4, .int (nI (j + 1))), (3, .int (a1 + 0)), (0, .ref (am 0)), (1, .int i1), (2, .int i2)]) hx hb dX5_foretold_149 hl (k := 4) rfl (nI_1 j) (by decide) rfl (fun ls hl => ?_)
        refine lv_goto (tgt := 49) hx hb dX5_foretold_152 (by decide) ?_
        have eg : g_X5_foretold_out sM i1 i2 (r + 1) j a1 = g_X5_foretold_out sM i1 i2 r (j + 1) (a1 + 0) := by
          rw [g_X5_foretold_out, if_neg c_2, if_pos c_3]
        rw [eg] at hQ
        exact ih (j + 1) (a1 + 0) _ _ _ (by omega) hP hD hS (lv_sub hl [2, 3, 4, 1, 0] rfl) hQ
def f_X5_foretold (sM : Nat → Nat → Int32) (i1 : Int32) (i2 : Int32) : Int32 × (Nat → Nat → Int32) :=
  if (f_X5_in i1.toInt64 0 1) = 0 then ((-2), sM)
  else if (f_X5_in i2.toInt64 0 2) = 0 then ((-2), sM)
  else if i1 = 1 then ((g_X5_foretold_out ((f_X5_foretell sM 1)) i1 i2 ((((f_X5_foretell sM 1)) 0 1).toNatClampNeg) 0 0), ((f_X5_foretell sM 1)))
  else ((g_X5_foretold_out ((f_X5_foretell sM 0)) i1 i2 ((((f_X5_foretell sM 0)) 0 1).toNatClampNeg) 0 0), ((f_X5_foretell sM 0)))
set_option maxHeartbeats 4000000 in
set_option maxRecDepth 100000 in
theorem c_X5_foretold (l : Launch) (k : K_X) (am : Nat → Nat) (sM : Nat → Nat → Int32) (i1 : Int32) (i2 : Int32) (hT : sM 0 0 = 0) (hI0 : (sM 0 2) = nI (sM 0 2).toNatClampNeg ∧ (sM 0 2).toNatClampNeg ≤ 10 ∧ k_n (sM 0 1) 10) : k_C l yX5_foretold wsX5_foretold (k_rm 4 98) k [.ref (am 0), .int i1, .int i2] (w_M k am sM) (k_qI k ((f_X5_foretold sM i1 i2).1) (w_M k am ((f_X5_foretold sM i1 i2).2))) := by
  refine k_mk (cc := cX5_foretold) (maxL := 6) (ret := (some .int)) (by decide) rfl (Nat.le_of_ble_eq_true rfl) ?_
  intro p e s m below meth c A ls C0 hP hD hS hl
  obtain ⟨hx, hb, hr, hts, hown, hlocks, hml, hA, hK⟩ := id C0
  have hown : s.vm.findClass RX5 = some m.cls := hown
  have hl : lv_has ls 6 [(0, .ref (am 0)), (1, .int i1), (2, .int i2)] := hl
  refine lv_aload_n hx hb dX5_foretold_0 rfl (lv_at hl 0 rfl) ?_
  refine lv_iconst (v := 0) hx hb dX5_foretold_1 (by decide) ?_
  refine va_put (D := k.1) (ci := 5) (v := .int 0) (ty := .int) (C := RX5) (T := TX5) (N := 28) hx hb hts in_X5_foretold_X5 tyX5 tyX5_ok nmX5 hown hK hP hD hS 0 rfl rfl 0 (by decide) (k_w hts 1 rfl) (fun _ h9 => h9) rfl (by decide +kernel) rfl rfl (Nat.le_of_ble_eq_true rfl) dX5_foretold_2 (fun H locs hP hD hS => ?_)
  have hP := k_cP (w_M_s0 k am sM 0) hP
  have hD := k_cD (w_M_s0 k am sM 0) hD
  rw [k_thr hT] at hP hD
  refine lv_iload_n hx hb dX5_foretold_5 rfl (lv_at hl 1 rfl) ?_
  refine lv_i2l (v := i1.toInt64) hx hb dX5_foretold_6 rfl ?_
  refine lv_lconst (v := 0) hx hb dX5_foretold_7 (by decide) ?_
  refine lv_lconst (v := 1) hx hb dX5_foretold_8 (by decide) ?_
  refine k_Si (wr := w_M k am sM) (ws' := w_M k am sM) (Rv := (f_X5_in i1.toInt64 0 1)) (rest := []) ⟨hx, hb, hml, hown, hts⟩ hK hA hP hD hS (c_X5_in l k i1.toInt64 0 1) (va_cwS 3 hts gX5_foretold_X5_in rfl rfl rfl (by decide +kernel) ⟨Nat.le_of_ble_eq_true rfl, Nat.le_of_ble_eq_true rfl⟩) rfl hl.1 rfl (Nat.le_of_ble_eq_true rfl) dX5_foretold_9 (Nat.zero_le _) (Nat.zero_le _) [] [0, 1, 2, 3, 4, 5, 6, 7, 8, 9, 10, 11, 12, 13, 14, 15, 16, 17, 18, 19, 20, 21] [0, 1, 2, 3, 4, 5, 6, 7, 8, 9, 10, 11, 12, 13, 14, 15, 16, 17, 18, 19, 20, 21] rfl rfl rfl (by decide) rfl rfl rfl (fun H locs hP hD hS => ?_)
  refine lv_if_eq (tgt := 27) hx hb dX5_foretold_12 (by decide) (fun c_1 => ?_) (fun c_1 => ?_)
  ·
    refine lv_bipush (v := (-2)) hx hb dX5_foretold_27 (by decide) ?_
    have ef : f_X5_foretold sM i1 i2 = ((-2), sM) := by
      rw [f_X5_foretold, if_pos c_1]
    exact k_reti hx hb hr hK (by rw [ef]; exact hP) (by rw [ef]; exact hD) hS hlocks dX5_foretold_29 (by rw [ef])
  ·
    refine lv_iload_n hx hb dX5_foretold_15 rfl (lv_at hl 2 rfl) ?_
    refine lv_i2l (v := i2.toInt64) hx hb dX5_foretold_16 rfl ?_
    refine lv_lconst (v := 0) hx hb dX5_foretold_17 (by decide) ?_
    refine lv_ldc2 hx hb hown (k_w hts 2 rfl) dX5_foretold_18 ?_
    refine k_Si (wr := w_M k am sM) (ws' := w_M k am sM) (Rv := (f_X5_in i2.toInt64 0 2)) (rest := []) ⟨hx, hb, hml, hown, hts⟩ hK hA hP hD hS (c_X5_in l k i2.toInt64 0 2) (va_cwS 3 hts gX5_foretold_X5_in rfl rfl rfl (by decide +kernel) ⟨Nat.le_of_ble_eq_true rfl, Nat.le_of_ble_eq_true rfl⟩) rfl hl.1 rfl (Nat.le_of_ble_eq_true rfl) dX5_foretold_21 (Nat.zero_le _) (Nat.zero_le _) [] [0, 1, 2, 3, 4, 5, 6, 7, 8, 9, 10, 11, 12, 13, 14, 15, 16, 17, 18, 19, 20, 21] [0, 1, 2, 3, 4, 5, 6, 7, 8, 9, 10, 11, 12, 13, 14, 15, 16, 17, 18, 19, 20, 21] rfl rfl rfl (by decide) rfl rfl rfl (fun H locs hP hD hS => ?_)
    refine lv_if_ne (tgt := 30) hx hb dX5_foretold_24 (by decide) (fun c_2 => ?_) (fun c_2 => ?_)
    ·
      refine lv_aload_n hx hb dX5_foretold_30 rfl (lv_at hl 0 rfl) ?_
      refine lv_iload_n hx hb dX5_foretold_31 rfl (lv_at hl 1 rfl) ?_
      refine lv_iconst (v := 1) hx hb dX5_foretold_32 (by decide) ?_
      refine lv_icmp_ne (tgt := 40) hx hb dX5_foretold_33 (by decide) (fun c_3 => ?_) (fun c_3 => ?_)
      ·
        refine lv_iconst (v := 0) hx hb dX5_foretold_40 (by decide) ?_
        refine k_Vv (wr := ([] : va_W)) (ws' := w_M k am (f_X5_foretell sM 0)) (rest := []) ⟨hx, hb, hml, hown, hts⟩ hK hA hP hD hS (c_X5_foretell l k am sM 0 (hI0)) (cwV 1 hts gX5_foretold_X5_foretell rfl rfl rfl (by decide +kernel) ⟨Nat.le_of_ble_eq_true rfl, Nat.le_of_ble_eq_true rfl⟩) (va_recv hK hP (ci := 5) (q0 := 0) rfl rfl) rfl hl.1 rfl (Nat.le_of_ble_eq_true rfl) dX5_foretold_41 (Nat.zero_le _) (Nat.zero_le _) [0, 1, 2, 3, 4, 5, 6, 7, 8, 9, 10, 11, 12, 13, 14, 15, 16, 17, 18, 19, 20, 21] [] [0, 1, 2, 3, 4, 5, 6, 7, 8, 9, 10, 11, 12, 13, 14, 15, 16, 17, 18, 19, 20, 21] rfl rfl rfl (by decide) rfl rfl rfl (fun H locs hP hD hS => ?_)
        obtain ⟨z_4, ez_4⟩ : ∃ z, z = f_X5_foretell sM 0 := ⟨_, rfl⟩
        rw [← ez_4] at hP hD
        refine lv_iconst (v := 0) hx hb dX5_foretold_44 (by decide) ?_
        refine lv_istore_n (lv' := [(3, .int 0), (0, .ref (am 0)), (1, .int i1), (2, .int i2)]) hx hb dX5_foretold_45 rfl hl (by decide) rfl (fun ls hl => ?_)
        refine lv_iconst (v := 0) hx hb dX5_foretold_46 (by decide) ?_
        refine lv_istore (lv' := [(4, .int 0), (3, .int 0), (0, .ref (am 0)), (1, .int i1), (2, .int i2)]) hx hb dX5_foretold_47 hl (by decide) rfl (fun ls hl => ?_)
        have hl : lv_has ls 6 [(0, .ref (am 0)), (1, .int i1), (2, .int i2), (3, .int 0), (4, .int (nI 0))] := lv_sub hl [2, 3, 4, 1, 0] rfl
        refine lp_X5_foretold_out k am (z_4) i1 i2 C0 (by subst_vars; exact (k_TI_fore hI0).2.2.1) (by subst_vars; exact (k_TI_fore hI0).nm) (by subst_vars; exact (k_TI_fore hI0).2.2.2.2) (((z_4) 0 1).toNatClampNeg) 0 0 _ _ _ (by omega) hP hD hS hl (fun H locs ls hP hD hS hl => ?_)
        refine lv_iload_n hx hb dX5_foretold_155 rfl (lv_at hl 3 rfl) ?_
        have ef : f_X5_foretold sM i1 i2 = ((g_X5_foretold_out (z_4) i1 i2 (((z_4) 0 1).toNatClampNeg) 0 0), (z_4)) := by
          rw [f_X5_foretold, ← ez_4, if_neg c_1, if_neg c_2, if_neg c_3]
        exact k_reti hx hb hr hK (by rw [ef]; exact hP) (by rw [ef]; exact hD) hS hlocks dX5_foretold_156 (by rw [ef])
      ·
        refine lv_iconst (v := 1) hx hb dX5_foretold_36 (by decide) ?_
        refine lv_goto (tgt := 41) hx hb dX5_foretold_37 (by decide) ?_
        refine k_Vv (wr := ([] : va_W)) (ws' := w_M k am (f_X5_foretell sM 1)) (rest := []) ⟨hx, hb, hml, hown, hts⟩ hK hA hP hD hS (c_X5_foretell l k am sM 1 (hI0)) (cwV 1 hts gX5_foretold_X5_foretell rfl rfl rfl (by decide +kernel) ⟨Nat.le_of_ble_eq_true rfl, Nat.le_of_ble_eq_true rfl⟩) (va_recv hK hP (ci := 5) (q0 := 0) rfl rfl) rfl hl.1 rfl (Nat.le_of_ble_eq_true rfl) dX5_foretold_41 (Nat.zero_le _) (Nat.zero_le _) [0, 1, 2, 3, 4, 5, 6, 7, 8, 9, 10, 11, 12, 13, 14, 15, 16, 17, 18, 19, 20, 21] [] [0, 1, 2, 3, 4, 5, 6, 7, 8, 9, 10, 11, 12, 13, 14, 15, 16, 17, 18, 19, 20, 21] rfl rfl rfl (by decide) rfl rfl rfl (fun H locs hP hD hS => ?_)
        obtain ⟨z_5, ez_5⟩ : ∃ z, z = f_X5_foretell sM 1 := ⟨_, rfl⟩
        rw [← ez_5] at hP hD
        refine lv_iconst (v := 0) hx hb dX5_foretold_44 (by decide) ?_
        refine lv_istore_n (lv' := [(3, .int 0), (0, .ref (am 0)), (1, .int i1), (2, .int i2)]) hx hb dX5_foretold_45 rfl hl (by decide) rfl (fun ls hl => ?_)
        refine lv_iconst (v := 0) hx hb dX5_foretold_46 (by decide) ?_
        refine lv_istore (lv' := [(4, .int 0), (3, .int 0), (0, .ref (am 0)), (1, .int i1), (2, .int i2)]) hx hb dX5_foretold_47 hl (by decide) rfl (fun ls hl => ?_)
        have hl : lv_has ls 6 [(0, .ref (am 0)), (1, .int i1), (2, .int i2), (3, .int 0), (4, .int (nI 0))] := lv_sub hl [2, 3, 4, 1, 0] rfl
        refine lp_X5_foretold_out k am (z_5) i1 i2 C0 (by subst_vars; exact (k_TI_fore hI0).2.2.1) (by subst_vars; exact (k_TI_fore hI0).nm) (by subst_vars; exact (k_TI_fore hI0).2.2.2.2) (((z_5) 0 1).toNatClampNeg) 0 0 _ _ _ (by omega) hP hD hS hl (fun H locs ls hP hD hS hl => ?_)
        refine lv_iload_n hx hb dX5_foretold_155 rfl (lv_at hl 3 rfl) ?_
        have ef : f_X5_foretold sM i1 i2 = ((g_X5_foretold_out (z_5) i1 i2 (((z_5) 0 1).toNatClampNeg) 0 0), (z_5)) := by
          rw [f_X5_foretold, ← ez_5, if_neg c_1, if_neg c_2, if_pos c_3]
        exact k_reti hx hb hr hK (by rw [ef]; exact hP) (by rw [ef]; exact hD) hS hlocks dX5_foretold_156 (by rw [ef])
    ·
      refine lv_bipush (v := (-2)) hx hb dX5_foretold_27 (by decide) ?_
      have ef : f_X5_foretold sM i1 i2 = ((-2), sM) := by
        rw [f_X5_foretold, if_neg c_1, if_pos c_2]
      exact k_reti hx hb hr hK (by rw [ef]; exact hP) (by rw [ef]; exact hD) hS hlocks dX5_foretold_29 (by rw [ef])
