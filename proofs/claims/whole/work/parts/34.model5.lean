theorem k_MI_ask {NM : Nat} {M : Nat → Nat → Int32} {i1 : Int32} (h1 : vp_in i1 10) (hI : k_MI NM M) : k_MI NM (f_X5_ask M i1) := by
  unfold f_X5_ask
  split
  · split
    · exact hI
    · rename_i q1 hc
      have hs := k_mch h1 hI.2.2.1 hc
      have hz := ((k_mchoice h1 hI.2.2.1).resolve_left hc).2
      have a := k_lt h1
      have b := k_lt hs
      have hcnt : M 0 4 + 1 = nI (cntZ (upd (M 8) ((10 * i1) + (f_X5_nextOf M i1)).toNatClampNeg (vp_nar .boolean 1)) 100) := by
        rw [k_ix10 h1 hs, cntZ_upd (M 8) hz (by decide) 100 (by omega), hI.2.2.2.2.2, nI_1]
      have h9 := k_updo (i := (f_X5_nextOf M i1).toNatClampNeg) hI.2.2.2.1 (Or.inr h1)
      have h12 := k_updo (i := i1.toNatClampNeg) hI.2.2.2.2.1 (Or.inr hs)
      have h12b := k_updo (i := i1.toNatClampNeg) (k_updo (i := (M 9 (f_X5_nextOf M i1).toNatClampNeg).toNatClampNeg) (v := -9) hI.2.2.2.2.1 (Or.inl rfl)) (Or.inr hs)
      repeat' split
      all_goals exact ⟨hI.1, hI.2.1, hI.2.2.1, by first | exact hI.2.2.2.1 | exact h9, by first | exact hI.2.2.2.2.1 | exact h12 | exact h12b, hcnt⟩
  · exact hI
theorem in_X5_go_X5 : ∀ w ∈ wsX50, w ∈ wsX5_go := fun _ h => List.mem_cons_of_mem _ (List.mem_append_right _ h)
def g_X5_go_in (i1 : Int32) (jo : Nat) (NM : Nat) : Nat → Nat → (Nat → Nat → Int32) → (Nat → Nat → Int32)
  | 0, j, sM => sM
  | r + 1, j, sM => g_X5_go_in i1 jo NM r (j + 1) ((f_X5_ask sM (nI j)))
set_option maxHeartbeats 4000000 in
set_option maxRecDepth 100000 in
theorem lp_X5_go_in {p : Program} {l : Launch} {e : Env} {s : State} {m : MethodId} {below : List Frame} {meth : Method} {c : Code} {A : Nat → Prop} {Q : State → Prop} {av : Array Value} (k : K_X) (am : Nat → Nat) (i1 : Int32) (jo : Nat) (NM : Nat) (C0 : k_Cx p s m meth c k cX5_go (some .int) wsX5_go RX5 4 av A) (hN10 : NM ≤ 10) : ∀ (r j : Nat) (sM : Nat → Nat → Int32) (H : Heap) (locs : List Loc) (ls : Array Slot), j + r = NM → k_MI NM sM → va_P k.1 vwCl (w_M k am sM) H → va_D A (w_M k am sM) → va_S A s.heap H locs → lv_has ls 4 [(0, .ref (am 0)), (1, .int i1), (2, .int (nI jo)), (3, .int (nI j))] → (∀ (H : Heap) (locs : List Loc) (ls : Array Slot), va_P k.1 vwCl (w_M k am (g_X5_go_in i1 jo NM r j sM)) H → va_D A (w_M k am (g_X5_go_in i1 jo NM r j sM)) → va_S A s.heap H locs → lv_has ls 4 [(0, .ref (am 0)), (1, .int i1), (2, .int (nI jo))] → W p l e (k_rm 4 97) s m av below meth c H locs 0 0 Q (F0 m 70 ls [])) → W p l e (k_rm 4 97) s m av below meth c H locs 0 0 Q (F0 m 51 ls []) := by
  obtain ⟨hx, hb, hr, hts, hown, hlocks, hml, hA, hK⟩ := id C0
  intro r
  induction r with
  | zero =>
    intro j sM H locs ls hj hI hP hD hS hl hQ
    refine lv_iload_n hx hb dX5_go_51 rfl (lv_at hl 3 rfl) ?_
    refine lv_aload_n hx hb dX5_go_52 rfl (lv_at hl 0 rfl) ?_
    refine va_get (D := k.1) (ci := 5) (v := .int (sM 0 2)) (C := RX5) (T := TX5) (N := 28) hx hb hts in_X5_go_X5 hown hK hP 0 rfl rfl 5 (by decide) (k_w hts 5 rfl) (fun _ h9 => h9) rfl dX5_go_53 ?_
    refine lv_icmp_ge (tgt := 70) hx hb dX5_go_56 (by decide) (fun c_1 => ?_) (fun c_1 => ?_)
    rotate_left
    · exact absurd (by rw [hI.1]; exact nI_le (by omega) (by omega)) c_1
    have eg : g_X5_go_in i1 jo NM 0 j sM = sM := by
      rw [g_X5_go_in]
    rw [eg] at hQ
    exact hQ _ _ _ hP hD hS (lv_sub hl [0, 1, 2] rfl)
  | succ r ih =>
    intro j sM H locs ls hj hI hP hD hS hl hQ
    refine lv_iload_n hx hb dX5_go_51 rfl (lv_at hl 3 rfl) ?_
    refine lv_aload_n hx hb dX5_go_52 rfl (lv_at hl 0 rfl) ?_
    refine va_get (D := k.1) (ci := 5) (v := .int (sM 0 2)) (C := RX5) (T := TX5) (N := 28) hx hb hts in_X5_go_X5 hown hK hP 0 rfl rfl 5 (by decide) (k_w hts 5 rfl) (fun _ h9 => h9) rfl dX5_go_53 ?_
    refine lv_icmp_ge (tgt := 70) hx hb dX5_go_56 (by decide) (fun c_1 => ?_) (fun c_1 => ?_)
    · exact absurd c_1 (by rw [hI.1]; exact nI_ge (by omega) (by omega))
    refine lv_aload_n hx hb dX5_go_59 rfl (lv_at hl 0 rfl) ?_
    refine lv_iload_n hx hb dX5_go_60 rfl (lv_at hl 3 rfl) ?_
    refine k_Vv (wr := ([] : va_W)) (ws' := w_M k am (f_X5_ask sM (nI j))) (rest := []) ⟨hx, hb, hml, hown, hts⟩ hK hA hP hD hS (c_X5_ask l k am sM (nI j) (vp_in_nI (by omega) (by omega)) (hI.2.2.1) (hI.2.2.2.1) (hI.bg (vp_in_nI (by omega) (by omega)))) (cwV 1 hts gX5_go_X5_ask rfl rfl rfl (by decide +kernel) ⟨Nat.le_of_ble_eq_true rfl, Nat.le_of_ble_eq_true rfl⟩) (va_recv hK hP (ci := 5) (q0 := 0) rfl rfl) rfl hl.1 rfl (Nat.le_of_ble_eq_true rfl) dX5_go_61 (Nat.zero_le _) (Nat.zero_le _) [0, 1, 2, 3, 4, 5, 6, 7, 8, 9, 10, 11, 12, 13, 14, 15, 16, 17, 18, 19, 20, 21] [] [0, 1, 2, 3, 4, 5, 6, 7, 8, 9, 10, 11, 12, 13, 14, 15, 16, 17, 18, 19, 20, 21] rfl rfl rfl (by decide) rfl rfl rfl (fun H locs hP hD hS => ?_)
    obtain ⟨z_2, ez_2⟩ : ∃ z, z = f_X5_ask sM (nI j) := ⟨_, rfl⟩
    rw [← ez_2] at hP hD
    refine lv_iinc (v := nI (j + 1)) (lv' := [(3, .int (nI (j + 1))), (0, .ref (am 0)), (1, .int i1), (2, .int (nI jo))]) hx hb dX5_go_64 hl (k := 3) rfl (nI_1 j) (by decide) rfl (fun ls hl => ?_)
    refine lv_goto (tgt := 51) hx hb dX5_go_67 (by decide) ?_
    have eg : g_X5_go_in i1 jo NM (r + 1) j sM = g_X5_go_in i1 jo NM r (j + 1) (z_2) := by
      rw [g_X5_go_in, ← ez_2]
    rw [eg] at hQ
    exact ih (j + 1) (z_2) _ _ _ (by omega) (by subst_vars; exact k_MI_ask (vp_in_nI (by omega) (by omega)) hI) hP hD hS (lv_sub hl [1, 2, 3, 0] rfl) hQ
theorem k_MI_goin_lp {NM : Nat} (i1 : Int32) (jo : Nat) : ∀ (r j : Nat) (M : Nat → Nat → Int32), j + r ≤ 10 → k_MI NM M → k_MI NM (g_X5_go_in i1 jo NM r j M) := by
  intro r
  induction r with
  | zero => intro j M _ hI; rw [g_X5_go_in]; exact hI
  | succ r ih => intro j M hj hI; rw [g_X5_go_in]; exact ih _ _ (by omega) (k_MI_ask (vp_in_nI (by omega) (by omega)) hI)
theorem k_MI_goin {NM : Nat} {M : Nat → Nat → Int32} {i1 v : Int32} {jo : Nat} (hN : NM ≤ 10) (hI : k_MI NM M) : k_MI NM (k_st (g_X5_go_in i1 jo NM NM 0 M) 0 (k_st ((g_X5_go_in i1 jo NM NM 0 M) 0) 3 v)) := k_MI_goin_lp i1 jo NM 0 M (by omega) hI
def g_X5_go_out (i1 : Int32) (NM : Nat) : Nat → Nat → (Nat → Nat → Int32) → (Nat → Nat → Int32)
  | 0, j, sM => sM
  | r + 1, j, sM => if 240 ≤ (sM 0 3) then sM
    else g_X5_go_out i1 NM r (j + 1) (k_st ((g_X5_go_in i1 j NM NM 0 sM)) 0 (k_st (((g_X5_go_in i1 j NM NM 0 sM)) 0) 3 ((((g_X5_go_in i1 j NM NM 0 sM)) 0 3) + 1)))
set_option maxHeartbeats 4000000 in
set_option maxRecDepth 100000 in
theorem lp_X5_go_out {p : Program} {l : Launch} {e : Env} {s : State} {m : MethodId} {below : List Frame} {meth : Method} {c : Code} {A : Nat → Prop} {Q : State → Prop} {av : Array Value} (k : K_X) (am : Nat → Nat) (i1 : Int32) (NM : Nat) (C0 : k_Cx p s m meth c k cX5_go (some .int) wsX5_go RX5 4 av A) (hN10 : NM ≤ 10) (hi : k_n i1 240) : ∀ (r j : Nat) (sM : Nat → Nat → Int32) (H : Heap) (locs : List Loc) (ls : Array Slot), j + r = i1.toNatClampNeg → k_MI NM sM → va_P k.1 vwCl (w_M k am sM) H → va_D A (w_M k am sM) → va_S A s.heap H locs → lv_has ls 4 [(0, .ref (am 0)), (1, .int i1), (2, .int (nI j))] → (∀ (H : Heap) (locs : List Loc) (ls : Array Slot), va_P k.1 vwCl (w_M k am (g_X5_go_out i1 NM r j sM)) H → va_D A (w_M k am (g_X5_go_out i1 NM r j sM)) → va_S A s.heap H locs → lv_has ls 4 [(0, .ref (am 0)), (1, .int i1)] → W p l e (k_rm 4 97) s m av below meth c H locs 0 0 Q (F0 m 86 ls [])) → W p l e (k_rm 4 97) s m av below meth c H locs 0 0 Q (F0 m 34 ls []) := by
  obtain ⟨hx, hb, hr, hts, hown, hlocks, hml, hA, hK⟩ := id C0
  have hq := hi.2
  intro r
  induction r with
  | zero =>
    intro j sM H locs ls hj hI hP hD hS hl hQ
    refine lv_iload_n hx hb dX5_go_34 rfl (lv_at hl 2 rfl) ?_
    refine lv_iload_n hx hb dX5_go_35 rfl (lv_at hl 1 rfl) ?_
    refine lv_icmp_ge (tgt := 86) hx hb dX5_go_36 (by decide) (fun c_1 => ?_) (fun c_1 => ?_)
    rotate_left
    · exact absurd (hi.ge (by omega)) c_1
    have eg : g_X5_go_out i1 NM 0 j sM = sM := by
      rw [g_X5_go_out]
    rw [eg] at hQ
    exact hQ _ _ _ hP hD hS (lv_sub hl [0, 1] rfl)
  | succ r ih =>
    intro j sM H locs ls hj hI hP hD hS hl hQ
    refine lv_iload_n hx hb dX5_go_34 rfl (lv_at hl 2 rfl) ?_
    refine lv_iload_n hx hb dX5_go_35 rfl (lv_at hl 1 rfl) ?_
    refine lv_icmp_ge (tgt := 86) hx hb dX5_go_36 (by decide) (fun c_1 => ?_) (fun c_1 => ?_)
    · exact absurd c_1 (hi.nge (by omega))
    refine lv_aload_n hx hb dX5_go_39 rfl (lv_at hl 0 rfl) ?_
    refine va_get (D := k.1) (ci := 5) (v := .int (sM 0 3)) (C := RX5) (T := TX5) (N := 28) hx hb hts in_X5_go_X5 hown hK hP 0 rfl rfl 15 (by decide) (k_w hts 4 rfl) (fun _ h9 => h9) rfl dX5_go_40 ?_
    refine lv_sipush (v := 240) hx hb dX5_go_43 (by decide) ?_
    refine lv_icmp_ge (tgt := 86) hx hb dX5_go_46 (by decide) (fun c_2 => ?_) (fun c_2 => ?_)
    ·
      have eg : g_X5_go_out i1 NM (r + 1) j sM = sM := by
        rw [g_X5_go_out, if_pos c_2]
      rw [eg] at hQ
      exact hQ _ _ _ hP hD hS (lv_sub hl [0, 1] rfl)
    ·
      refine lv_iconst (v := 0) hx hb dX5_go_49 (by decide) ?_
      refine lv_istore_n (lv' := [(3, .int 0), (0, .ref (am 0)), (1, .int i1), (2, .int (nI j))]) hx hb dX5_go_50 rfl hl (by decide) rfl (fun ls hl => ?_)
      have hl : lv_has ls 4 [(0, .ref (am 0)), (1, .int i1), (2, .int (nI j)), (3, .int (nI 0))] := lv_sub hl [1, 2, 3, 0] rfl
      refine lp_X5_go_in k am i1 j NM C0 (by first | assumption | omega) NM 0 sM _ _ _ (by omega) (hI) hP hD hS hl (fun H locs ls hP hD hS hl => ?_)
      obtain ⟨z_3, ez_3⟩ : ∃ z, z = g_X5_go_in i1 j NM NM 0 sM := ⟨_, rfl⟩
      rw [← ez_3] at hP hD
      refine lv_aload_n hx hb dX5_go_70 rfl (lv_at hl 0 rfl) ?_
      refine lv_dup hx hb dX5_go_71 rfl ?_
      refine va_get (D := k.1) (ci := 5) (v := .int ((z_3) 0 3)) (C := RX5) (T := TX5) (N := 28) hx hb hts in_X5_go_X5 hown hK hP 0 rfl rfl 15 (by decide) (k_w hts 4 rfl) (fun _ h9 => h9) rfl dX5_go_72 ?_
      refine lv_iconst (v := 1) hx hb dX5_go_75 (by decide) ?_
      refine lv_iadd hx hb dX5_go_76 ?_
      refine va_put (D := k.1) (ci := 5) (v := .int (((z_3) 0 3) + 1)) (ty := .int) (C := RX5) (T := TX5) (N := 28) hx hb hts in_X5_go_X5 tyX5 tyX5_ok nmX5 hown hK hP hD hS 0 rfl rfl 15 (by decide) (k_w hts 4 rfl) (fun _ h9 => h9) rfl (by decide +kernel) rfl rfl (Nat.le_of_ble_eq_true rfl) dX5_go_77 (fun H locs hP hD hS => ?_)
      have hP := k_cP (w_M_s3 k am (z_3) (((z_3) 0 3) + 1)) hP
      have hD := k_cD (w_M_s3 k am (z_3) (((z_3) 0 3) + 1)) hD
      refine lv_iinc (v := nI (j + 1)) (lv' := [(2, .int (nI (j + 1))), (0, .ref (am 0)), (1, .int i1)]) hx hb dX5_go_80 hl (k := 2) rfl (nI_1 j) (by decide) rfl (fun ls hl => ?_)
      refine lv_goto (tgt := 34) hx hb dX5_go_83 (by decide) ?_
      have eg : g_X5_go_out i1 NM (r + 1) j sM = g_X5_go_out i1 NM r (j + 1) (k_st (z_3) 0 (k_st ((z_3) 0) 3 (((z_3) 0 3) + 1))) := by
        rw [g_X5_go_out, ← ez_3, if_neg c_2]
      rw [eg] at hQ
      exact ih (j + 1) (k_st (z_3) 0 (k_st ((z_3) 0) 3 (((z_3) 0 3) + 1))) _ _ _ (by omega) (by subst_vars; exact k_MI_goin (by omega) hI) hP hD hS (lv_sub hl [1, 2, 0] rfl) hQ
def g_X5_go_end (i1 : Int32) : Nat → Nat → (Nat → Nat → Int32) → (Nat → Nat → Int32)
  | 0, j, sM => sM
  | r + 1, j, sM => g_X5_go_end i1 r (j + 1) (k_st sM 14 (upd (sM 14) (nI j).toNatClampNeg 363))
set_option maxHeartbeats 4000000 in
set_option maxRecDepth 100000 in
theorem lp_X5_go_end {p : Program} {l : Launch} {e : Env} {s : State} {m : MethodId} {below : List Frame} {meth : Method} {c : Code} {A : Nat → Prop} {Q : State → Prop} {av : Array Value} (k : K_X) (am : Nat → Nat) (i1 : Int32) (C0 : k_Cx p s m meth c k cX5_go (some .int) wsX5_go RX5 4 av A) : ∀ (r j : Nat) (sM : Nat → Nat → Int32) (H : Heap) (locs : List Loc) (ls : Array Slot), j + r = 10 → va_P k.1 vwCl (w_M k am sM) H → va_D A (w_M k am sM) → va_S A s.heap H locs → lv_has ls 4 [(0, .ref (am 0)), (1, .int i1), (2, .int (nI j))] → (∀ (H : Heap) (locs : List Loc) (ls : Array Slot), va_P k.1 vwCl (w_M k am (g_X5_go_end i1 r j sM)) H → va_D A (w_M k am (g_X5_go_end i1 r j sM)) → va_S A s.heap H locs → lv_has ls 4 [(0, .ref (am 0)), (1, .int i1)] → W p l e (k_rm 4 97) s m av below meth c H locs 0 0 Q (F0 m 124 ls [])) → W p l e (k_rm 4 97) s m av below meth c H locs 0 0 Q (F0 m 103 ls []) := by
  obtain ⟨hx, hb, hr, hts, hown, hlocks, hml, hA, hK⟩ := id C0
  intro r
  induction r with
  | zero =>
    intro j sM H locs ls hj hP hD hS hl hQ
    refine lv_iload_n hx hb dX5_go_103 rfl (lv_at hl 2 rfl) ?_
    refine lv_bipush (v := 10) hx hb dX5_go_104 (by decide) ?_
    refine lv_icmp_ge (tgt := 124) hx hb dX5_go_106 (by decide) (fun c_1 => ?_) (fun c_1 => ?_)
    rotate_left
    · exact absurd (k_gec (c := 10) (by decide) (by omega) (by omega)) c_1
    have eg : g_X5_go_end i1 0 j sM = sM := by
      rw [g_X5_go_end]
    rw [eg] at hQ
    exact hQ _ _ _ hP hD hS (lv_sub hl [0, 1] rfl)
  | succ r ih =>
    intro j sM H locs ls hj hP hD hS hl hQ
    refine lv_iload_n hx hb dX5_go_103 rfl (lv_at hl 2 rfl) ?_
    refine lv_bipush (v := 10) hx hb dX5_go_104 (by decide) ?_
    refine lv_icmp_ge (tgt := 124) hx hb dX5_go_106 (by decide) (fun c_1 => ?_) (fun c_1 => ?_)
    · exact absurd c_1 (k_ngec (c := 10) (by decide) (by omega) (by omega))
    refine lv_aload_n hx hb dX5_go_109 rfl (lv_at hl 0 rfl) ?_
    refine va_get (D := k.1) (ci := 5) (v := .ref (am 14)) (C := RX5) (T := TX5) (N := 28) hx hb hts in_X5_go_X5 hown hK hP 0 rfl rfl 20 (by decide) (k_w hts 6 rfl) (fun _ h9 => h9) rfl dX5_go_110 ?_
    refine lv_iload_n hx hb dX5_go_113 rfl (lv_at hl 2 rfl) ?_
    refine lv_sipush (v := 363) hx hb dX5_go_114 (by decide) ?_
    refine va_iast (f := sM 14) hx hb hK hP hD hS 14 0 rfl rfl (vp_in_nI (by omega) (by omega)) dX5_go_117 (fun H locs hP hD hS => ?_)
    have hP := k_cP (w_M_14 k am sM (upd (sM 14) (nI j).toNatClampNeg 363)) hP
    have hD := k_cD (w_M_14 k am sM (upd (sM 14) (nI j).toNatClampNeg 363)) hD
    refine lv_iinc (v := nI (j + 1)) (lv' := [(2, .int (nI (j + 1))), (0, .ref (am 0)), (1, .int i1)]) hx hb dX5_go_118 hl (k := 2) rfl (nI_1 j) (by decide) rfl (fun ls hl => ?_)
    refine lv_goto (tgt := 103) hx hb dX5_go_121 (by decide) ?_
    have eg : g_X5_go_end i1 (r + 1) j sM = g_X5_go_end i1 r (j + 1) (k_st sM 14 (upd (sM 14) (nI j).toNatClampNeg 363)) := by
      rw [g_X5_go_end]
    rw [eg] at hQ
    exact ih (j + 1) (k_st sM 14 (upd (sM 14) (nI j).toNatClampNeg 363)) _ _ _ (by omega) hP hD hS (lv_sub hl [1, 2, 0] rfl) hQ
def f_X5_go (sM : Nat → Nat → Int32) (i1 : Int32) : Int32 × (Nat → Nat → Int32) :=
  if (f_X5_in i1.toInt64 1 240) = 0 then ((-2), sM)
  else if (sM 0 6) = (-9) then (if (((g_X5_go_out i1 (sM 0 2).toNatClampNeg i1.toNatClampNeg 0 sM)) 0 3) = 240 then ((((g_X5_go_end i1 10 0 (k_st ((g_X5_go_out i1 (sM 0 2).toNatClampNeg i1.toNatClampNeg 0 sM)) 0 (k_st (((g_X5_go_out i1 (sM 0 2).toNatClampNeg i1.toNatClampNeg 0 sM)) 0) 6 0)))) 0 3), ((g_X5_go_end i1 10 0 (k_st ((g_X5_go_out i1 (sM 0 2).toNatClampNeg i1.toNatClampNeg 0 sM)) 0 (k_st (((g_X5_go_out i1 (sM 0 2).toNatClampNeg i1.toNatClampNeg 0 sM)) 0) 6 0)))))
    else ((((g_X5_go_out i1 (sM 0 2).toNatClampNeg i1.toNatClampNeg 0 sM)) 0 3), ((g_X5_go_out i1 (sM 0 2).toNatClampNeg i1.toNatClampNeg 0 sM))))
  else ((-3), sM)
set_option maxHeartbeats 4000000 in
set_option maxRecDepth 100000 in
theorem c_X5_go (l : Launch) (k : K_X) (am : Nat → Nat) (sM : Nat → Nat → Int32) (i1 : Int32) (hT : sM 0 0 = 0) (hI : k_MI (sM 0 2).toNatClampNeg sM) : k_C l yX5_go wsX5_go (k_rm 4 97) k [.ref (am 0), .int i1] (w_M k am sM) (k_qI k ((f_X5_go sM i1).1) (w_M k am ((f_X5_go sM i1).2))) := by
  refine k_mk (cc := cX5_go) (maxL := 4) (ret := (some .int)) (by decide) rfl (Nat.le_of_ble_eq_true rfl) ?_
  intro p e s m below meth c A ls C0 hP hD hS hl
  obtain ⟨hx, hb, hr, hts, hown, hlocks, hml, hA, hK⟩ := id C0
  have hown : s.vm.findClass RX5 = some m.cls := hown
  have hl : lv_has ls 4 [(0, .ref (am 0)), (1, .int i1)] := hl
  refine lv_aload_n hx hb dX5_go_0 rfl (lv_at hl 0 rfl) ?_
  refine lv_iconst (v := 0) hx hb dX5_go_1 (by decide) ?_
  refine va_put (D := k.1) (ci := 5) (v := .int 0) (ty := .int) (C := RX5) (T := TX5) (N := 28) hx hb hts in_X5_go_X5 tyX5 tyX5_ok nmX5 hown hK hP hD hS 0 rfl rfl 0 (by decide) (k_w hts 1 rfl) (fun _ h9 => h9) rfl (by decide +kernel) rfl rfl (Nat.le_of_ble_eq_true rfl) dX5_go_2 (fun H locs hP hD hS => ?_)
  have hP := k_cP (w_M_s0 k am sM 0) hP
  have hD := k_cD (w_M_s0 k am sM 0) hD
  rw [k_thr hT] at hP hD
  refine lv_iload_n hx hb dX5_go_5 rfl (lv_at hl 1 rfl) ?_
  refine lv_i2l (v := i1.toInt64) hx hb dX5_go_6 rfl ?_
  refine lv_lconst (v := 1) hx hb dX5_go_7 (by decide) ?_
  refine lv_ldc2 hx hb hown (k_w hts 2 rfl) dX5_go_8 ?_
  refine k_Si (wr := w_M k am sM) (ws' := w_M k am sM) (Rv := (f_X5_in i1.toInt64 1 240)) (rest := []) ⟨hx, hb, hml, hown, hts⟩ hK hA hP hD hS (c_X5_in l k i1.toInt64 1 240) (va_cwS 3 hts gX5_go_X5_in rfl rfl rfl (by decide +kernel) ⟨Nat.le_of_ble_eq_true rfl, Nat.le_of_ble_eq_true rfl⟩) rfl hl.1 rfl (Nat.le_of_ble_eq_true rfl) dX5_go_11 (Nat.zero_le _) (Nat.zero_le _) [] [0, 1, 2, 3, 4, 5, 6, 7, 8, 9, 10, 11, 12, 13, 14, 15, 16, 17, 18, 19, 20, 21] [0, 1, 2, 3, 4, 5, 6, 7, 8, 9, 10, 11, 12, 13, 14, 15, 16, 17, 18, 19, 20, 21] rfl rfl rfl (by decide) rfl rfl rfl (fun H locs hP hD hS => ?_)
  refine lv_if_ne (tgt := 20) hx hb dX5_go_14 (by decide) (fun c_1 => ?_) (fun c_1 => ?_)
  ·
    refine lv_aload_n hx hb dX5_go_20 rfl (lv_at hl 0 rfl) ?_
    refine va_get (D := k.1) (ci := 5) (v := .int (sM 0 6)) (C := RX5) (T := TX5) (N := 28) hx hb hts in_X5_go_X5 hown hK hP 0 rfl rfl 19 (by decide) (k_w hts 3 rfl) (fun _ h9 => h9) rfl dX5_go_21 ?_
    refine lv_bipush (v := (-9)) hx hb dX5_go_24 (by decide) ?_
    refine lv_icmp_eq (tgt := 32) hx hb dX5_go_26 (by decide) (fun c_2 => ?_) (fun c_2 => ?_)
    ·
      refine lv_iconst (v := 0) hx hb dX5_go_32 (by decide) ?_
      refine lv_istore_n (lv' := [(2, .int 0), (0, .ref (am 0)), (1, .int i1)]) hx hb dX5_go_33 rfl hl (by decide) rfl (fun ls hl => ?_)
      have hl : lv_has ls 4 [(0, .ref (am 0)), (1, .int i1), (2, .int (nI 0))] := lv_sub hl [1, 2, 0] rfl
      refine lp_X5_go_out k am i1 (sM 0 2).toNatClampNeg C0 (hI.2.1) ((k_mn (a := 1) (b := 240) rfl rfl (by decide) (by assumption)).1) i1.toNatClampNeg 0 sM _ _ _ (by omega) (hI) hP hD hS hl (fun H locs ls hP hD hS hl => ?_)
      obtain ⟨z_3, ez_3⟩ : ∃ z, z = g_X5_go_out i1 (sM 0 2).toNatClampNeg i1.toNatClampNeg 0 sM := ⟨_, rfl⟩
      rw [← ez_3] at hP hD
      refine lv_aload_n hx hb dX5_go_86 rfl (lv_at hl 0 rfl) ?_
      refine va_get (D := k.1) (ci := 5) (v := .int ((z_3) 0 3)) (C := RX5) (T := TX5) (N := 28) hx hb hts in_X5_go_X5 hown hK hP 0 rfl rfl 15 (by decide) (k_w hts 4 rfl) (fun _ h9 => h9) rfl dX5_go_87 ?_
      refine lv_sipush (v := 240) hx hb dX5_go_90 (by decide) ?_
      refine lv_icmp_ne (tgt := 124) hx hb dX5_go_93 (by decide) (fun c_4 => ?_) (fun c_4 => ?_)
      ·
        refine lv_aload_n hx hb dX5_go_124 rfl (lv_at hl 0 rfl) ?_
        refine va_get (D := k.1) (ci := 5) (v := .int ((z_3) 0 3)) (C := RX5) (T := TX5) (N := 28) hx hb hts in_X5_go_X5 hown hK hP 0 rfl rfl 15 (by decide) (k_w hts 4 rfl) (fun _ h9 => h9) rfl dX5_go_125 ?_
        have ef : f_X5_go sM i1 = (((z_3) 0 3), (z_3)) := by
          rw [f_X5_go, ← ez_3, if_neg c_1, if_pos c_2, if_neg c_4]
        exact k_reti hx hb hr hK (by rw [ef]; exact hP) (by rw [ef]; exact hD) hS hlocks dX5_go_128 (by rw [ef])
      ·
        refine lv_aload_n hx hb dX5_go_96 rfl (lv_at hl 0 rfl) ?_
        refine lv_iconst (v := 0) hx hb dX5_go_97 (by decide) ?_
        refine va_put (D := k.1) (ci := 5) (v := .int 0) (ty := .int) (C := RX5) (T := TX5) (N := 28) hx hb hts in_X5_go_X5 tyX5 tyX5_ok nmX5 hown hK hP hD hS 0 rfl rfl 19 (by decide) (k_w hts 3 rfl) (fun _ h9 => h9) rfl (by decide +kernel) rfl rfl (Nat.le_of_ble_eq_true rfl) dX5_go_98 (fun H locs hP hD hS => ?_)
        have hP := k_cP (w_M_s6 k am (z_3) 0) hP
        have hD := k_cD (w_M_s6 k am (z_3) 0) hD
        refine lv_iconst (v := 0) hx hb dX5_go_101 (by decide) ?_
        refine lv_istore_n (lv' := [(2, .int 0), (0, .ref (am 0)), (1, .int i1)]) hx hb dX5_go_102 rfl hl (by decide) rfl (fun ls hl => ?_)
        have hl : lv_has ls 4 [(0, .ref (am 0)), (1, .int i1), (2, .int (nI 0))] := lv_sub hl [1, 2, 0] rfl
        refine lp_X5_go_end k am i1 C0 10 0 (k_st (z_3) 0 (k_st ((z_3) 0) 6 0)) _ _ _ (by omega) hP hD hS hl (fun H locs ls hP hD hS hl => ?_)
        obtain ⟨z_5, ez_5⟩ : ∃ z, z = g_X5_go_end i1 10 0 (k_st (z_3) 0 (k_st ((z_3) 0) 6 0)) := ⟨_, rfl⟩
        rw [← ez_5] at hP hD
        refine lv_aload_n hx hb dX5_go_124 rfl (lv_at hl 0 rfl) ?_
        refine va_get (D := k.1) (ci := 5) (v := .int ((z_5) 0 3)) (C := RX5) (T := TX5) (N := 28) hx hb hts in_X5_go_X5 hown hK hP 0 rfl rfl 15 (by decide) (k_w hts 4 rfl) (fun _ h9 => h9) rfl dX5_go_125 ?_
        have ef : f_X5_go sM i1 = (((z_5) 0 3), (z_5)) := by
          rw [f_X5_go, ← ez_3, ← ez_5, if_neg c_1, if_pos c_2, if_pos c_4]
        exact k_reti hx hb hr hK (by rw [ef]; exact hP) (by rw [ef]; exact hD) hS hlocks dX5_go_128 (by rw [ef])
    ·
      refine lv_bipush (v := (-3)) hx hb dX5_go_29 (by decide) ?_
      have ef : f_X5_go sM i1 = ((-3), sM) := by
        rw [f_X5_go, if_neg c_1, if_neg c_2]
      exact k_reti hx hb hr hK (by rw [ef]; exact hP) (by rw [ef]; exact hD) hS hlocks dX5_go_31 (by rw [ef])
  ·
    refine lv_bipush (v := (-2)) hx hb dX5_go_17 (by decide) ?_
    have ef : f_X5_go sM i1 = ((-2), sM) := by
      rw [f_X5_go, if_pos c_1]
    exact k_reti hx hb hr hK (by rw [ef]; exact hP) (by rw [ef]; exact hD) hS hlocks dX5_go_19 (by rw [ef])
/-- what the model keeps while a fair is foretold -/
def k_TI (NM : Nat) (M : Nat → Nat → Int32) : Prop := M 0 2 = nI NM ∧ NM ≤ 10 ∧ k_n (M 0 1) 10 ∧ (∀ j, j < 10 → k_o (M 19 j) 10) ∧ (∀ j, j < 10 → k_o (M 21 j) 10)
theorem k_TI.rev {NM : Nat} {M : Nat → Nat → Int32} {j : Nat} (h : k_TI NM M) (hj : j < NM) : vp_in ((M 0 2 - 1) - nI j) 10 := by
  have h2 := h.2.1
  rw [h.1]
  exact k_inrev (b := 10) (k_n.mk h2) (by rw [nI_clamp (by omega)]; exact hj) (by omega)
theorem in_X5_foretell_X5 : ∀ w ∈ wsX50, w ∈ wsX5_foretell := fun _ h => List.mem_cons_of_mem _ (List.mem_append_right _ h)
def g_X5_foretell_a (i1 : Int32) : Nat → Nat → (Nat → Nat → Int32) → (Nat → Nat → Int32)
  | 0, j, sM => sM
  | r + 1, j, sM => g_X5_foretell_a i1 r (j + 1) (k_st sM 18 (upd (sM 18) (nI j).toNatClampNeg (vp_nar .boolean 0)))
set_option maxHeartbeats 4000000 in
set_option maxRecDepth 100000 in
theorem lp_X5_foretell_a {p : Program} {l : Launch} {e : Env} {s : State} {m : MethodId} {below : List Frame} {meth : Method} {c : Code} {A : Nat → Prop} {Q : State → Prop} {av : Array Value} (k : K_X) (am : Nat → Nat) (i1 : Int32) (C0 : k_Cx p s m meth c k cX5_foretell none wsX5_foretell RX5 7 av A) : ∀ (r j : Nat) (sM : Nat → Nat → Int32) (H : Heap) (locs : List Loc) (ls : Array Slot), j + r = 100 → va_P k.1 vwCl (w_M k am sM) H → va_D A (w_M k am sM) → va_S A s.heap H locs → lv_has ls 7 [(0, .ref (am 0)), (1, .int i1), (2, .int (nI j))] → (∀ (H : Heap) (locs : List Loc) (ls : Array Slot), va_P k.1 vwCl (w_M k am (g_X5_foretell_a i1 r j sM)) H → va_D A (w_M k am (g_X5_foretell_a i1 r j sM)) → va_S A s.heap H locs → lv_has ls 7 [(0, .ref (am 0)), (1, .int i1)] → W p l e (k_rm 3 72) s m av below meth c H locs 0 0 Q (F0 m 21 ls [])) → W p l e (k_rm 3 72) s m av below meth c H locs 0 0 Q (F0 m 2 ls []) := by
  obtain ⟨hx, hb, hr, hts, hown, hlocks, hml, hA, hK⟩ := id C0
  intro r
  induction r with
  | zero =>
    intro j sM H locs ls hj hP hD hS hl hQ
    refine lv_iload_n hx hb dX5_foretell_2 rfl (lv_at hl 2 rfl) ?_
    refine lv_bipush (v := 100) hx hb dX5_foretell_3 (by decide) ?_
    refine lv_icmp_ge (tgt := 21) hx hb dX5_foretell_5 (by decide) (fun c_1 => ?_) (fun c_1 => ?_)
    rotate_left
    · exact absurd (k_gec (c := 100) (by decide) (by omega) (by omega)) c_1
    have eg : g_X5_foretell_a i1 0 j sM = sM := by
      rw [g_X5_foretell_a]
    rw [eg] at hQ
    exact hQ _ _ _ hP hD hS (lv_sub hl [0, 1] rfl)
  | succ r ih =>
    intro j sM H locs ls hj hP hD hS hl hQ
    refine lv_iload_n hx hb dX5_foretell_2 rfl (lv_at hl 2 rfl) ?_
    refine lv_bipush (v := 100) hx hb dX5_foretell_3 (by decide) ?_
    refine lv_icmp_ge (tgt := 21) hx hb dX5_foretell_5 (by decide) (fun c_1 => ?_) (fun c_1 => ?_)
    · exact absurd c_1 (k_ngec (c := 100) (by decide) (by omega) (by omega))
    refine lv_aload_n hx hb dX5_foretell_8 rfl (lv_at hl 0 rfl) ?_
    refine va_get (D := k.1) (ci := 5) (v := .ref (am 18)) (C := RX5) (T := TX5) (N := 28) hx hb hts in_X5_foretell_X5 hown hK hP 0 rfl rfl 24 (by decide) (k_w hts 1 rfl) (fun _ h9 => h9) rfl dX5_foretell_9 ?_
    refine lv_iload_n hx hb dX5_foretell_12 rfl (lv_at hl 2 rfl) ?_
    refine lv_iconst (v := 0) hx hb dX5_foretell_13 (by decide) ?_
    refine va_zast (f := sM 18) hx hb hK hP hD hS 18 1 rfl rfl (vp_in_nI (by omega) (by omega)) dX5_foretell_14 (fun H locs hP hD hS => ?_)
    have hP := k_cP (w_M_18 k am sM (upd (sM 18) (nI j).toNatClampNeg (vp_nar .boolean 0))) hP
    have hD := k_cD (w_M_18 k am sM (upd (sM 18) (nI j).toNatClampNeg (vp_nar .boolean 0))) hD
    refine lv_iinc (v := nI (j + 1)) (lv' := [(2, .int (nI (j + 1))), (0, .ref (am 0)), (1, .int i1)]) hx hb dX5_foretell_15 hl (k := 2) rfl (nI_1 j) (by decide) rfl (fun ls hl => ?_)
    refine lv_goto (tgt := 2) hx hb dX5_foretell_18 (by decide) ?_
    have eg : g_X5_foretell_a i1 (r + 1) j sM = g_X5_foretell_a i1 r (j + 1) (k_st sM 18 (upd (sM 18) (nI j).toNatClampNeg (vp_nar .boolean 0))) := by
      rw [g_X5_foretell_a]
    rw [eg] at hQ
    exact ih (j + 1) (k_st sM 18 (upd (sM 18) (nI j).toNatClampNeg (vp_nar .boolean 0))) _ _ _ (by omega) hP hD hS (lv_sub hl [1, 2, 0] rfl) hQ
def g_X5_foretell_b (i1 : Int32) : Nat → Nat → (Nat → Nat → Int32) → (Nat → Nat → Int32)
  | 0, j, sM => sM
  | r + 1, j, sM => g_X5_foretell_b i1 r (j + 1) (k_st (k_st sM 19 (upd (sM 19) (nI j).toNatClampNeg (-9))) 21 (upd (sM 21) (nI j).toNatClampNeg (-9)))
set_option maxHeartbeats 4000000 in
set_option maxRecDepth 100000 in
theorem lp_X5_foretell_b {p : Program} {l : Launch} {e : Env} {s : State} {m : MethodId} {below : List Frame} {meth : Method} {c : Code} {A : Nat → Prop} {Q : State → Prop} {av : Array Value} (k : K_X) (am : Nat → Nat) (i1 : Int32) (C0 : k_Cx p s m meth c k cX5_foretell none wsX5_foretell RX5 7 av A) : ∀ (r j : Nat) (sM : Nat → Nat → Int32) (H : Heap) (locs : List Loc) (ls : Array Slot), j + r = 10 → va_P k.1 vwCl (w_M k am sM) H → va_D A (w_M k am sM) → va_S A s.heap H locs → lv_has ls 7 [(0, .ref (am 0)), (1, .int i1), (2, .int (nI j))] → (∀ (H : Heap) (locs : List Loc) (ls : Array Slot), va_P k.1 vwCl (w_M k am (g_X5_foretell_b i1 r j sM)) H → va_D A (w_M k am (g_X5_foretell_b i1 r j sM)) → va_S A s.heap H locs → lv_has ls 7 [(0, .ref (am 0)), (1, .int i1)] → W p l e (k_rm 3 72) s m av below meth c H locs 0 0 Q (F0 m 51 ls [])) → W p l e (k_rm 3 72) s m av below meth c H locs 0 0 Q (F0 m 23 ls []) := by
  obtain ⟨hx, hb, hr, hts, hown, hlocks, hml, hA, hK⟩ := id C0
  intro r
  induction r with
  | zero =>
    intro j sM H locs ls hj hP hD hS hl hQ
    refine lv_iload_n hx hb dX5_foretell_23 rfl (lv_at hl 2 rfl) ?_
    refine lv_bipush (v := 10) hx hb dX5_foretell_24 (by decide) ?_
    refine lv_icmp_ge (tgt := 51) hx hb dX5_foretell_26 (by decide) (fun c_1 => ?_) (fun c_1 => ?_)
    rotate_left
    · exact absurd (k_gec (c := 10) (by decide) (by omega) (by omega)) c_1
    have eg : g_X5_foretell_b i1 0 j sM = sM := by
      rw [g_X5_foretell_b]
    rw [eg] at hQ
    exact hQ _ _ _ hP hD hS (lv_sub hl [0, 1] rfl)
  | succ r ih =>
    intro j sM H locs ls hj hP hD hS hl hQ
    refine lv_iload_n hx hb dX5_foretell_23 rfl (lv_at hl 2 rfl) ?_
    refine lv_bipush (v := 10) hx hb dX5_foretell_24 (by decide) ?_
    refine lv_icmp_ge (tgt := 51) hx hb dX5_foretell_26 (by decide) (fun c_1 => ?_) (fun c_1 => ?_)
    · exact absurd c_1 (k_ngec (c := 10) (by decide) (by omega) (by omega))
    refine lv_aload_n hx hb dX5_foretell_29 rfl (lv_at hl 0 rfl) ?_
    refine va_get (D := k.1) (ci := 5) (v := .ref (am 19)) (C := RX5) (T := TX5) (N := 28) hx hb hts in_X5_foretell_X5 hown hK hP 0 rfl rfl 25 (by decide) (k_w hts 2 rfl) (fun _ h9 => h9) rfl dX5_foretell_30 ?_
    refine lv_iload_n hx hb dX5_foretell_33 rfl (lv_at hl 2 rfl) ?_
    refine lv_bipush (v := (-9)) hx hb dX5_foretell_34 (by decide) ?_
    refine va_iast (f := sM 19) hx hb hK hP hD hS 19 0 rfl rfl (vp_in_nI (by omega) (by omega)) dX5_foretell_36 (fun H locs hP hD hS => ?_)
    have hP := k_cP (w_M_19 k am sM (upd (sM 19) (nI j).toNatClampNeg (-9))) hP
    have hD := k_cD (w_M_19 k am sM (upd (sM 19) (nI j).toNatClampNeg (-9))) hD
    refine lv_aload_n hx hb dX5_foretell_37 rfl (lv_at hl 0 rfl) ?_
    refine va_get (D := k.1) (ci := 5) (v := .ref (am 21)) (C := RX5) (T := TX5) (N := 28) hx hb hts in_X5_foretell_X5 hown hK hP 0 rfl rfl 27 (by decide) (k_w hts 3 rfl) (fun _ h9 => h9) rfl dX5_foretell_38 ?_
    refine lv_iload_n hx hb dX5_foretell_41 rfl (lv_at hl 2 rfl) ?_
    refine lv_bipush (v := (-9)) hx hb dX5_foretell_42 (by decide) ?_
    refine va_iast (f := sM 21) hx hb hK hP hD hS 21 0 rfl rfl (vp_in_nI (by omega) (by omega)) dX5_foretell_44 (fun H locs hP hD hS => ?_)
    have hP := k_cP (w_M_21 k am (k_st sM 19 (upd (sM 19) (nI j).toNatClampNeg (-9))) (upd (sM 21) (nI j).toNatClampNeg (-9))) hP
    have hD := k_cD (w_M_21 k am (k_st sM 19 (upd (sM 19) (nI j).toNatClampNeg (-9))) (upd (sM 21) (nI j).toNatClampNeg (-9))) hD
    refine lv_iinc (v := nI (j + 1)) (lv' := [(2, .int (nI (j + 1))), (0, .ref (am 0)), (1, .int i1)]) hx hb dX5_foretell_45 hl (k := 2) rfl (nI_1 j) (by decide) rfl (fun ls hl => ?_)
    refine lv_goto (tgt := 23) hx hb dX5_foretell_48 (by decide) ?_
    have eg : g_X5_foretell_b i1 (r + 1) j sM = g_X5_foretell_b i1 r (j + 1) (k_st (k_st sM 19 (upd (sM 19) (nI j).toNatClampNeg (-9))) 21 (upd (sM 21) (nI j).toNatClampNeg (-9))) := by
      rw [g_X5_foretell_b]
    rw [eg] at hQ
    exact ih (j + 1) (k_st (k_st sM 19 (upd (sM 19) (nI j).toNatClampNeg (-9))) 21 (upd (sM 21) (nI j).toNatClampNeg (-9))) _ _ _ (by omega) hP hD hS (lv_sub hl [1, 2, 0] rfl) hQ
def g_X5_foretell_in (i1 : Int32) (jo : Nat) (NM : Nat) : Nat → Nat → (Nat → Nat → Int32) → (Nat → Nat → Int32)
  | 0, j, sM => sM
  | r + 1, j, sM => if i1 = 0 then (if ((sM 21) (nI j).toNatClampNeg) = (-9) then (if (f_X5_nextOf_t sM (nI j)) = (-9) then g_X5_foretell_in i1 jo NM r (j + 1) sM
        else if ((sM 19) (f_X5_nextOf_t sM (nI j)).toNatClampNeg) = (-9) then g_X5_foretell_in i1 jo NM r (j + 1) (k_st (k_st (k_st (k_st sM 18 (upd (sM 18) ((10 * (nI j)) + (f_X5_nextOf_t sM (nI j))).toNatClampNeg (vp_nar .boolean 1))) 19 (upd (sM 19) (f_X5_nextOf_t sM (nI j)).toNatClampNeg (nI j))) 20 (upd (sM 20) (f_X5_nextOf_t sM (nI j)).toNatClampNeg (f_X5_offerOf sM (nI j) (f_X5_nextOf_t sM (nI j))))) 21 (upd (sM 21) (nI j).toNatClampNeg (f_X5_nextOf_t sM (nI j))))
        else if 120 ≤ (nI jo) then g_X5_foretell_in i1 jo NM r (j + 1) (k_st sM 18 (upd (sM 18) ((10 * (nI j)) + (f_X5_nextOf_t sM (nI j))).toNatClampNeg (vp_nar .boolean 1)))
        else if (f_X5_offerOf sM (nI j) (f_X5_nextOf_t sM (nI j))) ≤ ((sM 20) (f_X5_nextOf_t sM (nI j)).toNatClampNeg) then g_X5_foretell_in i1 jo NM r (j + 1) (k_st sM 18 (upd (sM 18) ((10 * (nI j)) + (f_X5_nextOf_t sM (nI j))).toNatClampNeg (vp_nar .boolean 1)))
        else g_X5_foretell_in i1 jo NM r (j + 1) (k_st (k_st (k_st (k_st (k_st sM 18 (upd (sM 18) ((10 * (nI j)) + (f_X5_nextOf_t sM (nI j))).toNatClampNeg (vp_nar .boolean 1))) 21 (upd (sM 21) ((sM 19) (f_X5_nextOf_t sM (nI j)).toNatClampNeg).toNatClampNeg (-9))) 19 (upd (sM 19) (f_X5_nextOf_t sM (nI j)).toNatClampNeg (nI j))) 20 (upd (sM 20) (f_X5_nextOf_t sM (nI j)).toNatClampNeg (f_X5_offerOf sM (nI j) (f_X5_nextOf_t sM (nI j))))) 21 (upd (upd (sM 21) ((sM 19) (f_X5_nextOf_t sM (nI j)).toNatClampNeg).toNatClampNeg (-9)) (nI j).toNatClampNeg (f_X5_nextOf_t sM (nI j)))))
      else g_X5_foretell_in i1 jo NM r (j + 1) sM)
    else if ((sM 21) (((sM 0 2) - 1) - (nI j)).toNatClampNeg) = (-9) then (if (f_X5_nextOf_t sM (((sM 0 2) - 1) - (nI j))) = (-9) then g_X5_foretell_in i1 jo NM r (j + 1) sM
      else if ((sM 19) (f_X5_nextOf_t sM (((sM 0 2) - 1) - (nI j))).toNatClampNeg) = (-9) then g_X5_foretell_in i1 jo NM r (j + 1) (k_st (k_st (k_st (k_st sM 18 (upd (sM 18) ((10 * (((sM 0 2) - 1) - (nI j))) + (f_X5_nextOf_t sM (((sM 0 2) - 1) - (nI j)))).toNatClampNeg (vp_nar .boolean 1))) 19 (upd (sM 19) (f_X5_nextOf_t sM (((sM 0 2) - 1) - (nI j))).toNatClampNeg (((sM 0 2) - 1) - (nI j)))) 20 (upd (sM 20) (f_X5_nextOf_t sM (((sM 0 2) - 1) - (nI j))).toNatClampNeg (f_X5_offerOf sM (((sM 0 2) - 1) - (nI j)) (f_X5_nextOf_t sM (((sM 0 2) - 1) - (nI j)))))) 21 (upd (sM 21) (((sM 0 2) - 1) - (nI j)).toNatClampNeg (f_X5_nextOf_t sM (((sM 0 2) - 1) - (nI j)))))
      else if 120 ≤ (nI jo) then g_X5_foretell_in i1 jo NM r (j + 1) (k_st sM 18 (upd (sM 18) ((10 * (((sM 0 2) - 1) - (nI j))) + (f_X5_nextOf_t sM (((sM 0 2) - 1) - (nI j)))).toNatClampNeg (vp_nar .boolean 1)))
      else if (f_X5_offerOf sM (((sM 0 2) - 1) - (nI j)) (f_X5_nextOf_t sM (((sM 0 2) - 1) - (nI j)))) ≤ ((sM 20) (f_X5_nextOf_t sM (((sM 0 2) - 1) - (nI j))).toNatClampNeg) then g_X5_foretell_in i1 jo NM r (j + 1) (k_st sM 18 (upd (sM 18) ((10 * (((sM 0 2) - 1) - (nI j))) + (f_X5_nextOf_t sM (((sM 0 2) - 1) - (nI j)))).toNatClampNeg (vp_nar .boolean 1)))
      else g_X5_foretell_in i1 jo NM r (j + 1) (k_st (k_st (k_st (k_st (k_st sM 18 (upd (sM 18) ((10 * (((sM 0 2) - 1) - (nI j))) + (f_X5_nextOf_t sM (((sM 0 2) - 1) - (nI j)))).toNatClampNeg (vp_nar .boolean 1))) 21 (upd (sM 21) ((sM 19) (f_X5_nextOf_t sM (((sM 0 2) - 1) - (nI j))).toNatClampNeg).toNatClampNeg (-9))) 19 (upd (sM 19) (f_X5_nextOf_t sM (((sM 0 2) - 1) - (nI j))).toNatClampNeg (((sM 0 2) - 1) - (nI j)))) 20 (upd (sM 20) (f_X5_nextOf_t sM (((sM 0 2) - 1) - (nI j))).toNatClampNeg (f_X5_offerOf sM (((sM 0 2) - 1) - (nI j)) (f_X5_nextOf_t sM (((sM 0 2) - 1) - (nI j)))))) 21 (upd (upd (sM 21) ((sM 19) (f_X5_nextOf_t sM (((sM 0 2) - 1) - (nI j))).toNatClampNeg).toNatClampNeg (-9)) (((sM 0 2) - 1) - (nI j)).toNatClampNeg (f_X5_nextOf_t sM (((sM 0 2) - 1) - (nI j))))))
    else g_X5_foretell_in i1 jo NM r (j + 1) sM
set_option maxHeartbeats 4000000 in
set_option maxRecDepth 100000 in
theorem lp_X5_foretell_in {p : Program} {l : Launch} {e : Env} {s : State} {m : MethodId} {below : List Frame} {meth : Method} {c : Code} {A : Nat → Prop} {Q : State → Prop} {av : Array Value} (k : K_X) (am : Nat → Nat) (i1 : Int32) (jo : Nat) (NM : Nat) (C0 : k_Cx p s m meth c k cX5_foretell none wsX5_foretell RX5 7 av A) (hN10 : NM ≤ 10) : ∀ (r j : Nat) (sM : Nat → Nat → Int32) (H : Heap) (locs : List Loc) (ls : Array Slot), j + r = NM → k_TI NM sM → va_P k.1 vwCl (w_M k am sM) H → va_D A (w_M k am sM) → va_S A s.heap H locs → lv_has ls 7 [(0, .ref (am 0)), (1, .int i1), (2, .int (nI jo)), (3, .int (nI j))] → (∀ (H : Heap) (locs : List Loc) (ls : Array Slot), va_P k.1 vwCl (w_M k am (g_X5_foretell_in i1 jo NM r j sM)) H → va_D A (w_M k am (g_X5_foretell_in i1 jo NM r j sM)) → va_S A s.heap H locs → lv_has ls 7 [(0, .ref (am 0)), (1, .int i1), (2, .int (nI jo))] → W p l e (k_rm 3 72) s m av below meth c H locs 0 0 Q (F0 m 237 ls [])) → W p l e (k_rm 3 72) s m av below meth c H locs 0 0 Q (F0 m 62 ls []) := by
  obtain ⟨hx, hb, hr, hts, hown, hlocks, hml, hA, hK⟩ := id C0
  intro r
  induction r with
  | zero =>
    intro j sM H locs ls hj hI hP hD hS hl hQ
    refine lv_iload_n hx hb dX5_foretell_62 rfl (lv_at hl 3 rfl) ?_
    refine lv_aload_n hx hb dX5_foretell_63 rfl (lv_at hl 0 rfl) ?_
    refine va_get (D := k.1) (ci := 5) (v := .int (sM 0 2)) (C := RX5) (T := TX5) (N := 28) hx hb hts in_X5_foretell_X5 hown hK hP 0 rfl rfl 5 (by decide) (k_w hts 4 rfl) (fun _ h9 => h9) rfl dX5_foretell_64 ?_
    refine lv_icmp_ge (tgt := 237) hx hb dX5_foretell_67 (by decide) (fun c_1 => ?_) (fun c_1 => ?_)
    rotate_left
    · exact absurd (by rw [hI.1]; exact nI_le (by omega) (by omega)) c_1
    have eg : g_X5_foretell_in i1 jo NM 0 j sM = sM := by
      rw [g_X5_foretell_in]
    rw [eg] at hQ
    exact hQ _ _ _ hP hD hS (lv_sub hl [0, 1, 2] rfl)
  | succ r ih =>
    intro j sM H locs ls hj hI hP hD hS hl hQ
    refine lv_iload_n hx hb dX5_foretell_62 rfl (lv_at hl 3 rfl) ?_
    refine lv_aload_n hx hb dX5_foretell_63 rfl (lv_at hl 0 rfl) ?_
    refine va_get (D := k.1) (ci := 5) (v := .int (sM 0 2)) (C := RX5) (T := TX5) (N := 28) hx hb hts in_X5_foretell_X5 hown hK hP 0 rfl rfl 5 (by decide) (k_w hts 4 rfl) (fun _ h9 => h9) rfl dX5_foretell_64 ?_
    refine lv_icmp_ge (tgt := 237) hx hb dX5_foretell_67 (by decide) (fun c_1 => ?_) (fun c_1 => ?_)
    · exact absurd c_1 (by rw [hI.1]; exact nI_ge (by omega) (by omega))
    refine lv_iload_n hx hb dX5_foretell_70 rfl (lv_at hl 1 rfl) ?_
    refine lv_if_eq (tgt := 85) hx hb dX5_foretell_71 (by decide) (fun c_2 => ?_) (fun c_2 => ?_)
    ·
      refine lv_iload_n hx hb dX5_foretell_85 rfl (lv_at hl 3 rfl) ?_
      refine lv_istore (lv' := [(4, .int (nI j)), (0, .ref (am 0)), (1, .int i1), (2, .int (nI jo)), (3, .int (nI j))]) hx hb dX5_foretell_86 hl (by decide) rfl (fun ls hl => ?_)
      refine lv_aload_n hx hb dX5_foretell_88 rfl (lv_at hl 1 rfl) ?_
      refine va_get (D := k.1) (ci := 5) (v := .ref (am 21)) (C := RX5) (T := TX5) (N := 28) hx hb hts in_X5_foretell_X5 hown hK hP 0 rfl rfl 27 (by decide) (k_w hts 3 rfl) (fun _ h9 => h9) rfl dX5_foretell_89 ?_
      refine lv_iload hx hb dX5_foretell_92 (lv_at hl 0 rfl) ?_
      refine va_iald (f := sM 21) hx hb hK hP 21 0 rfl rfl (by first | exact vp_in_nI (by omega) (by omega) | exact hI.rev (by omega)) dX5_foretell_94 ?_
      refine lv_bipush (v := (-9)) hx hb dX5_foretell_95 (by decide) ?_
      refine lv_icmp_ne (tgt := 113) hx hb dX5_foretell_97 (by decide) (fun c_3 => ?_) (fun c_3 => ?_)
      ·
        refine lv_bipush (v := (-9)) hx hb dX5_foretell_113 (by decide) ?_
        refine lv_istore (lv' := [(5, .int (-9)), (4, .int (nI j)), (0, .ref (am 0)), (1, .int i1), (2, .int (nI jo)), (3, .int (nI j))]) hx hb dX5_foretell_115 hl (by decide) rfl (fun ls hl => ?_)
        refine lv_iload hx hb dX5_foretell_117 (lv_at hl 0 rfl) ?_
        refine lv_bipush (v := (-9)) hx hb dX5_foretell_119 (by decide) ?_
        refine lv_icmp_eq (tgt := 231) hx hb dX5_foretell_121 (by decide) (fun c_4 => ?_) (fun c_4 => ?_)
        rotate_left
        · exact absurd (by decide) c_4
        refine lv_iinc (v := nI (j + 1)) (lv' := [(3, .int (nI (j + 1))), (5, .int (-9)), (4, .int (nI j)), (0, .ref (am 0)), (1, .int i1), (2, .int (nI jo))]) hx hb dX5_foretell_231 hl (k := 5) rfl (nI_1 j) (by decide) rfl (fun ls hl => ?_)
        refine lv_goto (tgt := 62) hx hb dX5_foretell_234 (by decide) ?_
        have eg : g_X5_foretell_in i1 jo NM (r + 1) j sM = g_X5_foretell_in i1 jo NM r (j + 1) sM := by
          rw [g_X5_foretell_in, if_pos c_2, if_neg c_3]
        rw [eg] at hQ
        exact ih (j + 1) sM _ _ _ (by omega) (by (try subst_vars); refine ⟨hI.1, hI.2.1, hI.2.2.1, ?_, ?_⟩ <;> first | exact hI.2.2.2.1 | exact hI.2.2.2.2 | exact k_updo hI.2.2.2.1 (Or.inr (by first | exact vp_in_nI (by omega) (by omega) | exact hI.rev (by omega))) | exact k_updo hI.2.2.2.2 (Or.inr (by first | exact k_tch hI.2.2.1 (by assumption) | exact vp_in_nI (by omega) (by omega) | exact hI.rev (by omega))) | exact k_updo (k_updo hI.2.2.2.2 (Or.inl rfl)) (Or.inr (by first | exact k_tch hI.2.2.1 (by assumption) | exact vp_in_nI (by omega) (by omega) | exact hI.rev (by omega)))) hP hD hS (lv_sub hl [3, 4, 5, 0] rfl) hQ
      ·
        refine lv_aload_n hx hb dX5_foretell_100 rfl (lv_at hl 1 rfl) ?_
        refine lv_iload hx hb dX5_foretell_101 (lv_at hl 0 rfl) ?_
        refine lv_aload_n hx hb dX5_foretell_103 rfl (lv_at hl 1 rfl) ?_
        refine va_get (D := k.1) (ci := 5) (v := .ref (am 18)) (C := RX5) (T := TX5) (N := 28) hx hb hts in_X5_foretell_X5 hown hK hP 0 rfl rfl 24 (by decide) (k_w hts 1 rfl) (fun _ h9 => h9) rfl dX5_foretell_104 ?_
        refine k_Vi (wr := ([] : va_W)) (ws' := w_M k am sM) (Rv := (f_X5_nextOf_t sM (nI j))) (rest := []) ⟨hx, hb, hml, hown, hts⟩ hK hA hP hD hS (c_X5_nextOf_t l k am sM (nI j) (by first | exact vp_in_nI (by omega) (by omega) | exact hI.rev (by omega)) (hI.2.2.1)) (cwV 2 hts gX5_foretell_X5_nextOf rfl rfl rfl (by decide +kernel) ⟨Nat.le_of_ble_eq_true rfl, Nat.le_of_ble_eq_true rfl⟩) (va_recv hK hP (ci := 5) (q0 := 0) rfl rfl) rfl hl.1 rfl (Nat.le_of_ble_eq_true rfl) dX5_foretell_107 (Nat.zero_le _) (Nat.zero_le _) [0, 1, 2, 3, 4, 5, 6, 7, 8, 9, 10, 11, 12, 13, 14, 15, 16, 17, 18, 19, 20, 21] [] [0, 1, 2, 3, 4, 5, 6, 7, 8, 9, 10, 11, 12, 13, 14, 15, 16, 17, 18, 19, 20, 21] rfl rfl rfl (by decide) rfl rfl rfl (fun H locs hP hD hS => ?_)
        refine lv_goto (tgt := 115) hx hb dX5_foretell_110 (by decide) ?_
        refine lv_istore (lv' := [(5, .int (f_X5_nextOf_t sM (nI j))), (4, .int (nI j)), (0, .ref (am 0)), (1, .int i1), (2, .int (nI jo)), (3, .int (nI j))]) hx hb dX5_foretell_115 hl (by decide) rfl (fun ls hl => ?_)
        refine lv_iload hx hb dX5_foretell_117 (lv_at hl 0 rfl) ?_
        refine lv_bipush (v := (-9)) hx hb dX5_foretell_119 (by decide) ?_
        refine lv_icmp_eq (tgt := 231) hx hb dX5_foretell_121 (by decide) (fun c_5 => ?_) (fun c_5 => ?_)
        ·
          refine lv_iinc (v := nI (j + 1)) (lv' := [(3, .int (nI (j + 1))), (5, .int (f_X5_nextOf_t sM (nI j))), (4, .int (nI j)), (0, .ref (am 0)), (1, .int i1), (2, .int (nI jo))]) hx hb dX5_foretell_231 hl (k := 5) rfl (nI_1 j) (by decide) rfl (fun ls hl => ?_)
          refine lv_goto (tgt := 62) hx hb dX5_foretell_234 (by decide) ?_
          have eg : g_X5_foretell_in i1 jo NM (r + 1) j sM = g_X5_foretell_in i1 jo NM r (j + 1) sM := by
            rw [g_X5_foretell_in, if_pos c_2, if_pos c_3, if_pos c_5]
          rw [eg] at hQ
          exact ih (j + 1) sM _ _ _ (by omega) (by (try subst_vars); refine ⟨hI.1, hI.2.1, hI.2.2.1, ?_, ?_⟩ <;> first | exact hI.2.2.2.1 | exact hI.2.2.2.2 | exact k_updo hI.2.2.2.1 (Or.inr (by first | exact vp_in_nI (by omega) (by omega) | exact hI.rev (by omega))) | exact k_updo hI.2.2.2.2 (Or.inr (by first | exact k_tch hI.2.2.1 (by assumption) | exact vp_in_nI (by omega) (by omega) | exact hI.rev (by omega))) | exact k_updo (k_updo hI.2.2.2.2 (Or.inl rfl)) (Or.inr (by first | exact k_tch hI.2.2.1 (by assumption) | exact vp_in_nI (by omega) (by omega) | exact hI.rev (by omega)))) hP hD hS (lv_sub hl [3, 4, 5, 0] rfl) hQ
        ·
          refine lv_aload_n hx hb dX5_foretell_124 rfl (lv_at hl 2 rfl) ?_
          refine lv_iload hx hb dX5_foretell_125 (lv_at hl 1 rfl) ?_
          refine lv_iload hx hb dX5_foretell_127 (lv_at hl 0 rfl) ?_
          refine k_Vi (wr := ([] : va_W)) (ws' := w_M k am sM) (Rv := (f_X5_offerOf sM (nI j) (f_X5_nextOf_t sM (nI j)))) (rest := []) ⟨hx, hb, hml, hown, hts⟩ hK hA hP hD hS (c_X5_offerOf l k am sM (nI j) (f_X5_nextOf_t sM (nI j)) (by first | exact vp_in_nI (by omega) (by omega) | exact hI.rev (by omega)) (by first | exact k_tch hI.2.2.1 (by assumption) | exact vp_in_nI (by omega) (by omega) | exact hI.rev (by omega))) (cwV 2 hts gX5_foretell_X5_offerOf rfl rfl rfl (by decide +kernel) ⟨Nat.le_of_ble_eq_true rfl, Nat.le_of_ble_eq_true rfl⟩) (va_recv hK hP (ci := 5) (q0 := 0) rfl rfl) rfl hl.1 rfl (Nat.le_of_ble_eq_true rfl) dX5_foretell_129 (Nat.zero_le _) (Nat.zero_le _) [0, 1, 2, 3, 4, 5, 6, 7, 8, 9, 10, 11, 12, 13, 14, 15, 16, 17, 18, 19, 20, 21] [] [0, 1, 2, 3, 4, 5, 6, 7, 8, 9, 10, 11, 12, 13, 14, 15, 16, 17, 18, 19, 20, 21] rfl rfl rfl (by decide) rfl rfl rfl (fun H locs hP hD hS => ?_)
          refine lv_istore (lv' := [(6, .int (f_X5_offerOf sM (nI j) (f_X5_nextOf_t sM (nI j)))), (5, .int (f_X5_nextOf_t sM (nI j))), (4, .int (nI j)), (0, .ref (am 0)), (1, .int i1), (2, .int (nI jo)), (3, .int (nI j))]) hx hb dX5_foretell_132 hl (by decide) rfl (fun ls hl => ?_)
          refine lv_aload_n hx hb dX5_foretell_134 rfl (lv_at hl 3 rfl) ?_
          refine va_get (D := k.1) (ci := 5) (v := .ref (am 18)) (C := RX5) (T := TX5) (N := 28) hx hb hts in_X5_foretell_X5 hown hK hP 0 rfl rfl 24 (by decide) (k_w hts 1 rfl) (fun _ h9 => h9) rfl dX5_foretell_135 ?_
          refine lv_bipush (v := 10) hx hb dX5_foretell_138 (by decide) ?_
          refine lv_iload hx hb dX5_foretell_140 (lv_at hl 2 rfl) ?_
          refine lv_imul hx hb dX5_foretell_142 ?_
          refine lv_iload hx hb dX5_foretell_143 (lv_at hl 1 rfl) ?_
          refine lv_iadd hx hb dX5_foretell_145 ?_
          refine lv_iconst (v := 1) hx hb dX5_foretell_146 (by decide) ?_
          refine va_zast (f := sM 18) hx hb hK hP hD hS 18 1 rfl rfl (k_in10 (by first | exact vp_in_nI (by omega) (by omega) | exact hI.rev (by omega)) (by first | exact k_tch hI.2.2.1 (by assumption) | exact vp_in_nI (by omega) (by omega) | exact hI.rev (by omega))) dX5_foretell_147 (fun H locs hP hD hS => ?_)
          have hP := k_cP (w_M_18 k am sM (upd (sM 18) ((10 * (nI j)) + (f_X5_nextOf_t sM (nI j))).toNatClampNeg (vp_nar .boolean 1))) hP
          have hD := k_cD (w_M_18 k am sM (upd (sM 18) ((10 * (nI j)) + (f_X5_nextOf_t sM (nI j))).toNatClampNeg (vp_nar .boolean 1))) hD
          refine lv_aload_n hx hb dX5_foretell_148 rfl (lv_at hl 3 rfl) ?_
          refine va_get (D := k.1) (ci := 5) (v := .ref (am 19)) (C := RX5) (T := TX5) (N := 28) hx hb hts in_X5_foretell_X5 hown hK hP 0 rfl rfl 25 (by decide) (k_w hts 2 rfl) (fun _ h9 => h9) rfl dX5_foretell_149 ?_
          refine lv_iload hx hb dX5_foretell_152 (lv_at hl 1 rfl) ?_
          refine va_iald (f := sM 19) hx hb hK hP 19 0 rfl rfl (by first | exact k_tch hI.2.2.1 (by assumption) | exact vp_in_nI (by omega) (by omega) | exact hI.rev (by omega)) dX5_foretell_154 ?_
          refine lv_bipush (v := (-9)) hx hb dX5_foretell_155 (by decide) ?_
          refine lv_icmp_eq (tgt := 178) hx hb dX5_foretell_157 (by decide) (fun c_6 => ?_) (fun c_6 => ?_)
          ·
            refine lv_aload_n hx hb dX5_foretell_178 rfl (lv_at hl 3 rfl) ?_
            refine va_get (D := k.1) (ci := 5) (v := .ref (am 19)) (C := RX5) (T := TX5) (N := 28) hx hb hts in_X5_foretell_X5 hown hK hP 0 rfl rfl 25 (by decide) (k_w hts 2 rfl) (fun _ h9 => h9) rfl dX5_foretell_179 ?_
            refine lv_iload hx hb dX5_foretell_182 (lv_at hl 1 rfl) ?_
            refine va_iald (f := sM 19) hx hb hK hP 19 0 rfl rfl (by first | exact k_tch hI.2.2.1 (by assumption) | exact vp_in_nI (by omega) (by omega) | exact hI.rev (by omega)) dX5_foretell_184 ?_
            refine lv_bipush (v := (-9)) hx hb dX5_foretell_185 (by decide) ?_
            refine lv_icmp_eq (tgt := 204) hx hb dX5_foretell_187 (by decide) (fun c_7 => ?_) (fun c_7 => ?_)
            rotate_left
            · exact absurd c_6 c_7
            refine lv_aload_n hx hb dX5_foretell_204 rfl (lv_at hl 3 rfl) ?_
            refine va_get (D := k.1) (ci := 5) (v := .ref (am 19)) (C := RX5) (T := TX5) (N := 28) hx hb hts in_X5_foretell_X5 hown hK hP 0 rfl rfl 25 (by decide) (k_w hts 2 rfl) (fun _ h9 => h9) rfl dX5_foretell_205 ?_
            refine lv_iload hx hb dX5_foretell_208 (lv_at hl 1 rfl) ?_
            refine lv_iload hx hb dX5_foretell_210 (lv_at hl 2 rfl) ?_
            refine va_iast (f := sM 19) hx hb hK hP hD hS 19 0 rfl rfl (by first | exact k_tch hI.2.2.1 (by assumption) | exact vp_in_nI (by omega) (by omega) | exact hI.rev (by omega)) dX5_foretell_212 (fun H locs hP hD hS => ?_)
            have hP := k_cP (w_M_19 k am (k_st sM 18 (upd (sM 18) ((10 * (nI j)) + (f_X5_nextOf_t sM (nI j))).toNatClampNeg (vp_nar .boolean 1))) (upd (sM 19) (f_X5_nextOf_t sM (nI j)).toNatClampNeg (nI j))) hP
            have hD := k_cD (w_M_19 k am (k_st sM 18 (upd (sM 18) ((10 * (nI j)) + (f_X5_nextOf_t sM (nI j))).toNatClampNeg (vp_nar .boolean 1))) (upd (sM 19) (f_X5_nextOf_t sM (nI j)).toNatClampNeg (nI j))) hD
            refine lv_aload_n hx hb dX5_foretell_213 rfl (lv_at hl 3 rfl) ?_
            refine va_get (D := k.1) (ci := 5) (v := .ref (am 20)) (C := RX5) (T := TX5) (N := 28) hx hb hts in_X5_foretell_X5 hown hK hP 0 rfl rfl 26 (by decide) (k_w hts 5 rfl) (fun _ h9 => h9) rfl dX5_foretell_214 ?_
            refine lv_iload hx hb dX5_foretell_217 (lv_at hl 1 rfl) ?_
            refine lv_iload hx hb dX5_foretell_219 (lv_at hl 0 rfl) ?_
            refine va_iast (f := sM 20) hx hb hK hP hD hS 20 0 rfl rfl (by first | exact k_tch hI.2.2.1 (by assumption) | exact vp_in_nI (by omega) (by omega) | exact hI.rev (by omega)) dX5_foretell_221 (fun H locs hP hD hS => ?_)
            have hP := k_cP (w_M_20 k am (k_st (k_st sM 18 (upd (sM 18) ((10 * (nI j)) + (f_X5_nextOf_t sM (nI j))).toNatClampNeg (vp_nar .boolean 1))) 19 (upd (sM 19) (f_X5_nextOf_t sM (nI j)).toNatClampNeg (nI j))) (upd (sM 20) (f_X5_nextOf_t sM (nI j)).toNatClampNeg (f_X5_offerOf sM (nI j) (f_X5_nextOf_t sM (nI j))))) hP
            have hD := k_cD (w_M_20 k am (k_st (k_st sM 18 (upd (sM 18) ((10 * (nI j)) + (f_X5_nextOf_t sM (nI j))).toNatClampNeg (vp_nar .boolean 1))) 19 (upd (sM 19) (f_X5_nextOf_t sM (nI j)).toNatClampNeg (nI j))) (upd (sM 20) (f_X5_nextOf_t sM (nI j)).toNatClampNeg (f_X5_offerOf sM (nI j) (f_X5_nextOf_t sM (nI j))))) hD
            refine lv_aload_n hx hb dX5_foretell_222 rfl (lv_at hl 3 rfl) ?_
            refine va_get (D := k.1) (ci := 5) (v := .ref (am 21)) (C := RX5) (T := TX5) (N := 28) hx hb hts in_X5_foretell_X5 hown hK hP 0 rfl rfl 27 (by decide) (k_w hts 3 rfl) (fun _ h9 => h9) rfl dX5_foretell_223 ?_
            refine lv_iload hx hb dX5_foretell_226 (lv_at hl 2 rfl) ?_
            refine lv_iload hx hb dX5_foretell_228 (lv_at hl 1 rfl) ?_
            refine va_iast (f := sM 21) hx hb hK hP hD hS 21 0 rfl rfl (by first | exact vp_in_nI (by omega) (by omega) | exact hI.rev (by omega)) dX5_foretell_230 (fun H locs hP hD hS => ?_)
            have hP := k_cP (w_M_21 k am (k_st (k_st (k_st sM 18 (upd (sM 18) ((10 * (nI j)) + (f_X5_nextOf_t sM (nI j))).toNatClampNeg (vp_nar .boolean 1))) 19 (upd (sM 19) (f_X5_nextOf_t sM (nI j)).toNatClampNeg (nI j))) 20 (upd (sM 20) (f_X5_nextOf_t sM (nI j)).toNatClampNeg (f_X5_offerOf sM (nI j) (f_X5_nextOf_t sM (nI j))))) (upd (sM 21) (nI j).toNatClampNeg (f_X5_nextOf_t sM (nI j)))) hP
            have hD := k_cD (w_M_21 k am (k_st (k_st (k_st sM 18 (upd (sM 18) ((10 * (nI j)) + (f_X5_nextOf_t sM (nI j))).toNatClampNeg (vp_nar .boolean 1))) 19 (upd (sM 19) (f_X5_nextOf_t sM (nI j)).toNatClampNeg (nI j))) 20 (upd (sM 20) (f_X5_nextOf_t sM (nI j)).toNatClampNeg (f_X5_offerOf sM (nI j) (f_X5_nextOf_t sM (nI j))))) (upd (sM 21) (nI j).toNatClampNeg (f_X5_nextOf_t sM (nI j)))) hD
            refine lv_iinc (v := nI (j + 1)) (lv' := [(3, .int (nI (j + 1))), (6, .int (f_X5_offerOf sM (nI j) (f_X5_nextOf_t sM (nI j)))), (5, .int (f_X5_nextOf_t sM (nI j))), (4, .int (nI j)), (0, .ref (am 0)), (1, .int i1), (2, .int (nI jo))]) hx hb dX5_foretell_231 hl (k := 6) rfl (nI_1 j) (by decide) rfl (fun ls hl => ?_)
            refine lv_goto (tgt := 62) hx hb dX5_foretell_234 (by decide) ?_
            have eg : g_X5_foretell_in i1 jo NM (r + 1) j sM = g_X5_foretell_in i1 jo NM r (j + 1) (k_st (k_st (k_st (k_st sM 18 (upd (sM 18) ((10 * (nI j)) + (f_X5_nextOf_t sM (nI j))).toNatClampNeg (vp_nar .boolean 1))) 19 (upd (sM 19) (f_X5_nextOf_t sM (nI j)).toNatClampNeg (nI j))) 20 (upd (sM 20) (f_X5_nextOf_t sM (nI j)).toNatClampNeg (f_X5_offerOf sM (nI j) (f_X5_nextOf_t sM (nI j))))) 21 (upd (sM 21) (nI j).toNatClampNeg (f_X5_nextOf_t sM (nI j)))) := by
              rw [g_X5_foretell_in, if_pos c_2, if_pos c_3, if_neg c_5, if_pos c_6]
            rw [eg] at hQ
            exact ih (j + 1) (k_st (k_st (k_st (k_st sM 18 (upd (sM 18) ((10 * (nI j)) + (f_X5_nextOf_t sM (nI j))).toNatClampNeg (vp_nar .boolean 1))) 19 (upd (sM 19) (f_X5_nextOf_t sM (nI j)).toNatClampNeg (nI j))) 20 (upd (sM 20) (f_X5_nextOf_t sM (nI j)).toNatClampNeg (f_X5_offerOf sM (nI j) (f_X5_nextOf_t sM (nI j))))) 21 (upd (sM 21) (nI j).toNatClampNeg (f_X5_nextOf_t sM (nI j)))) _ _ _ (by omega) (by (try subst_vars); refine ⟨hI.1, hI.2.1, hI.2.2.1, ?_, ?_⟩ <;> first | exact hI.2.2.2.1 | exact hI.2.2.2.2 | exact k_updo hI.2.2.2.1 (Or.inr (by first | exact vp_in_nI (by omega) (by omega) | exact hI.rev (by omega))) | exact k_updo hI.2.2.2.2 (Or.inr (by first | exact k_tch hI.2.2.1 (by assumption) | exact vp_in_nI (by omega) (by omega) | exact hI.rev (by omega))) | exact k_updo (k_updo hI.2.2.2.2 (Or.inl rfl)) (Or.inr (by first | exact k_tch hI.2.2.1 (by assumption) | exact vp_in_nI (by omega) (by omega) | exact hI.rev (by omega)))) hP hD hS (lv_sub hl [4, 5, 6, 0] rfl) hQ
          ·
            refine lv_iload_n hx hb dX5_foretell_160 rfl (lv_at hl 5 rfl) ?_
            refine lv_bipush (v := 120) hx hb dX5_foretell_161 (by decide) ?_
            refine lv_icmp_ge (tgt := 231) hx hb dX5_foretell_163 (by decide) (fun c_8 => ?_) (fun c_8 => ?_)
            ·
              refine lv_iinc (v := nI (j + 1)) (lv' := [(3, .int (nI (j + 1))), (6, .int (f_X5_offerOf sM (nI j) (f_X5_nextOf_t sM (nI j)))), (5, .int (f_X5_nextOf_t sM (nI j))), (4, .int (nI j)), (0, .ref (am 0)), (1, .int i1), (2, .int (nI jo))]) hx hb dX5_foretell_231 hl (k := 6) rfl (nI_1 j) (by decide) rfl (fun ls hl => ?_)
              refine lv_goto (tgt := 62) hx hb dX5_foretell_234 (by decide) ?_
              have eg : g_X5_foretell_in i1 jo NM (r + 1) j sM = g_X5_foretell_in i1 jo NM r (j + 1) (k_st sM 18 (upd (sM 18) ((10 * (nI j)) + (f_X5_nextOf_t sM (nI j))).toNatClampNeg (vp_nar .boolean 1))) := by
                rw [g_X5_foretell_in, if_pos c_2, if_pos c_3, if_neg c_5, if_neg c_6, if_pos c_8]
              rw [eg] at hQ
              exact ih (j + 1) (k_st sM 18 (upd (sM 18) ((10 * (nI j)) + (f_X5_nextOf_t sM (nI j))).toNatClampNeg (vp_nar .boolean 1))) _ _ _ (by omega) (by (try subst_vars); refine ⟨hI.1, hI.2.1, hI.2.2.1, ?_, ?_⟩ <;> first | exact hI.2.2.2.1 | exact hI.2.2.2.2 | exact k_updo hI.2.2.2.1 (Or.inr (by first | exact vp_in_nI (by omega) (by omega) | exact hI.rev (by omega))) | exact k_updo hI.2.2.2.2 (Or.inr (by first | exact k_tch hI.2.2.1 (by assumption) | exact vp_in_nI (by omega) (by omega) | exact hI.rev (by omega))) | exact k_updo (k_updo hI.2.2.2.2 (Or.inl rfl)) (Or.inr (by first | exact k_tch hI.2.2.1 (by assumption) | exact vp_in_nI (by omega) (by omega) | exact hI.rev (by omega)))) hP hD hS (lv_sub hl [4, 5, 6, 0] rfl) hQ
            ·
              refine lv_iload hx hb dX5_foretell_166 (lv_at hl 0 rfl) ?_
              refine lv_aload_n hx hb dX5_foretell_168 rfl (lv_at hl 3 rfl) ?_
              refine va_get (D := k.1) (ci := 5) (v := .ref (am 20)) (C := RX5) (T := TX5) (N := 28) hx hb hts in_X5_foretell_X5 hown hK hP 0 rfl rfl 26 (by decide) (k_w hts 5 rfl) (fun _ h9 => h9) rfl dX5_foretell_169 ?_
              refine lv_iload hx hb dX5_foretell_172 (lv_at hl 1 rfl) ?_
              refine va_iald (f := sM 20) hx hb hK hP 20 0 rfl rfl (by first | exact k_tch hI.2.2.1 (by assumption) | exact vp_in_nI (by omega) (by omega) | exact hI.rev (by omega)) dX5_foretell_174 ?_
              refine lv_icmp_le (tgt := 231) hx hb dX5_foretell_175 (by decide) (fun c_9 => ?_) (fun c_9 => ?_)
              ·
                refine lv_iinc (v := nI (j + 1)) (lv' := [(3, .int (nI (j + 1))), (6, .int (f_X5_offerOf sM (nI j) (f_X5_nextOf_t sM (nI j)))), (5, .int (f_X5_nextOf_t sM (nI j))), (4, .int (nI j)), (0, .ref (am 0)), (1, .int i1), (2, .int (nI jo))]) hx hb dX5_foretell_231 hl (k := 6) rfl (nI_1 j) (by decide) rfl (fun ls hl => ?_)
                refine lv_goto (tgt := 62) hx hb dX5_foretell_234 (by decide) ?_
                have eg : g_X5_foretell_in i1 jo NM (r + 1) j sM = g_X5_foretell_in i1 jo NM r (j + 1) (k_st sM 18 (upd (sM 18) ((10 * (nI j)) + (f_X5_nextOf_t sM (nI j))).toNatClampNeg (vp_nar .boolean 1))) := by
                  rw [g_X5_foretell_in, if_pos c_2, if_pos c_3, if_neg c_5, if_neg c_6, if_neg c_8, if_pos c_9]
                rw [eg] at hQ
                exact ih (j + 1) (k_st sM 18 (upd (sM 18) ((10 * (nI j)) + (f_X5_nextOf_t sM (nI j))).toNatClampNeg (vp_nar .boolean 1))) _ _ _ (by omega) (by (try subst_vars); refine ⟨hI.1, hI.2.1, hI.2.2.1, ?_, ?_⟩ <;> first | exact hI.2.2.2.1 | exact hI.2.2.2.2 | exact k_updo hI.2.2.2.1 (Or.inr (by first | exact vp_in_nI (by omega) (by omega) | exact hI.rev (by omega))) | exact k_updo hI.2.2.2.2 (Or.inr (by first | exact k_tch hI.2.2.1 (by assumption) | exact vp_in_nI (by omega) (by omega) | exact hI.rev (by omega))) | exact k_updo (k_updo hI.2.2.2.2 (Or.inl rfl)) (Or.inr (by first | exact k_tch hI.2.2.1 (by assumption) | exact vp_in_nI (by omega) (by omega) | exact hI.rev (by omega)))) hP hD hS (lv_sub hl [4, 5, 6, 0] rfl) hQ
              ·
                refine lv_aload_n hx hb dX5_foretell_178 rfl (lv_at hl 3 rfl) ?_
                refine va_get (D := k.1) (ci := 5) (v := .ref (am 19)) (C := RX5) (T := TX5) (N := 28) hx hb hts in_X5_foretell_X5 hown hK hP 0 rfl rfl 25 (by decide) (k_w hts 2 rfl) (fun _ h9 => h9) rfl dX5_foretell_179 ?_
                refine lv_iload hx hb dX5_foretell_182 (lv_at hl 1 rfl) ?_
                refine va_iald (f := sM 19) hx hb hK hP 19 0 rfl rfl (by first | exact k_tch hI.2.2.1 (by assumption) | exact vp_in_nI (by omega) (by omega) | exact hI.rev (by omega)) dX5_foretell_184 ?_
                refine lv_bipush (v := (-9)) hx hb dX5_foretell_185 (by decide) ?_
                refine lv_icmp_eq (tgt := 204) hx hb dX5_foretell_187 (by decide) (fun c_10 => ?_) (fun c_10 => ?_)
                · exact absurd c_10 c_6
                refine lv_aload_n hx hb dX5_foretell_190 rfl (lv_at hl 3 rfl) ?_
                refine va_get (D := k.1) (ci := 5) (v := .ref (am 21)) (C := RX5) (T := TX5) (N := 28) hx hb hts in_X5_foretell_X5 hown hK hP 0 rfl rfl 27 (by decide) (k_w hts 3 rfl) (fun _ h9 => h9) rfl dX5_foretell_191 ?_
                refine lv_aload_n hx hb dX5_foretell_194 rfl (lv_at hl 3 rfl) ?_
                refine va_get (D := k.1) (ci := 5) (v := .ref (am 19)) (C := RX5) (T := TX5) (N := 28) hx hb hts in_X5_foretell_X5 hown hK hP 0 rfl rfl 25 (by decide) (k_w hts 2 rfl) (fun _ h9 => h9) rfl dX5_foretell_195 ?_
                refine lv_iload hx hb dX5_foretell_198 (lv_at hl 1 rfl) ?_
                refine va_iald (f := sM 19) hx hb hK hP 19 0 rfl rfl (by first | exact k_tch hI.2.2.1 (by assumption) | exact vp_in_nI (by omega) (by omega) | exact hI.rev (by omega)) dX5_foretell_200 ?_
                refine lv_bipush (v := (-9)) hx hb dX5_foretell_201 (by decide) ?_
                refine va_iast (f := sM 21) hx hb hK hP hD hS 21 0 rfl rfl ((hI.2.2.2.1 _ (k_lt (by first | exact k_tch hI.2.2.1 (by assumption) | exact vp_in_nI (by omega) (by omega) | exact hI.rev (by omega)))).in (by assumption)) dX5_foretell_203 (fun H locs hP hD hS => ?_)
                have hP := k_cP (w_M_21 k am (k_st sM 18 (upd (sM 18) ((10 * (nI j)) + (f_X5_nextOf_t sM (nI j))).toNatClampNeg (vp_nar .boolean 1))) (upd (sM 21) ((sM 19) (f_X5_nextOf_t sM (nI j)).toNatClampNeg).toNatClampNeg (-9))) hP
                have hD := k_cD (w_M_21 k am (k_st sM 18 (upd (sM 18) ((10 * (nI j)) + (f_X5_nextOf_t sM (nI j))).toNatClampNeg (vp_nar .boolean 1))) (upd (sM 21) ((sM 19) (f_X5_nextOf_t sM (nI j)).toNatClampNeg).toNatClampNeg (-9))) hD
                refine lv_aload_n hx hb dX5_foretell_204 rfl (lv_at hl 3 rfl) ?_
                refine va_get (D := k.1) (ci := 5) (v := .ref (am 19)) (C := RX5) (T := TX5) (N := 28) hx hb hts in_X5_foretell_X5 hown hK hP 0 rfl rfl 25 (by decide) (k_w hts 2 rfl) (fun _ h9 => h9) rfl dX5_foretell_205 ?_
                refine lv_iload hx hb dX5_foretell_208 (lv_at hl 1 rfl) ?_
                refine lv_iload hx hb dX5_foretell_210 (lv_at hl 2 rfl) ?_
                refine va_iast (f := sM 19) hx hb hK hP hD hS 19 0 rfl rfl (by first | exact k_tch hI.2.2.1 (by assumption) | exact vp_in_nI (by omega) (by omega) | exact hI.rev (by omega)) dX5_foretell_212 (fun H locs hP hD hS => ?_)
                have hP := k_cP (w_M_19 k am (k_st (k_st sM 18 (upd (sM 18) ((10 * (nI j)) + (f_X5_nextOf_t sM (nI j))).toNatClampNeg (vp_nar .boolean 1))) 21 (upd (sM 21) ((sM 19) (f_X5_nextOf_t sM (nI j)).toNatClampNeg).toNatClampNeg (-9))) (upd (sM 19) (f_X5_nextOf_t sM (nI j)).toNatClampNeg (nI j))) hP
                have hD := k_cD (w_M_19 k am (k_st (k_st sM 18 (upd (sM 18) ((10 * (nI j)) + (f_X5_nextOf_t sM (nI j))).toNatClampNeg (vp_nar .boolean 1))) 21 (upd (sM 21) ((sM 19) (f_X5_nextOf_t sM (nI j)).toNatClampNeg).toNatClampNeg (-9))) (upd (sM 19) (f_X5_nextOf_t sM (nI j)).toNatClampNeg (nI j))) hD
                refine lv_aload_n hx hb dX5_foretell_213 rfl (lv_at hl 3 rfl) ?_
                refine va_get (D := k.1) (ci := 5) (v := .ref (am 20)) (C := RX5) (T := TX5) (N := 28) hx hb hts in_X5_foretell_X5 hown hK hP 0 rfl rfl 26 (by decide) (k_w hts 5 rfl) (fun _ h9 => h9) rfl dX5_foretell_214 ?_
                refine lv_iload hx hb dX5_foretell_217 (lv_at hl 1 rfl) ?_
                refine lv_iload hx hb dX5_foretell_219 (lv_at hl 0 rfl) ?_
                refine va_iast (f := sM 20) hx hb hK hP hD hS 20 0 rfl rfl (by first | exact k_tch hI.2.2.1 (by assumption) | exact vp_in_nI (by omega) (by omega) | exact hI.rev (by omega)) dX5_foretell_221 (fun H locs hP hD hS => ?_)
                have hP := k_cP (w_M_20 k am (k_st (k_st (k_st sM 18 (upd (sM 18) ((10 * (nI j)) + (f_X5_nextOf_t sM (nI j))).toNatClampNeg (vp_nar .boolean 1))) 21 (upd (sM 21) ((sM 19) (f_X5_nextOf_t sM (nI j)).toNatClampNeg).toNatClampNeg (-9))) 19 (upd (sM 19) (f_X5_nextOf_t sM (nI j)).toNatClampNeg (nI j))) (upd (sM 20) (f_X5_nextOf_t sM (nI j)).toNatClampNeg (f_X5_offerOf sM (nI j) (f_X5_nextOf_t sM (nI j))))) hP
                have hD := k_cD (w_M_20 k am (k_st (k_st (k_st sM 18 (upd (sM 18) ((10 * (nI j)) + (f_X5_nextOf_t sM (nI j))).toNatClampNeg (vp_nar .boolean 1))) 21 (upd (sM 21) ((sM 19) (f_X5_nextOf_t sM (nI j)).toNatClampNeg).toNatClampNeg (-9))) 19 (upd (sM 19) (f_X5_nextOf_t sM (nI j)).toNatClampNeg (nI j))) (upd (sM 20) (f_X5_nextOf_t sM (nI j)).toNatClampNeg (f_X5_offerOf sM (nI j) (f_X5_nextOf_t sM (nI j))))) hD
                refine lv_aload_n hx hb dX5_foretell_222 rfl (lv_at hl 3 rfl) ?_
                refine va_get (D := k.1) (ci := 5) (v := .ref (am 21)) (C := RX5) (T := TX5) (N := 28) hx hb hts in_X5_foretell_X5 hown hK hP 0 rfl rfl 27 (by decide) (k_w hts 3 rfl) (fun _ h9 => h9) rfl dX5_foretell_223 ?_
                refine lv_iload hx hb dX5_foretell_226 (lv_at hl 2 rfl) ?_
                refine lv_iload hx hb dX5_foretell_228 (lv_at hl 1 rfl) ?_
                refine va_iast (f := upd (sM 21) ((sM 19) (f_X5_nextOf_t sM (nI j)).toNatClampNeg).toNatClampNeg (-9)) hx hb hK hP hD hS 21 0 rfl rfl (by first | exact vp_in_nI (by omega) (by omega) | exact hI.rev (by omega)) dX5_foretell_230 (fun H locs hP hD hS => ?_)
                have hP := k_cP (w_M_21 k am (k_st (k_st (k_st (k_st sM 18 (upd (sM 18) ((10 * (nI j)) + (f_X5_nextOf_t sM (nI j))).toNatClampNeg (vp_nar .boolean 1))) 21 (upd (sM 21) ((sM 19) (f_X5_nextOf_t sM (nI j)).toNatClampNeg).toNatClampNeg (-9))) 19 (upd (sM 19) (f_X5_nextOf_t sM (nI j)).toNatClampNeg (nI j))) 20 (upd (sM 20) (f_X5_nextOf_t sM (nI j)).toNatClampNeg (f_X5_offerOf sM (nI j) (f_X5_nextOf_t sM (nI j))))) (upd (upd (sM 21) ((sM 19) (f_X5_nextOf_t sM (nI j)).toNatClampNeg).toNatClampNeg (-9)) (nI j).toNatClampNeg (f_X5_nextOf_t sM (nI j)))) hP
                have hD := k_cD (w_M_21 k am (k_st (k_st (k_st (k_st sM 18 (upd (sM 18) ((10 * (nI j)) + (f_X5_nextOf_t sM (nI j))).toNatClampNeg (vp_nar .boolean 1))) 21 (upd (sM 21) ((sM 19) (f_X5_nextOf_t sM (nI j)).toNatClampNeg).toNatClampNeg (-9))) 19 (upd (sM 19) (f_X5_nextOf_t sM (nI j)).toNatClampNeg (nI j))) 20 (upd (sM 20) (f_X5_nextOf_t sM (nI j)).toNatClampNeg (f_X5_offerOf sM (nI j) (f_X5_nextOf_t sM (nI j))))) (upd (upd (sM 21) ((sM 19) (f_X5_nextOf_t sM (nI j)).toNatClampNeg).toNatClampNeg (-9)) (nI j).toNatClampNeg (f_X5_nextOf_t sM (nI j)))) hD
                refine lv_iinc (v := nI (j + 1)) (lv' := [(3, .int (nI (j + 1))), (6, .int (f_X5_offerOf sM (nI j) (f_X5_nextOf_t sM (nI j)))), (5, .int (f_X5_nextOf_t sM (nI j))), (4, .int (nI j)), (0, .ref (am 0)), (1, .int i1), (2, .int (nI jo))]) hx hb dX5_foretell_231 hl (k := 6) rfl (nI_1 j) (by decide) rfl (fun ls hl => ?_)
                refine lv_goto (tgt := 62) hx hb dX5_foretell_234 (by decide) ?_
                have eg : g_X5_foretell_in i1 jo NM (r + 1) j sM = g_X5_foretell_in i1 jo NM r (j + 1) (k_st (k_st (k_st (k_st (k_st sM 18 (upd (sM 18) ((10 * (nI j)) + (f_X5_nextOf_t sM (nI j))).toNatClampNeg (vp_nar .boolean 1))) 21 (upd (sM 21) ((sM 19) (f_X5_nextOf_t sM (nI j)).toNatClampNeg).toNatClampNeg (-9))) 19 (upd (sM 19) (f_X5_nextOf_t sM (nI j)).toNatClampNeg (nI j))) 20 (upd (sM 20) (f_X5_nextOf_t sM (nI j)).toNatClampNeg (f_X5_offerOf sM (nI j) (f_X5_nextOf_t sM (nI j))))) 21 (upd (upd (sM 21) ((sM 19) (f_X5_nextOf_t sM (nI j)).toNatClampNeg).toNatClampNeg (-9)) (nI j).toNatClampNeg (f_X5_nextOf_t sM (nI j)))) := by
                  rw [g_X5_foretell_in, if_pos c_2, if_pos c_3, if_neg c_5, if_neg c_6, if_neg c_8, if_neg c_9]
                rw [eg] at hQ
                exact ih (j + 1) (k_st (k_st (k_st (k_st (k_st sM 18 (upd (sM 18) ((10 * (nI j)) + (f_X5_nextOf_t sM (nI j))).toNatClampNeg (vp_nar .boolean 1))) 21 (upd (sM 21) ((sM 19) (f_X5_nextOf_t sM (nI j)).toNatClampNeg).toNatClampNeg (-9))) 19 (upd (sM 19) (f_X5_nextOf_t sM (nI j)).toNatClampNeg (nI j))) 20 (upd (sM 20) (f_X5_nextOf_t sM (nI j)).toNatClampNeg (f_X5_offerOf sM (nI j) (f_X5_nextOf_t sM (nI j))))) 21 (upd (upd (sM 21) ((sM 19) (f_X5_nextOf_t sM (nI j)).toNatClampNeg).toNatClampNeg (-9)) (nI j).toNatClampNeg (f_X5_nextOf_t sM (nI j)))) _ _ _ (by omega) (by (try subst_vars); refine ⟨hI.1, hI.2.1, hI.2.2.1, ?_, ?_⟩ <;> first | exact hI.2.2.2.1 | exact hI.2.2.2.2 | exact k_updo hI.2.2.2.1 (Or.inr (by first | exact vp_in_nI (by omega) (by omega) | exact hI.rev (by omega))) | exact k_updo hI.2.2.2.2 (Or.inr (by first | exact k_tch hI.2.2.1 (by assumption) | exact vp_in_nI (by omega) (by omega) | exact hI.rev (by omega))) | exact k_updo (k_updo hI.2.2.2.2 (Or.inl rfl)) (Or.inr (by first | exact k_tch hI.2.2.1 (by assumption) | exact vp_in_nI (by omega) (by omega) | exact hI.rev (by omega)))) hP hD hS (lv_sub hl [4, 5, 6, 0] rfl) hQ
    ·
      refine lv_aload_n hx hb dX5_foretell_74 rfl (lv_at hl 0 rfl) ?_
      refine va_get (D := k.1) (ci := 5) (v := .int (sM 0 2)) (C := RX5) (T := TX5) (N := 28) hx hb hts in_X5_foretell_X5 hown hK hP 0 rfl rfl 5 (by decide) (k_w hts 4 rfl) (fun _ h9 => h9) rfl dX5_foretell_75 ?_
      refine lv_iconst (v := 1) hx hb dX5_foretell_78 (by decide) ?_
      refine lv_isub hx hb dX5_foretell_79 ?_
      refine lv_iload_n hx hb dX5_foretell_80 rfl (lv_at hl 3 rfl) ?_
      refine lv_isub hx hb dX5_foretell_81 ?_
      refine lv_goto (tgt := 86) hx hb dX5_foretell_82 (by decide) ?_
      refine lv_istore (lv' := [(4, .int (((sM 0 2) - 1) - (nI j))), (0, .ref (am 0)), (1, .int i1), (2, .int (nI jo)), (3, .int (nI j))]) hx hb dX5_foretell_86 hl (by decide) rfl (fun ls hl => ?_)
      refine lv_aload_n hx hb dX5_foretell_88 rfl (lv_at hl 1 rfl) ?_
      refine va_get (D := k.1) (ci := 5) (v := .ref (am 21)) (C := RX5) (T := TX5) (N := 28) hx hb hts in_X5_foretell_X5 hown hK hP 0 rfl rfl 27 (by decide) (k_w hts 3 rfl) (fun _ h9 => h9) rfl dX5_foretell_89 ?_
      refine lv_iload hx hb dX5_foretell_92 (lv_at hl 0 rfl) ?_
      refine va_iald (f := sM 21) hx hb hK hP 21 0 rfl rfl (by first | exact vp_in_nI (by omega) (by omega) | exact hI.rev (by omega)) dX5_foretell_94 ?_
      refine lv_bipush (v := (-9)) hx hb dX5_foretell_95 (by decide) ?_
      refine lv_icmp_ne (tgt := 113) hx hb dX5_foretell_97 (by decide) (fun c_11 => ?_) (fun c_11 => ?_)
      ·
        refine lv_bipush (v := (-9)) hx hb dX5_foretell_113 (by decide) ?_
        refine lv_istore (lv' := [(5, .int (-9)), (4, .int (((sM 0 2) - 1) - (nI j))), (0, .ref (am 0)), (1, .int i1), (2, .int (nI jo)), (3, .int (nI j))]) hx hb dX5_foretell_115 hl (by decide) rfl (fun ls hl => ?_)
        refine lv_iload hx hb dX5_foretell_117 (lv_at hl 0 rfl) ?_
        refine lv_bipush (v := (-9)) hx hb dX5_foretell_119 (by decide) ?_
        refine lv_icmp_eq (tgt := 231) hx hb dX5_foretell_121 (by decide) (fun c_12 => ?_) (fun c_12 => ?_)
        rotate_left
        · exact absurd (by decide) c_12
        refine lv_iinc (v := nI (j + 1)) (lv' := [(3, .int (nI (j + 1))), (5, .int (-9)), (4, .int (((sM 0 2) - 1) - (nI j))), (0, .ref (am 0)), (1, .int i1), (2, .int (nI jo))]) hx hb dX5_foretell_231 hl (k := 5) rfl (nI_1 j) (by decide) rfl (fun ls hl => ?_)
        refine lv_goto (tgt := 62) hx hb dX5_foretell_234 (by decide) ?_
        have eg : g_X5_foretell_in i1 jo NM (r + 1) j sM = g_X5_foretell_in i1 jo NM r (j + 1) sM := by
          rw [g_X5_foretell_in, if_neg c_2, if_neg c_11]
        rw [eg] at hQ
        exact ih (j + 1) sM _ _ _ (by omega) (by (try subst_vars); refine ⟨hI.1, hI.2.1, hI.2.2.1, ?_, ?_⟩ <;> first | exact hI.2.2.2.1 | exact hI.2.2.2.2 | exact k_updo hI.2.2.2.1 (Or.inr (by first | exact vp_in_nI (by omega) (by omega) | exact hI.rev (by omega))) | exact k_updo hI.2.2.2.2 (Or.inr (by first | exact k_tch hI.2.2.1 (by assumption) | exact vp_in_nI (by omega) (by omega) | exact hI.rev (by omega))) | exact k_updo (k_updo hI.2.2.2.2 (Or.inl rfl)) (Or.inr (by first | exact k_tch hI.2.2.1 (by assumption) | exact vp_in_nI (by omega) (by omega) | exact hI.rev (by omega)))) hP hD hS (lv_sub hl [3, 4, 5, 0] rfl) hQ
      ·
        refine lv_aload_n hx hb dX5_foretell_100 rfl (lv_at hl 1 rfl) ?_
        refine lv_iload hx hb dX5_foretell_101 (lv_at hl 0 rfl) ?_
        refine lv_aload_n hx hb dX5_foretell_103 rfl (lv_at hl 1 rfl) ?_
        refine va_get (D := k.1) (ci := 5) (v := .ref (am 18)) (C := RX5) (T := TX5) (N := 28) hx hb hts in_X5_foretell_X5 hown hK hP 0 rfl rfl 24 (by decide) (k_w hts 1 rfl) (fun _ h9 => h9) rfl dX5_foretell_104 ?_
        refine k_Vi (wr := ([] : va_W)) (ws' := w_M k am sM) (Rv := (f_X5_nextOf_t sM (((sM 0 2) - 1) - (nI j)))) (rest := []) ⟨hx, hb, hml, hown, hts⟩ hK hA hP hD hS (c_X5_nextOf_t l k am sM (((sM 0 2) - 1) - (nI j)) (by first | exact vp_in_nI (by omega) (by omega) | exact hI.rev (by omega)) (hI.2.2.1)) (cwV 2 hts gX5_foretell_X5_nextOf rfl rfl rfl (by decide +kernel) ⟨Nat.le_of_ble_eq_true rfl, Nat.le_of_ble_eq_true rfl⟩) (va_recv hK hP (ci := 5) (q0 := 0) rfl rfl) rfl hl.1 rfl (Nat.le_of_ble_eq_true rfl) dX5_foretell_107 (Nat.zero_le _) (Nat.zero_le _) [0, 1, 2, 3, 4, 5, 6, 7, 8, 9, 10, 11, 12, 13, 14, 15, 16, 17, 18, 19, 20, 21] [] [0, 1, 2, 3, 4, 5, 6, 7, 8, 9, 10, 11, 12, 13, 14, 15, 16, 17, 18, 19, 20, 21] rfl rfl rfl (by decide) rfl rfl rfl (fun H locs hP hD hS => ?_)
        refine lv_goto (tgt := 115) hx hb dX5_foretell_110 (by decide) ?_
        refine lv_istore (lv' := [(5, .int (f_X5_nextOf_t sM (((sM 0 2) - 1) - (nI j)))), (4, .int (((sM 0 2) - 1) - (nI j))), (0, .ref (am 0)), (1, .int i1), (2, .int (nI jo)), (3, .int (nI j))]) hx hb dX5_foretell_115 hl (by decide) rfl (fun ls hl => ?_)
        refine lv_iload hx hb dX5_foretell_117 (lv_at hl 0 rfl) ?_
        refine lv_bipush (v := (-9)) hx hb dX5_foretell_119 (by decide) ?_
        refine lv_icmp_eq (tgt := 231) hx hb dX5_foretell_121 (by decide) (fun c_13 => ?_) (fun c_13 => ?_)
        ·
          refine lv_iinc (v := nI (j + 1)) (lv' := [(3, .int (nI (j + 1))), (5, .int (f_X5_nextOf_t sM (((sM 0 2) - 1) - (nI j)))), (4, .int (((sM 0 2) - 1) - (nI j))), (0, .ref (am 0)), (1, .int i1), (2, .int (nI jo))]) hx hb dX5_foretell_231 hl (k := 5) rfl (nI_1 j) (by decide) rfl (fun ls hl => ?_)
          refine lv_goto (tgt := 62) hx hb dX5_foretell_234 (by decide) ?_
          have eg : g_X5_foretell_in i1 jo NM (r + 1) j sM = g_X5_foretell_in i1 jo NM r (j + 1) sM := by
            rw [g_X5_foretell_in, if_neg c_2, if_pos c_11, if_pos c_13]
          rw [eg] at hQ
          exact ih (j + 1) sM _ _ _ (by omega) (by (try subst_vars); refine ⟨hI.1, hI.2.1, hI.2.2.1, ?_, ?_⟩ <;> first | exact hI.2.2.2.1 | exact hI.2.2.2.2 | exact k_updo hI.2.2.2.1 (Or.inr (by first | exact vp_in_nI (by omega) (by omega) | exact hI.rev (by omega))) | exact k_updo hI.2.2.2.2 (Or.inr (by first | exact k_tch hI.2.2.1 (by assumption) | exact vp_in_nI (by omega) (by omega) | exact hI.rev (by omega))) | exact k_updo (k_updo hI.2.2.2.2 (Or.inl rfl)) (Or.inr (by first | exact k_tch hI.2.2.1 (by assumption) | exact vp_in_nI (by omega) (by omega) | exact hI.rev (by omega)))) hP hD hS (lv_sub hl [3, 4, 5, 0] rfl) hQ
        ·
          refine lv_aload_n hx hb dX5_foretell_124 rfl (lv_at hl 2 rfl) ?_
          refine lv_iload hx hb dX5_foretell_125 (lv_at hl 1 rfl) ?_
          refine lv_iload hx hb dX5_foretell_127 (lv_at hl 0 rfl) ?_
          refine k_Vi (wr := ([] : va_W)) (ws' := w_M k am sM) (Rv := (f_X5_offerOf sM (((sM 0 2) - 1) - (nI j)) (f_X5_nextOf_t sM (((sM 0 2) - 1) - (nI j))))) (rest := []) ⟨hx, hb, hml, hown, hts⟩ hK hA hP hD hS (c_X5_offerOf l k am sM (((sM 0 2) - 1) - (nI j)) (f_X5_nextOf_t sM (((sM 0 2) - 1) - (nI j))) (by first | exact vp_in_nI (by omega) (by omega) | exact hI.rev (by omega)) (by first | exact k_tch hI.2.2.1 (by assumption) | exact vp_in_nI (by omega) (by omega) | exact hI.rev (by omega))) (cwV 2 hts gX5_foretell_X5_offerOf rfl rfl rfl (by decide +kernel) ⟨Nat.le_of_ble_eq_true rfl, Nat.le_of_ble_eq_true rfl⟩) (va_recv hK hP (ci := 5) (q0 := 0) rfl rfl) rfl hl.1 rfl (Nat.le_of_ble_eq_true rfl) dX5_foretell_129 (Nat.zero_le _) (Nat.zero_le _) [0, 1, 2, 3, 4, 5, 6, 7, 8, 9, 10, 11, 12, 13, 14, 15, 16, 17, 18, 19, 20, 21] [] [0, 1, 2, 3, 4, 5, 6, 7, 8, 9, 10, 11, 12, 13, 14, 15, 16, 17, 18, 19, 20, 21] rfl rfl rfl (by decide) rfl rfl rfl (fun H locs hP hD hS => ?_)
          refine lv_istore (lv' := [(6, .int (f_X5_offerOf sM (((sM 0 2) - 1) - (nI j)) (f_X5_nextOf_t sM (((sM 0 2) - 1) - (nI j))))), (5, .int (f_X5_nextOf_t sM (((sM 0 2) - 1) - (nI j)))), (4, .int (((sM 0 2) - 1) - (nI j))), (0, .ref (am 0)), (1, .int i1), (2, .int (nI jo)), (3, .int (nI j))]) hx hb dX5_foretell_132 hl (by decide) rfl (fun ls hl => ?_)
          refine lv_aload_n hx hb dX5_foretell_134 rfl (lv_at hl 3 rfl) ?_
          refine va_get (D := k.1) (ci := 5) (v := .ref (am 18)) (C := RX5) (T := TX5) (N := 28) hx hb hts in_X5_foretell_X5 hown hK hP 0 rfl rfl 24 (by decide) (k_w hts 1 rfl) (fun _ h9 => h9) rfl dX5_foretell_135 ?_
          refine lv_bipush (v := 10) hx hb dX5_foretell_138 (by decide) ?_
          refine lv_iload hx hb dX5_foretell_140 (lv_at hl 2 rfl) ?_
          refine lv_imul hx hb dX5_foretell_142 ?_
          refine lv_iload hx hb dX5_foretell_143 (lv_at hl 1 rfl) ?_
          refine lv_iadd hx hb dX5_foretell_145 ?_
          refine lv_iconst (v := 1) hx hb dX5_foretell_146 (by decide) ?_
          refine va_zast (f := sM 18) hx hb hK hP hD hS 18 1 rfl rfl (k_in10 (by first | exact vp_in_nI (by omega) (by omega) | exact hI.rev (by omega)) (by first | exact k_tch hI.2.2.1 (by assumption) | exact vp_in_nI (by omega) (by omega) | exact hI.rev (by omega))) dX5_foretell_147 (fun H locs hP hD hS => ?_)
          have hP := k_cP (w_M_18 k am sM (upd (sM 18) ((10 * (((sM 0 2) - 1) - (nI j))) + (f_X5_nextOf_t sM (((sM 0 2) - 1) - (nI j)))).toNatClampNeg (vp_nar .boolean 1))) hP
          have hD := k_cD (w_M_18 k am sM (upd (sM 18) ((10 * (((sM 0 2) - 1) - (nI j))) + (f_X5_nextOf_t sM (((sM 0 2) - 1) - (nI j)))).toNatClampNeg (vp_nar .boolean 1))) hD
          refine lv_aload_n hx hb dX5_foretell_148 rfl (lv_at hl 3 rfl) ?_
          refine va_get (D := k.1) (ci := 5) (v := .ref (am 19)) (C := RX5) (T := TX5) (N := 28) hx hb hts in_X5_foretell_X5 hown hK hP 0 rfl rfl 25 (by decide) (k_w hts 2 rfl) (fun _ h9 => h9) rfl dX5_foretell_149 ?_
          refine lv_iload hx hb dX5_foretell_152 (lv_at hl 1 rfl) ?_
          refine va_iald (f := sM 19) hx hb hK hP 19 0 rfl rfl (by first | exact k_tch hI.2.2.1 (by assumption) | exact vp_in_nI (by omega) (by omega) | exact hI.rev (by omega)) dX5_foretell_154 ?_
          refine lv_bipush (v := (-9)) hx hb dX5_foretell_155 (by decide) ?_
          refine lv_icmp_eq (tgt := 178) hx hb dX5_foretell_157 (by decide) (fun c_14 => ?_) (fun c_14 => ?_)
          ·
            refine lv_aload_n hx hb dX5_foretell_178 rfl (lv_at hl 3 rfl) ?_
            refine va_get (D := k.1) (ci := 5) (v := .ref (am 19)) (C := RX5) (T := TX5) (N := 28) hx hb hts in_X5_foretell_X5 hown hK hP 0 rfl rfl 25 (by decide) (k_w hts 2 rfl) (fun _ h9 => h9) rfl dX5_foretell_179 ?_
            refine lv_iload hx hb dX5_foretell_182 (lv_at hl 1 rfl) ?_
            refine va_iald (f := sM 19) hx hb hK hP 19 0 rfl rfl (by first | exact k_tch hI.2.2.1 (by assumption) | exact vp_in_nI (by omega) (by omega) | exact hI.rev (by omega)) dX5_foretell_184 ?_
            refine lv_bipush (v := (-9)) hx hb dX5_foretell_185 (by decide) ?_
            refine lv_icmp_eq (tgt := 204) hx hb dX5_foretell_187 (by decide) (fun c_15 => ?_) (fun c_15 => ?_)
            rotate_left
            · exact absurd c_14 c_15
            refine lv_aload_n hx hb dX5_foretell_204 rfl (lv_at hl 3 rfl) ?_
            refine va_get (D := k.1) (ci := 5) (v := .ref (am 19)) (C := RX5) (T := TX5) (N := 28) hx hb hts in_X5_foretell_X5 hown hK hP 0 rfl rfl 25 (by decide) (k_w hts 2 rfl) (fun _ h9 => h9) rfl dX5_foretell_205 ?_
            refine lv_iload hx hb dX5_foretell_208 (lv_at hl 1 rfl) ?_
            refine lv_iload hx hb dX5_foretell_210 (lv_at hl 2 rfl) ?_
            refine va_iast (f := sM 19) hx hb hK hP hD hS 19 0 rfl rfl (by first | exact k_tch hI.2.2.1 (by assumption) | exact vp_in_nI (by omega) (by omega) | exact hI.rev (by omega)) dX5_foretell_212 (fun H locs hP hD hS => ?_)
            have hP := k_cP (w_M_19 k am (k_st sM 18 (upd (sM 18) ((10 * (((sM 0 2) - 1) - (nI j))) + (f_X5_nextOf_t sM (((sM 0 2) - 1) - (nI j)))).toNatClampNeg (vp_nar .boolean 1))) (upd (sM 19) (f_X5_nextOf_t sM (((sM 0 2) - 1) - (nI j))).toNatClampNeg (((sM 0 2) - 1) - (nI j)))) hP
            have hD := k_cD (w_M_19 k am (k_st sM 18 (upd (sM 18) ((10 * (((sM 0 2) - 1) - (nI j))) + (f_X5_nextOf_t sM (((sM 0 2) - 1) - (nI j)))).toNatClampNeg (vp_nar .boolean 1))) (upd (sM 19) (f_X5_nextOf_t sM (((sM 0 2) - 1) - (nI j))).toNatClampNeg (((sM 0 2) - 1) - (nI j)))) hD
            refine lv_aload_n hx hb dX5_foretell_213 rfl (lv_at hl 3 rfl) ?_
            refine va_get (D := k.1) (ci := 5) (v := .ref (am 20)) (C := RX5) (T := TX5) (N := 28) hx hb hts in_X5_foretell_X5 hown hK hP 0 rfl rfl 26 (by decide) (k_w hts 5 rfl) (fun _ h9 => h9) rfl dX5_foretell_214 ?_
            refine lv_iload hx hb dX5_foretell_217 (lv_at hl 1 rfl) ?_
            refine lv_iload hx hb dX5_foretell_219 (lv_at hl 0 rfl) ?_
            refine va_iast (f := sM 20) hx hb hK hP hD hS 20 0 rfl rfl (by first | exact k_tch hI.2.2.1 (by assumption) | exact vp_in_nI (by omega) (by omega) | exact hI.rev (by omega)) dX5_foretell_221 (fun H locs hP hD hS => ?_)
            have hP := k_cP (w_M_20 k am (k_st (k_st sM 18 (upd (sM 18) ((10 * (((sM 0 2) - 1) - (nI j))) + (f_X5_nextOf_t sM (((sM 0 2) - 1) - (nI j)))).toNatClampNeg (vp_nar .boolean 1))) 19 (upd (sM 19) (f_X5_nextOf_t sM (((sM 0 2) - 1) - (nI j))).toNatClampNeg (((sM 0 2) - 1) - (nI j)))) (upd (sM 20) (f_X5_nextOf_t sM (((sM 0 2) - 1) - (nI j))).toNatClampNeg (f_X5_offerOf sM (((sM 0 2) - 1) - (nI j)) (f_X5_nextOf_t sM (((sM 0 2) - 1) - (nI j)))))) hP
            have hD := k_cD (w_M_20 k am (k_st (k_st sM 18 (upd (sM 18) ((10 * (((sM 0 2) - 1) - (nI j))) + (f_X5_nextOf_t sM (((sM 0 2) - 1) - (nI j)))).toNatClampNeg (vp_nar .boolean 1))) 19 (upd (sM 19) (f_X5_nextOf_t sM (((sM 0 2) - 1) - (nI j))).toNatClampNeg (((sM 0 2) - 1) - (nI j)))) (upd (sM 20) (f_X5_nextOf_t sM (((sM 0 2) - 1) - (nI j))).toNatClampNeg (f_X5_offerOf sM (((sM 0 2) - 1) - (nI j)) (f_X5_nextOf_t sM (((sM 0 2) - 1) - (nI j)))))) hD
            refine lv_aload_n hx hb dX5_foretell_222 rfl (lv_at hl 3 rfl) ?_
            refine va_get (D := k.1) (ci := 5) (v := .ref (am 21)) (C := RX5) (T := TX5) (N := 28) hx hb hts in_X5_foretell_X5 hown hK hP 0 rfl rfl 27 (by decide) (k_w hts 3 rfl) (fun _ h9 => h9) rfl dX5_foretell_223 ?_
            refine lv_iload hx hb dX5_foretell_226 (lv_at hl 2 rfl) ?_
            refine lv_iload hx hb dX5_foretell_228 (lv_at hl 1 rfl) ?_
            refine va_iast (f := sM 21) hx hb hK hP hD hS 21 0 rfl rfl (by first | exact vp_in_nI (by omega) (by omega) | exact hI.rev (by omega)) dX5_foretell_230 (fun H locs hP hD hS => ?_)
            have hP := k_cP (w_M_21 k am (k_st (k_st (k_st sM 18 (upd (sM 18) ((10 * (((sM 0 2) - 1) - (nI j))) + (f_X5_nextOf_t sM (((sM 0 2) - 1) - (nI j)))).toNatClampNeg (vp_nar .boolean 1))) 19 (upd (sM 19) (f_X5_nextOf_t sM (((sM 0 2) - 1) - (nI j))).toNatClampNeg (((sM 0 2) - 1) - (nI j)))) 20 (upd (sM 20) (f_X5_nextOf_t sM (((sM 0 2) - 1) - (nI j))).toNatClampNeg (f_X5_offerOf sM (((sM 0 2) - 1) - (nI j)) (f_X5_nextOf_t sM (((sM 0 2) - 1) - (nI j)))))) (upd (sM 21) (((sM 0 2) - 1) - (nI j)).toNatClampNeg (f_X5_nextOf_t sM (((sM 0 2) - 1) - (nI j))))) hP
            have hD := k_cD (w_M_21 k am (k_st (k_st (k_st sM 18 (upd (sM 18) ((10 * (((sM 0 2) - 1) - (nI j))) + (f_X5_nextOf_t sM (((sM 0 2) - 1) - (nI j)))).toNatClampNeg (vp_nar .boolean 1))) 19 (upd (sM 19) (f_X5_nextOf_t sM (((sM 0 2) - 1) - (nI j))).toNatClampNeg (((sM 0 2) - 1) - (nI j)))) 20 (upd (sM 20) (f_X5_nextOf_t sM (((sM 0 2) - 1) - (nI j))).toNatClampNeg (f_X5_offerOf sM (((sM 0 2) - 1) - (nI j)) (f_X5_nextOf_t sM (((sM 0 2) - 1) - (nI j)))))) (upd (sM 21) (((sM 0 2) - 1) - (nI j)).toNatClampNeg (f_X5_nextOf_t sM (((sM 0 2) - 1) - (nI j))))) hD
            refine lv_iinc (v := nI (j + 1)) (lv' := [(3, .int (nI (j + 1))), (6, .int (f_X5_offerOf sM (((sM 0 2) - 1) - (nI j)) (f_X5_nextOf_t sM (((sM 0 2) - 1) - (nI j))))), (5, .int (f_X5_nextOf_t sM (((sM 0 2) - 1) - (nI j)))), (4, .int (((sM 0 2) - 1) - (nI j))), (0, .ref (am 0)), (1, .int i1), (2, .int (nI jo))]) hx hb dX5_foretell_231 hl (k := 6) rfl (nI_1 j) (by decide) rfl (fun ls hl => ?_)
            refine lv_goto (tgt := 62) hx hb dX5_foretell_234 (by decide) ?_
            have eg : g_X5_foretell_in i1 jo NM (r + 1) j sM = g_X5_foretell_in i1 jo NM r (j + 1) (k_st (k_st (k_st (k_st sM 18 (upd (sM 18) ((10 * (((sM 0 2) - 1) - (nI j))) + (f_X5_nextOf_t sM (((sM 0 2) - 1) - (nI j)))).toNatClampNeg (vp_nar .boolean 1))) 19 (upd (sM 19) (f_X5_nextOf_t sM (((sM 0 2) - 1) - (nI j))).toNatClampNeg (((sM 0 2) - 1) - (nI j)))) 20 (upd (sM 20) (f_X5_nextOf_t sM (((sM 0 2) - 1) - (nI j))).toNatClampNeg (f_X5_offerOf sM (((sM 0 2) - 1) - (nI j)) (f_X5_nextOf_t sM (((sM 0 2) - 1) - (nI j)))))) 21 (upd (sM 21) (((sM 0 2) - 1) - (nI j)).toNatClampNeg (f_X5_nextOf_t sM (((sM 0 2) - 1) - (nI j))))) := by
              rw [g_X5_foretell_in, if_neg c_2, if_pos c_11, if_neg c_13, if_pos c_14]
            rw [eg] at hQ
            exact ih (j + 1) (k_st (k_st (k_st (k_st sM 18 (upd (sM 18) ((10 * (((sM 0 2) - 1) - (nI j))) + (f_X5_nextOf_t sM (((sM 0 2) - 1) - (nI j)))).toNatClampNeg (vp_nar .boolean 1))) 19 (upd (sM 19) (f_X5_nextOf_t sM (((sM 0 2) - 1) - (nI j))).toNatClampNeg (((sM 0 2) - 1) - (nI j)))) 20 (upd (sM 20) (f_X5_nextOf_t sM (((sM 0 2) - 1) - (nI j))).toNatClampNeg (f_X5_offerOf sM (((sM 0 2) - 1) - (nI j)) (f_X5_nextOf_t sM (((sM 0 2) - 1) - (nI j)))))) 21 (upd (sM 21) (((sM 0 2) - 1) - (nI j)).toNatClampNeg (f_X5_nextOf_t sM (((sM 0 2) - 1) - (nI j))))) _ _ _ (by omega) (by (try subst_vars); refine ⟨hI.1, hI.2.1, hI.2.2.1, ?_, ?_⟩ <;> first | exact hI.2.2.2.1 | exact hI.2.2.2.2 | exact k_updo hI.2.2.2.1 (Or.inr (by first | exact vp_in_nI (by omega) (by omega) | exact hI.rev (by omega))) | exact k_updo hI.2.2.2.2 (Or.inr (by first | exact k_tch hI.2.2.1 (by assumption) | exact vp_in_nI (by omega) (by omega) | exact hI.rev (by omega))) | exact k_updo (k_updo hI.2.2.2.2 (Or.inl rfl)) (Or.inr (by first | exact k_tch hI.2.2.1 (by assumption) | exact vp_in_nI (by omega) (by omega) | exact hI.rev (by omega)))) hP hD hS (lv_sub hl [4, 5, 6, 0] rfl) hQ
          ·
            refine lv_iload_n hx hb dX5_foretell_160 rfl (lv_at hl 5 rfl) ?_
            refine lv_bipush (v := 120) hx hb dX5_foretell_161 (by decide) ?_
            refine lv_icmp_ge (tgt := 231) hx hb dX5_foretell_163 (by decide) (fun c_16 => ?_) (fun c_16 => ?_)
            ·
              refine lv_iinc (v := nI (j + 1)) (lv' := [(3, .int (nI (j + 1))), (6, .int (f_X5_offerOf sM (((sM 0 2) - 1) - (nI j)) (f_X5_nextOf_t sM (((sM 0 2) - 1) - (nI j))))), (5, .int (f_X5_nextOf_t sM (((sM 0 2) - 1) - (nI j)))), (4, .int (((sM 0 2) - 1) - (nI j))), (0, .ref (am 0)), (1, .int i1), (2, .int (nI jo))]) hx hb dX5_foretell_231 hl (k := 6) rfl (nI_1 j) (by decide) rfl (fun ls hl => ?_)
              refine lv_goto (tgt := 62) hx hb dX5_foretell_234 (by decide) ?_
              have eg : g_X5_foretell_in i1 jo NM (r + 1) j sM = g_X5_foretell_in i1 jo NM r (j + 1) (k_st sM 18 (upd (sM 18) ((10 * (((sM 0 2) - 1) - (nI j))) + (f_X5_nextOf_t sM (((sM 0 2) - 1) - (nI j)))).toNatClampNeg (vp_nar .boolean 1))) := by
                rw [g_X5_foretell_in, if_neg c_2, if_pos c_11, if_neg c_13, if_neg c_14, if_pos c_16]
              rw [eg] at hQ
              exact ih (j + 1) (k_st sM 18 (upd (sM 18) ((10 * (((sM 0 2) - 1) - (nI j))) + (f_X5_nextOf_t sM (((sM 0 2) - 1) - (nI j)))).toNatClampNeg (vp_nar .boolean 1))) _ _ _ (by omega) (by (try subst_vars); refine ⟨hI.1, hI.2.1, hI.2.2.1, ?_, ?_⟩ <;> first | exact hI.2.2.2.1 | exact hI.2.2.2.2 | exact k_updo hI.2.2.2.1 (Or.inr (by first | exact vp_in_nI (by omega) (by omega) | exact hI.rev (by omega))) | exact k_updo hI.2.2.2.2 (Or.inr (by first | exact k_tch hI.2.2.1 (by assumption) | exact vp_in_nI (by omega) (by omega) | exact hI.rev (by omega))) | exact k_updo (k_updo hI.2.2.2.2 (Or.inl rfl)) (Or.inr (by first | exact k_tch hI.2.2.1 (by assumption) | exact vp_in_nI (by omega) (by omega) | exact hI.rev (by omega)))) hP hD hS (lv_sub hl [4, 5, 6, 0] rfl) hQ
            ·
              refine lv_iload hx hb dX5_foretell_166 (lv_at hl 0 rfl) ?_
              refine lv_aload_n hx hb dX5_foretell_168 rfl (lv_at hl 3 rfl) ?_
              refine va_get (D := k.1) (ci := 5) (v := .ref (am 20)) (C := RX5) (T := TX5) (N := 28) hx hb hts in_X5_foretell_X5 hown hK hP 0 rfl rfl 26 (by decide) (k_w hts 5 rfl) (fun _ h9 => h9) rfl dX5_foretell_169 ?_
              refine lv_iload hx hb dX5_foretell_172 (lv_at hl 1 rfl) ?_
              refine va_iald (f := sM 20) hx hb hK hP 20 0 rfl rfl (by first | exact k_tch hI.2.2.1 (by assumption) | exact vp_in_nI (by omega) (by omega) | exact hI.rev (by omega)) dX5_foretell_174 ?_
              refine lv_icmp_le (tgt := 231) hx hb dX5_foretell_175 (by decide) (fun c_17 => ?_) (fun c_17 => ?_)
              ·
                refine lv_iinc (v := nI (j + 1)) (lv' := [(3, .int (nI (j + 1))), (6, .int (f_X5_offerOf sM (((sM 0 2) - 1) - (nI j)) (f_X5_nextOf_t sM (((sM 0 2) - 1) - (nI j))))), (5, .int (f_X5_nextOf_t sM (((sM 0 2) - 1) - (nI j)))), (4, .int (((sM 0 2) - 1) - (nI j))), (0, .ref (am 0)), (1, .int i1), (2, .int (nI jo))]) hx hb dX5_foretell_231 hl (k := 6) rfl (nI_1 j) (by decide) rfl (fun ls hl => ?_)
                refine lv_goto (tgt := 62) hx hb dX5_foretell_234 (by decide) ?_
                have eg : g_X5_foretell_in i1 jo NM (r + 1) j sM = g_X5_foretell_in i1 jo NM r (j + 1) (k_st sM 18 (upd (sM 18) ((10 * (((sM 0 2) - 1) - (nI j))) + (f_X5_nextOf_t sM (((sM 0 2) - 1) - (nI j)))).toNatClampNeg (vp_nar .boolean 1))) := by
                  rw [g_X5_foretell_in, if_neg c_2, if_pos c_11, if_neg c_13, if_neg c_14, if_neg c_16, if_pos c_17]
                rw [eg] at hQ
                exact ih (j + 1) (k_st sM 18 (upd (sM 18) ((10 * (((sM 0 2) - 1) - (nI j))) + (f_X5_nextOf_t sM (((sM 0 2) - 1) - (nI j)))).toNatClampNeg (vp_nar .boolean 1))) _ _ _ (by omega) (by (try subst_vars); refine ⟨hI.1, hI.2.1, hI.2.2.1, ?_, ?_⟩ <;> first | exact hI.2.2.2.1 | exact hI.2.2.2.2 | exact k_updo hI.2.2.2.1 (Or.inr (by first | exact vp_in_nI (by omega) (by omega) | exact hI.rev (by omega))) | exact k_updo hI.2.2.2.2 (Or.inr (by first | exact k_tch hI.2.2.1 (by assumption) | exact vp_in_nI (by omega) (by omega) | exact hI.rev (by omega))) | exact k_updo (k_updo hI.2.2.2.2 (Or.inl rfl)) (Or.inr (by first | exact k_tch hI.2.2.1 (by assumption) | exact vp_in_nI (by omega) (by omega) | exact hI.rev (by omega)))) hP hD hS (lv_sub hl [4, 5, 6, 0] rfl) hQ
              ·
                refine lv_aload_n hx hb dX5_foretell_178 rfl (lv_at hl 3 rfl) ?_
                refine va_get (D := k.1) (ci := 5) (v := .ref (am 19)) (C := RX5) (T := TX5) (N := 28) hx hb hts in_X5_foretell_X5 hown hK hP 0 rfl rfl 25 (by decide) (k_w hts 2 rfl) (fun _ h9 => h9) rfl dX5_foretell_179 ?_
                refine lv_iload hx hb dX5_foretell_182 (lv_at hl 1 rfl) ?_
                refine va_iald (f := sM 19) hx hb hK hP 19 0 rfl rfl (by first | exact k_tch hI.2.2.1 (by assumption) | exact vp_in_nI (by omega) (by omega) | exact hI.rev (by omega)) dX5_foretell_184 ?_
                refine lv_bipush (v := (-9)) hx hb dX5_foretell_185 (by decide) ?_
                refine lv_icmp_eq (tgt := 204) hx hb dX5_foretell_187 (by decide) (fun c_18 => ?_) (fun c_18 => ?_)
                · exact absurd c_18 c_14
                refine lv_aload_n hx hb dX5_foretell_190 rfl (lv_at hl 3 rfl) ?_
                refine va_get (D := k.1) (ci := 5) (v := .ref (am 21)) (C := RX5) (T := TX5) (N := 28) hx hb hts in_X5_foretell_X5 hown hK hP 0 rfl rfl 27 (by decide) (k_w hts 3 rfl) (fun _ h9 => h9) rfl dX5_foretell_191 ?_
                refine lv_aload_n hx hb dX5_foretell_194 rfl (lv_at hl 3 rfl) ?_
                refine va_get (D := k.1) (ci := 5) (v := .ref (am 19)) (C := RX5) (T := TX5) (N := 28) hx hb hts in_X5_foretell_X5 hown hK hP 0 rfl rfl 25 (by decide) (k_w hts 2 rfl) (fun _ h9 => h9) rfl dX5_foretell_195 ?_
                refine lv_iload hx hb dX5_foretell_198 (lv_at hl 1 rfl) ?_
                refine va_iald (f := sM 19) hx hb hK hP 19 0 rfl rfl (by first | exact k_tch hI.2.2.1 (by assumption) | exact vp_in_nI (by omega) (by omega) | exact hI.rev (by omega)) dX5_foretell_200 ?_
                refine lv_bipush (v := (-9)) hx hb dX5_foretell_201 (by decide) ?_
                refine va_iast (f := sM 21) hx hb hK hP hD hS 21 0 rfl rfl ((hI.2.2.2.1 _ (k_lt (by first | exact k_tch hI.2.2.1 (by assumption) | exact vp_in_nI (by omega) (by omega) | exact hI.rev (by omega)))).in (by assumption)) dX5_foretell_203 (fun H locs hP hD hS => ?_)
                have hP := k_cP (w_M_21 k am (k_st sM 18 (upd (sM 18) ((10 * (((sM 0 2) - 1) - (nI j))) + (f_X5_nextOf_t sM (((sM 0 2) - 1) - (nI j)))).toNatClampNeg (vp_nar .boolean 1))) (upd (sM 21) ((sM 19) (f_X5_nextOf_t sM (((sM 0 2) - 1) - (nI j))).toNatClampNeg).toNatClampNeg (-9))) hP
                have hD := k_cD (w_M_21 k am (k_st sM 18 (upd (sM 18) ((10 * (((sM 0 2) - 1) - (nI j))) + (f_X5_nextOf_t sM (((sM 0 2) - 1) - (nI j)))).toNatClampNeg (vp_nar .boolean 1))) (upd (sM 21) ((sM 19) (f_X5_nextOf_t sM (((sM 0 2) - 1) - (nI j))).toNatClampNeg).toNatClampNeg (-9))) hD
                refine lv_aload_n hx hb dX5_foretell_204 rfl (lv_at hl 3 rfl) ?_
                refine va_get (D := k.1) (ci := 5) (v := .ref (am 19)) (C := RX5) (T := TX5) (N := 28) hx hb hts in_X5_foretell_X5 hown hK hP 0 rfl rfl 25 (by decide) (k_w hts 2 rfl) (fun _ h9 => h9) rfl dX5_foretell_205 ?_
                refine lv_iload hx hb dX5_foretell_208 (lv_at hl 1 rfl) ?_
                refine lv_iload hx hb dX5_foretell_210 (lv_at hl 2 rfl) ?_
                refine va_iast (f := sM 19) hx hb hK hP hD hS 19 0 rfl rfl (by first | exact k_tch hI.2.2.1 (by assumption) | exact vp_in_nI (by omega) (by omega) | exact hI.rev (by omega)) dX5_foretell_212 (fun H locs hP hD hS => ?_)
                have hP := k_cP (w_M_19 k am (k_st (k_st sM 18 (upd (sM 18) ((10 * (((sM 0 2) - 1) - (nI j))) + (f_X5_nextOf_t sM (((sM 0 2) - 1) - (nI j)))).toNatClampNeg (vp_nar .boolean 1))) 21 (upd (sM 21) ((sM 19) (f_X5_nextOf_t sM (((sM 0 2) - 1) - (nI j))).toNatClampNeg).toNatClampNeg (-9))) (upd (sM 19) (f_X5_nextOf_t sM (((sM 0 2) - 1) - (nI j))).toNatClampNeg (((sM 0 2) - 1) - (nI j)))) hP
                have hD := k_cD (w_M_19 k am (k_st (k_st sM 18 (upd (sM 18) ((10 * (((sM 0 2) - 1) - (nI j))) + (f_X5_nextOf_t sM (((sM 0 2) - 1) - (nI j)))).toNatClampNeg (vp_nar .boolean 1))) 21 (upd (sM 21) ((sM 19) (f_X5_nextOf_t sM (((sM 0 2) - 1) - (nI j))).toNatClampNeg).toNatClampNeg (-9))) (upd (sM 19) (f_X5_nextOf_t sM (((sM 0 2) - 1) - (nI j))).toNatClampNeg (((sM 0 2) - 1) - (nI j)))) hD
                refine lv_aload_n hx hb dX5_foretell_213 rfl (lv_at hl 3 rfl) ?_
                refine va_get (D := k.1) (ci := 5) (v := .ref (am 20)) (C := RX5) (T := TX5) (N := 28) hx hb hts in_X5_foretell_X5 hown hK hP 0 rfl rfl 26 (by decide) (k_w hts 5 rfl) (fun _ h9 => h9) rfl dX5_foretell_214 ?_
                refine lv_iload hx hb dX5_foretell_217 (lv_at hl 1 rfl) ?_
                refine lv_iload hx hb dX5_foretell_219 (lv_at hl 0 rfl) ?_
                refine va_iast (f := sM 20) hx hb hK hP hD hS 20 0 rfl rfl (by first | exact k_tch hI.2.2.1 (by assumption) | exact vp_in_nI (by omega) (by omega) | exact hI.rev (by omega)) dX5_foretell_221 (fun H locs hP hD hS => ?_)
                have hP := k_cP (w_M_20 k am (k_st (k_st (k_st sM 18 (upd (sM 18) ((10 * (((sM 0 2) - 1) - (nI j))) + (f_X5_nextOf_t sM (((sM 0 2) - 1) - (nI j)))).toNatClampNeg (vp_nar .boolean 1))) 21 (upd (sM 21) ((sM 19) (f_X5_nextOf_t sM (((sM 0 2) - 1) - (nI j))).toNatClampNeg).toNatClampNeg (-9))) 19 (upd (sM 19) (f_X5_nextOf_t sM (((sM 0 2) - 1) - (nI j))).toNatClampNeg (((sM 0 2) - 1) - (nI j)))) (upd (sM 20) (f_X5_nextOf_t sM (((sM 0 2) - 1) - (nI j))).toNatClampNeg (f_X5_offerOf sM (((sM 0 2) - 1) - (nI j)) (f_X5_nextOf_t sM (((sM 0 2) - 1) - (nI j)))))) hP
                have hD := k_cD (w_M_20 k am (k_st (k_st (k_st sM 18 (upd (sM 18) ((10 * (((sM 0 2) - 1) - (nI j))) + (f_X5_nextOf_t sM (((sM 0 2) - 1) - (nI j)))).toNatClampNeg (vp_nar .boolean 1))) 21 (upd (sM 21) ((sM 19) (f_X5_nextOf_t sM (((sM 0 2) - 1) - (nI j))).toNatClampNeg).toNatClampNeg (-9))) 19 (upd (sM 19) (f_X5_nextOf_t sM (((sM 0 2) - 1) - (nI j))).toNatClampNeg (((sM 0 2) - 1) - (nI j)))) (upd (sM 20) (f_X5_nextOf_t sM (((sM 0 2) - 1) - (nI j))).toNatClampNeg (f_X5_offerOf sM (((sM 0 2) - 1) - (nI j)) (f_X5_nextOf_t sM (((sM 0 2) - 1) - (nI j)))))) hD
                refine lv_aload_n hx hb dX5_foretell_222 rfl (lv_at hl 3 rfl) ?_
                refine va_get (D := k.1) (ci := 5) (v := .ref (am 21)) (C := RX5) (T := TX5) (N := 28) hx hb hts in_X5_foretell_X5 hown hK hP 0 rfl rfl 27 (by decide) (k_w hts 3 rfl) (fun _ h9 => h9) rfl dX5_foretell_223 ?_
                refine lv_iload hx hb dX5_foretell_226 (lv_at hl 2 rfl) ?_
                refine lv_iload hx hb dX5_foretell_228 (lv_at hl 1 rfl) ?_
                refine va_iast (f := upd (sM 21) ((sM 19) (f_X5_nextOf_t sM (((sM 0 2) - 1) - (nI j))).toNatClampNeg).toNatClampNeg (-9)) hx hb hK hP hD hS 21 0 rfl rfl (by first | exact vp_in_nI (by omega) (by omega) | exact hI.rev (by omega)) dX5_foretell_230 (fun H locs hP hD hS => ?_)
                have hP := k_cP (w_M_21 k am (k_st (k_st (k_st (k_st sM 18 (upd (sM 18) ((10 * (((sM 0 2) - 1) - (nI j))) + (f_X5_nextOf_t sM (((sM 0 2) - 1) - (nI j)))).toNatClampNeg (vp_nar .boolean 1))) 21 (upd (sM 21) ((sM 19) (f_X5_nextOf_t sM (((sM 0 2) - 1) - (nI j))).toNatClampNeg).toNatClampNeg (-9))) 19 (upd (sM 19) (f_X5_nextOf_t sM (((sM 0 2) - 1) - (nI j))).toNatClampNeg (((sM 0 2) - 1) - (nI j)))) 20 (upd (sM 20) (f_X5_nextOf_t sM (((sM 0 2) - 1) - (nI j))).toNatClampNeg (f_X5_offerOf sM (((sM 0 2) - 1) - (nI j)) (f_X5_nextOf_t sM (((sM 0 2) - 1) - (nI j)))))) (upd (upd (sM 21) ((sM 19) (f_X5_nextOf_t sM (((sM 0 2) - 1) - (nI j))).toNatClampNeg).toNatClampNeg (-9)) (((sM 0 2) - 1) - (nI j)).toNatClampNeg (f_X5_nextOf_t sM (((sM 0 2) - 1) - (nI j))))) hP
                have hD := k_cD (w_M_21 k am (k_st (k_st (k_st (k_st sM 18 (upd (sM 18) ((10 * (((sM 0 2) - 1) - (nI j))) + (f_X5_nextOf_t sM (((sM 0 2) - 1) - (nI j)))).toNatClampNeg (vp_nar .boolean 1))) 21 (upd (sM 21) ((sM 19) (f_X5_nextOf_t sM (((sM 0 2) - 1) - (nI j))).toNatClampNeg).toNatClampNeg (-9))) 19 (upd (sM 19) (f_X5_nextOf_t sM (((sM 0 2) - 1) - (nI j))).toNatClampNeg (((sM 0 2) - 1) - (nI j)))) 20 (upd (sM 20) (f_X5_nextOf_t sM (((sM 0 2) - 1) - (nI j))).toNatClampNeg (f_X5_offerOf sM (((sM 0 2) - 1) - (nI j)) (f_X5_nextOf_t sM (((sM 0 2) - 1) - (nI j)))))) (upd (upd (sM 21) ((sM 19) (f_X5_nextOf_t sM (((sM 0 2) - 1) - (nI j))).toNatClampNeg).toNatClampNeg (-9)) (((sM 0 2) - 1) - (nI j)).toNatClampNeg (f_X5_nextOf_t sM (((sM 0 2) - 1) - (nI j))))) hD
                refine lv_iinc (v := nI (j + 1)) (lv' := [(3, .int (nI (j + 1))), (6, .int (f_X5_offerOf sM (((sM 0 2) - 1) - (nI j)) (f_X5_nextOf_t sM (((sM 0 2) - 1) - (nI j))))), (5, .int (f_X5_nextOf_t sM (((sM 0 2) - 1) - (nI j)))), (4, .int (((sM 0 2) - 1) - (nI j))), (0, .ref (am 0)), (1, .int i1), (2, .int (nI jo))]) hx hb dX5_foretell_231 hl (k := 6) rfl (nI_1 j) (by decide) rfl (fun ls hl => ?_)
                refine lv_goto (tgt := 62) hx hb dX5_foretell_234 (by decide) ?_
                have eg : g_X5_foretell_in i1 jo NM (r + 1) j sM = g_X5_foretell_in i1 jo NM r (j + 1) (k_st (k_st (k_st (k_st (k_st sM 18 (upd (sM 18) ((10 * (((sM 0 2) - 1) - (nI j))) + (f_X5_nextOf_t sM (((sM 0 2) - 1) - (nI j)))).toNatClampNeg (vp_nar .boolean 1))) 21 (upd (sM 21) ((sM 19) (f_X5_nextOf_t sM (((sM 0 2) - 1) - (nI j))).toNatClampNeg).toNatClampNeg (-9))) 19 (upd (sM 19) (f_X5_nextOf_t sM (((sM 0 2) - 1) - (nI j))).toNatClampNeg (((sM 0 2) - 1) - (nI j)))) 20 (upd (sM 20) (f_X5_nextOf_t sM (((sM 0 2) - 1) - (nI j))).toNatClampNeg (f_X5_offerOf sM (((sM 0 2) - 1) - (nI j)) (f_X5_nextOf_t sM (((sM 0 2) - 1) - (nI j)))))) 21 (upd (upd (sM 21) ((sM 19) (f_X5_nextOf_t sM (((sM 0 2) - 1) - (nI j))).toNatClampNeg).toNatClampNeg (-9)) (((sM 0 2) - 1) - (nI j)).toNatClampNeg (f_X5_nextOf_t sM (((sM 0 2) - 1) - (nI j))))) := by
                  rw [g_X5_foretell_in, if_neg c_2, if_pos c_11, if_neg c_13, if_neg c_14, if_neg c_16, if_neg c_17]
                rw [eg] at hQ
                exact ih (j + 1) (k_st (k_st (k_st (k_st (k_st sM 18 (upd (sM 18) ((10 * (((sM 0 2) - 1) - (nI j))) + (f_X5_nextOf_t sM (((sM 0 2) - 1) - (nI j)))).toNatClampNeg (vp_nar .boolean 1))) 21 (upd (sM 21) ((sM 19) (f_X5_nextOf_t sM (((sM 0 2) - 1) - (nI j))).toNatClampNeg).toNatClampNeg (-9))) 19 (upd (sM 19) (f_X5_nextOf_t sM (((sM 0 2) - 1) - (nI j))).toNatClampNeg (((sM 0 2) - 1) - (nI j)))) 20 (upd (sM 20) (f_X5_nextOf_t sM (((sM 0 2) - 1) - (nI j))).toNatClampNeg (f_X5_offerOf sM (((sM 0 2) - 1) - (nI j)) (f_X5_nextOf_t sM (((sM 0 2) - 1) - (nI j)))))) 21 (upd (upd (sM 21) ((sM 19) (f_X5_nextOf_t sM (((sM 0 2) - 1) - (nI j))).toNatClampNeg).toNatClampNeg (-9)) (((sM 0 2) - 1) - (nI j)).toNatClampNeg (f_X5_nextOf_t sM (((sM 0 2) - 1) - (nI j))))) _ _ _ (by omega) (by (try subst_vars); refine ⟨hI.1, hI.2.1, hI.2.2.1, ?_, ?_⟩ <;> first | exact hI.2.2.2.1 | exact hI.2.2.2.2 | exact k_updo hI.2.2.2.1 (Or.inr (by first | exact vp_in_nI (by omega) (by omega) | exact hI.rev (by omega))) | exact k_updo hI.2.2.2.2 (Or.inr (by first | exact k_tch hI.2.2.1 (by assumption) | exact vp_in_nI (by omega) (by omega) | exact hI.rev (by omega))) | exact k_updo (k_updo hI.2.2.2.2 (Or.inl rfl)) (Or.inr (by first | exact k_tch hI.2.2.1 (by assumption) | exact vp_in_nI (by omega) (by omega) | exact hI.rev (by omega)))) hP hD hS (lv_sub hl [4, 5, 6, 0] rfl) hQ
theorem k_TI_in_lp {NM : Nat} (i1 : Int32) (jo : Nat) (hN : NM ≤ 10) : ∀ (r j : Nat) (M : Nat → Nat → Int32), j + r = NM → k_TI NM M → k_TI NM (g_X5_foretell_in i1 jo NM r j M) := by
  intro r
  induction r with
  | zero => intro j M _ hI; rw [g_X5_foretell_in]; exact hI
  | succ r ih =>
    intro j M hj hI
    have v1 : vp_in (nI j) 10 := vp_in_nI (by omega) (by omega)
    have v2 : vp_in ((M 0 2 - 1) - nI j) 10 := hI.rev (by omega)
    have key : ∀ (x y z : Int32) (f : Nat → Int32) (w : Nat → Int32), vp_in x 10 → vp_in y 10 → k_TI NM (k_st (k_st (k_st (k_st M 18 f) 19 (upd (M 19) y.toNatClampNeg x)) 20 w) 21 (upd (M 21) x.toNatClampNeg y)) := fun x y z f w hx hy =>
      ⟨hI.1, hI.2.1, hI.2.2.1, k_updo hI.2.2.2.1 (Or.inr hx), k_updo hI.2.2.2.2 (Or.inr hy)⟩
    have key2 : ∀ (x y z : Int32) (f : Nat → Int32) (w : Nat → Int32), vp_in x 10 → vp_in y 10 → k_TI NM (k_st (k_st (k_st (k_st (k_st M 18 f) 21 (upd (M 21) z.toNatClampNeg (-9))) 19 (upd (M 19) y.toNatClampNeg x)) 20 w) 21 (upd (upd (M 21) z.toNatClampNeg (-9)) x.toNatClampNeg y)) := fun x y z f w hx hy =>
      ⟨hI.1, hI.2.1, hI.2.2.1, k_updo hI.2.2.2.1 (Or.inr hx), k_updo (k_updo hI.2.2.2.2 (Or.inl rfl)) (Or.inr hy)⟩
    have key3 : ∀ (f : Nat → Int32), k_TI NM (k_st M 18 f) := fun f => hI
    rw [g_X5_foretell_in]
    repeat' split
    all_goals first
      | exact ih _ _ (by omega) hI
      | exact ih _ _ (by omega) (key3 _)
      | exact ih _ _ (by omega) (key _ _ 0 _ _ v1 (k_tch hI.2.2.1 (by assumption)))
      | exact ih _ _ (by omega) (key _ _ 0 _ _ v2 (k_tch hI.2.2.1 (by assumption)))
      | exact ih _ _ (by omega) (key2 _ _ _ _ _ v1 (k_tch hI.2.2.1 (by assumption)))
      | exact ih _ _ (by omega) (key2 _ _ _ _ _ v2 (k_tch hI.2.2.1 (by assumption)))
theorem k_TI_in {NM : Nat} {M : Nat → Nat → Int32} {i1 : Int32} {jo : Nat} (hN : NM ≤ 10) (hI : k_TI NM M) : k_TI NM (g_X5_foretell_in i1 jo NM NM 0 M) := k_TI_in_lp i1 jo hN NM 0 M (by omega) hI
theorem k_fa (i1 : Int32) : ∀ (r j : Nat) (M : Nat → Nat → Int32), ∀ c, ¬ c = 18 → (g_X5_foretell_a i1 r j M) c = M c := by
  intro r
  induction r with
  | zero => intro j M c _; rw [g_X5_foretell_a]
  | succ r ih => intro j M c hc; rw [g_X5_foretell_a, ih _ _ c hc, k_st_ne _ _ hc]
theorem k_fb (i1 : Int32) : ∀ (r j : Nat) (M : Nat → Nat → Int32), j + r = 10 → (∀ c, ¬ c = 19 → ¬ c = 21 → (g_X5_foretell_b i1 r j M) c = M c) ∧ ((∀ i, i < j → M 19 i = -9 ∧ M 21 i = -9) → ∀ i, i < 10 → (g_X5_foretell_b i1 r j M) 19 i = -9 ∧ (g_X5_foretell_b i1 r j M) 21 i = -9) := by
  intro r
  induction r with
  | zero => intro j M hj; rw [g_X5_foretell_b]; exact ⟨fun _ _ _ => rfl, fun h i hi => h i (by omega)⟩
  | succ r ih =>
    intro j M hj
    rw [g_X5_foretell_b]
    obtain ⟨a, b⟩ := ih (j + 1) (k_st (k_st M 19 (upd (M 19) (nI j).toNatClampNeg (-9))) 21 (upd (M 21) (nI j).toNatClampNeg (-9))) (by omega)
    refine ⟨fun c h1 h2 => by rw [a c h1 h2, k_st_ne _ _ h2, k_st_ne _ _ h1], fun h i hi => b (fun i2 hi2 => ?_) i hi⟩
    show upd (M 19) (nI j).toNatClampNeg (-9) i2 = -9 ∧ upd (M 21) (nI j).toNatClampNeg (-9) i2 = -9
    rw [nI_clamp (by omega)]
    by_cases e : i2 = j
    · subst e; exact ⟨pk_us, pk_us⟩
    · rw [pk_un e, pk_un e]; exact h i2 (by omega)
theorem k_TI_0 {M : Nat → Nat → Int32} {i1 : Int32} (h : (M 0 2) = nI (M 0 2).toNatClampNeg ∧ (M 0 2).toNatClampNeg ≤ 10 ∧ k_n (M 0 1) 10) : k_TI (M 0 2).toNatClampNeg (g_X5_foretell_b i1 10 0 (g_X5_foretell_a i1 100 0 M)) := by
  obtain ⟨a, b⟩ := k_fb i1 10 0 (g_X5_foretell_a i1 100 0 M) (by omega)
  have b' := b (fun i hi => absurd hi (by omega))
  have e0 := a 0 (by omega) (by omega)
  have e1 := k_fa i1 100 0 M 0 (by omega)
  refine ⟨?_, h.2.1, ?_, fun j hj => Or.inl (b' j hj).1, fun j hj => Or.inl (b' j hj).2⟩
  · rw [e0, e1]; exact h.1
  · rw [e0, e1]; exact h.2.2
def g_X5_foretell_out (i1 : Int32) (NM : Nat) : Nat → Nat → (Nat → Nat → Int32) → (Nat → Nat → Int32)
  | 0, j, sM => sM
  | r + 1, j, sM => g_X5_foretell_out i1 NM r (j + 1) ((g_X5_foretell_in i1 j NM NM 0 sM))
set_option maxHeartbeats 4000000 in
set_option maxRecDepth 100000 in
theorem lp_X5_foretell_out {p : Program} {l : Launch} {e : Env} {s : State} {m : MethodId} {below : List Frame} {meth : Method} {c : Code} {A : Nat → Prop} {Q : State → Prop} {av : Array Value} (k : K_X) (am : Nat → Nat) (i1 : Int32) (NM : Nat) (C0 : k_Cx p s m meth c k cX5_foretell none wsX5_foretell RX5 7 av A) (hN10 : NM ≤ 10) : ∀ (r j : Nat) (sM : Nat → Nat → Int32) (H : Heap) (locs : List Loc) (ls : Array Slot), j + r = 240 → k_TI NM sM → va_P k.1 vwCl (w_M k am sM) H → va_D A (w_M k am sM) → va_S A s.heap H locs → lv_has ls 7 [(0, .ref (am 0)), (1, .int i1), (2, .int (nI j))] → (∀ (H : Heap) (locs : List Loc) (ls : Array Slot), va_P k.1 vwCl (w_M k am (g_X5_foretell_out i1 NM r j sM)) H → va_D A (w_M k am (g_X5_foretell_out i1 NM r j sM)) → va_S A s.heap H locs → lv_has ls 7 [(0, .ref (am 0)), (1, .int i1)] → W p l e (k_rm 3 72) s m av below meth c H locs 0 0 Q (F0 m 243 ls [])) → W p l e (k_rm 3 72) s m av below meth c H locs 0 0 Q (F0 m 53 ls []) := by
  obtain ⟨hx, hb, hr, hts, hown, hlocks, hml, hA, hK⟩ := id C0
  intro r
  induction r with
  | zero =>
    intro j sM H locs ls hj hI hP hD hS hl hQ
    refine lv_iload_n hx hb dX5_foretell_53 rfl (lv_at hl 2 rfl) ?_
    refine lv_sipush (v := 240) hx hb dX5_foretell_54 (by decide) ?_
    refine lv_icmp_ge (tgt := 243) hx hb dX5_foretell_57 (by decide) (fun c_1 => ?_) (fun c_1 => ?_)
    rotate_left
    · exact absurd (k_gec (c := 240) (by decide) (by omega) (by omega)) c_1
    have eg : g_X5_foretell_out i1 NM 0 j sM = sM := by
      rw [g_X5_foretell_out]
    rw [eg] at hQ
    exact hQ _ _ _ hP hD hS (lv_sub hl [0, 1] rfl)
  | succ r ih =>
    intro j sM H locs ls hj hI hP hD hS hl hQ
    refine lv_iload_n hx hb dX5_foretell_53 rfl (lv_at hl 2 rfl) ?_
    refine lv_sipush (v := 240) hx hb dX5_foretell_54 (by decide) ?_
    refine lv_icmp_ge (tgt := 243) hx hb dX5_foretell_57 (by decide) (fun c_1 => ?_) (fun c_1 => ?_)
    · exact absurd c_1 (k_ngec (c := 240) (by decide) (by omega) (by omega))
    refine lv_iconst (v := 0) hx hb dX5_foretell_60 (by decide) ?_
    refine lv_istore_n (lv' := [(3, .int 0), (0, .ref (am 0)), (1, .int i1), (2, .int (nI j))]) hx hb dX5_foretell_61 rfl hl (by decide) rfl (fun ls hl => ?_)
    have hl : lv_has ls 7 [(0, .ref (am 0)), (1, .int i1), (2, .int (nI j)), (3, .int (nI 0))] := lv_sub hl [1, 2, 3, 0] rfl
    refine lp_X5_foretell_in k am i1 j NM C0 (by first | assumption | omega) NM 0 sM _ _ _ (by omega) (hI) hP hD hS hl (fun H locs ls hP hD hS hl => ?_)
    obtain ⟨z_2, ez_2⟩ : ∃ z, z = g_X5_foretell_in i1 j NM NM 0 sM := ⟨_, rfl⟩
    rw [← ez_2] at hP hD
    refine lv_iinc (v := nI (j + 1)) (lv' := [(2, .int (nI (j + 1))), (0, .ref (am 0)), (1, .int i1)]) hx hb dX5_foretell_237 hl (k := 2) rfl (nI_1 j) (by decide) rfl (fun ls hl => ?_)
    refine lv_goto (tgt := 53) hx hb dX5_foretell_240 (by decide) ?_
    have eg : g_X5_foretell_out i1 NM (r + 1) j sM = g_X5_foretell_out i1 NM r (j + 1) (z_2) := by
      rw [g_X5_foretell_out, ← ez_2]
    rw [eg] at hQ
    exact ih (j + 1) (z_2) _ _ _ (by omega) (by subst_vars; exact k_TI_in (by omega) hI) hP hD hS (lv_sub hl [1, 2, 0] rfl) hQ
def f_X5_foretell (sM : Nat → Nat → Int32) (i1 : Int32) : (Nat → Nat → Int32) :=
  (g_X5_foretell_out i1 (sM 0 2).toNatClampNeg 240 0 ((g_X5_foretell_b i1 10 0 ((g_X5_foretell_a i1 100 0 sM)))))
set_option maxHeartbeats 4000000 in
set_option maxRecDepth 100000 in
theorem c_X5_foretell (l : Launch) (k : K_X) (am : Nat → Nat) (sM : Nat → Nat → Int32) (i1 : Int32) (hI0 : (sM 0 2) = nI (sM 0 2).toNatClampNeg ∧ (sM 0 2).toNatClampNeg ≤ 10 ∧ k_n (sM 0 1) 10) : k_C l yX5_foretell wsX5_foretell (k_rm 3 72) k [.ref (am 0), .int i1] (w_M k am sM) (k_qV k (w_M k am (f_X5_foretell sM i1))) := by
  refine k_mk (cc := cX5_foretell) (maxL := 7) (ret := none) (by decide) rfl (Nat.le_of_ble_eq_true rfl) ?_
  intro p e s m below meth c A ls C0 hP hD hS hl
  obtain ⟨hx, hb, hr, hts, hown, hlocks, hml, hA, hK⟩ := id C0
  have hown : s.vm.findClass RX5 = some m.cls := hown
  have hl : lv_has ls 7 [(0, .ref (am 0)), (1, .int i1)] := hl
  refine lv_iconst (v := 0) hx hb dX5_foretell_0 (by decide) ?_
  refine lv_istore_n (lv' := [(2, .int 0), (0, .ref (am 0)), (1, .int i1)]) hx hb dX5_foretell_1 rfl hl (by decide) rfl (fun ls hl => ?_)
  have hl : lv_has ls 7 [(0, .ref (am 0)), (1, .int i1), (2, .int (nI 0))] := lv_sub hl [1, 2, 0] rfl
  refine lp_X5_foretell_a k am i1 C0 100 0 sM _ _ _ (by omega) hP hD hS hl (fun H locs ls hP hD hS hl => ?_)
  obtain ⟨z_1, ez_1⟩ : ∃ z, z = g_X5_foretell_a i1 100 0 sM := ⟨_, rfl⟩
  rw [← ez_1] at hP hD
  refine lv_iconst (v := 0) hx hb dX5_foretell_21 (by decide) ?_
  refine lv_istore_n (lv' := [(2, .int 0), (0, .ref (am 0)), (1, .int i1)]) hx hb dX5_foretell_22 rfl hl (by decide) rfl (fun ls hl => ?_)
  have hl : lv_has ls 7 [(0, .ref (am 0)), (1, .int i1), (2, .int (nI 0))] := lv_sub hl [1, 2, 0] rfl
  refine lp_X5_foretell_b k am i1 C0 10 0 (z_1) _ _ _ (by omega) hP hD hS hl (fun H locs ls hP hD hS hl => ?_)
  obtain ⟨z_2, ez_2⟩ : ∃ z, z = g_X5_foretell_b i1 10 0 (z_1) := ⟨_, rfl⟩
  rw [← ez_2] at hP hD
  refine lv_iconst (v := 0) hx hb dX5_foretell_51 (by decide) ?_
  refine lv_istore_n (lv' := [(2, .int 0), (0, .ref (am 0)), (1, .int i1)]) hx hb dX5_foretell_52 rfl hl (by decide) rfl (fun ls hl => ?_)
  have hl : lv_has ls 7 [(0, .ref (am 0)), (1, .int i1), (2, .int (nI 0))] := lv_sub hl [1, 2, 0] rfl
  refine lp_X5_foretell_out k am i1 (sM 0 2).toNatClampNeg C0 (hI0.2.1) 240 0 (z_2) _ _ _ (by omega) (by subst_vars; exact k_TI_0 hI0) hP hD hS hl (fun H locs ls hP hD hS hl => ?_)
  obtain ⟨z_3, ez_3⟩ : ∃ z, z = g_X5_foretell_out i1 (sM 0 2).toNatClampNeg 240 0 (z_2) := ⟨_, rfl⟩
  rw [← ez_3] at hP hD
  have ef : f_X5_foretell sM i1 = z_3 := by
    rw [f_X5_foretell, ← ez_1, ← ez_2, ← ez_3]
  exact k_retv hx hb hr hK (by rw [ef]; exact hP) (by rw [ef]; exact hD) hS hlocks dX5_foretell_243
