theorem k_head {i L : Nat} (hL : L ≤ 2048) (hi : i ≤ L) (h : ¬ (Int32.ofNat L - 4) < nI i) : i + 4 ≤ L := by
  have h1 : ¬ (nI L - nI 4) < nI i := h
  rw [Int32.lt_iff_toInt_lt, pk_sub_toInt (by omega) (by omega), nI_toInt (by omega)] at h1
  omega
theorem k_inc4 (i : Nat) : nI i + Int32.ofInt 4 = nI (i + 4) := by
  rw [← nI_add]
  rfl
set_option maxHeartbeats 4000000 in
set_option maxRecDepth 100000 in
theorem law_loop {p : Program} {l : Launch} {e : Env} {s : State} {m : MethodId} {below : List Frame} {meth : Method} {c : Code} {k : K_X} {b L : Nat} {xs : Nat → Int32} (hL : L ≤ 2048) (C0 : lw_At p s m meth c b L xs) (hK : k_K k s) {ax : Nat} {ap af al ag ah ay am : Nat → Nat} : ∀ (n i : Nat), i ≤ L → L + 1 ≤ i + n → ∀ (sP sF sL sG sH sY : Nat → Nat → Int32) (sJ : Nat → Int64) (tx : Int32) (sM : Nat → Nat → Int32) (H : Heap) (locs : List Loc) (ls : Array Slot), REL sP sF sL sY sJ tx sM → va_P k.1 vwCl (lw_w k ax ap af al ag ah ay am sP sF sL sG sH sY sJ tx sM) H → va_D (fun q : Nat => s.heap.size ≤ q) (lw_w k ax ap af al ag ah ay am sP sF sL sG sH sY sJ tx sM) → va_S (fun q : Nat => s.heap.size ≤ q) s.heap H locs → lv_has ls 4 [(0, .ref b), (1, .ref ax), (2, .ref (am 0)), (3, .int (nI i))] → W p l e room_1 s m #[Value.ref b] below meth c H locs 600000 7302250 (lw_Z below #[Value.ref b] s) (F0 m 18 ls []) := by
  obtain ⟨hx, hb, hr, hml, hown, hts0, hX, hbl, hlocks, hgv⟩ := id C0
  have hts := fun w h => hts0 w (wsL_law_in w h)
  have hown : s.vm.findClass RL = some m.cls := hown
  have hA : ∀ q : Nat, s.heap.size ≤ q → (fun q : Nat => s.heap.size ≤ q) q := fun _ h => h
  have hbA : ¬ (fun q : Nat => s.heap.size ≤ q) b := Nat.not_le.mpr hbl
  intro n
  induction n with
  | zero => intro i h1 h2; exact absurd h2 (by omega)
  | succ n ih =>
    intro i h1 h2 sP sF sL sG sH sY sJ tx sM H locs ls hR hP hD hS hl
    refine lv_iload_n hx hb dL_law_18 rfl (lv_at hl 3 rfl) ?_
    refine lv_aload_n hx hb dL_law_19 rfl (lv_at hl 0 rfl) ?_
    refine va_slen hx hb hX hbl hbA hS dL_law_20 ?_
    refine lv_iconst (v := 4) hx hb dL_law_21 (by decide) ?_
    refine lv_isub hx hb dL_law_22 ?_
    refine lv_icmp_gt (tgt := 942) hx hb dL_law_23 (by decide) (fun c1 => ?_) (fun c1 => ?_)
    · refine lv_iconst (v := 1) hx hb dL_law_942 (by decide) ?_
      refine va_forget (fun q hq => hS.2.2 q hq) ?_
      exact lw_ret hx hb hr hlocks dL_law_943
    have hi : i + 4 ≤ L := k_head hL h1 c1
    have hk : ∀ (sP sF sL sG sH sY : Nat → Nat → Int32) (sJ : Nat → Int64) (tx : Int32) (sM : Nat → Nat → Int32) (H : Heap) (locs : List Loc), REL sP sF sL sY sJ tx sM → va_P k.1 vwCl (lw_w k ax ap af al ag ah ay am sP sF sL sG sH sY sJ tx sM) H → va_D (fun q : Nat => s.heap.size ≤ q) (lw_w k ax ap af al ag ah ay am sP sF sL sG sH sY sJ tx sM) → va_S (fun q : Nat => s.heap.size ≤ q) s.heap H locs → W p l e room_1 s m #[Value.ref b] below meth c H locs 600000 7302250 (lw_Z below #[Value.ref b] s) (F0 m 936 ls []) := by
      intro sP sF sL sG sH sY sJ tx sM H locs hR hP hD hS
      refine lv_iinc (v := nI (i + 4)) (lv' := [(3, .int (nI (i + 4))), (0, .ref b), (1, .ref ax), (2, .ref (am 0))]) hx hb dL_law_936 hl (k := 3) rfl (k_inc4 i) (by decide) rfl (fun ls hl => ?_)
      refine lv_goto (tgt := 18) hx hb dL_law_939 (by decide) ?_
      exact ih (i + 4) hi (by omega) sP sF sL sG sH sY sJ tx sM H locs ls hR hP hD hS (lv_sub hl [1, 2, 3, 0] rfl)
    refine lv_aload_n hx hb dL_law_26 rfl (lv_at hl 0 rfl) ?_
    refine lv_iload_n hx hb dL_law_27 rfl (lv_at hl 3 rfl) ?_
    refine va_sld hx hb hX hbl hbA hS (k_sc0 hi hL) dL_law_28 ?_
    refine lv_bipush (v := 31) hx hb dL_law_29 (by decide) ?_
    refine lv_iand hx hb dL_law_31 ?_
    refine lv_topi (fun x ex => ?_)
    by_cases c_0 : x = 0
    · refine lv_tableIn (off := 120) (tgt := 152) hx hb dL_law_32 (by rw [c_0]; decide) (by rw [c_0]; decide) (by rw [c_0]; rfl) (by decide) ?_
      exact lawc_servant hL C0 hK hi sP sF sL sG sH sY sJ tx sM hR H locs ls hP hD hS hl hk
    by_cases c_1 : x = 1
    · refine lv_tableIn (off := 163) (tgt := 195) hx hb dL_law_32 (by rw [c_1]; decide) (by rw [c_1]; decide) (by rw [c_1]; rfl) (by decide) ?_
      exact lawc_master hL C0 hK hi sP sF sL sG sH sY sJ tx sM hR H locs ls hP hD hS hl hk
    by_cases c_2 : x = 2
    · refine lv_tableIn (off := 196) (tgt := 228) hx hb dL_law_32 (by rw [c_2]; decide) (by rw [c_2]; decide) (by rw [c_2]; rfl) (by decide) ?_
      exact lawc_bar hL C0 hK hi sP sF sL sG sH sY sJ tx sM hR H locs ls hP hD hS hl hk
    by_cases c_3 : x = 3
    · refine lv_tableIn (off := 255) (tgt := 287) hx hb dL_law_32 (by rw [c_3]; decide) (by rw [c_3]; decide) (by rw [c_3]; rfl) (by decide) ?_
      exact lawc_hear hL C0 hK hi sP sF sL sG sH sY sJ tx sM hR H locs ls hP hD hS hl hk
    by_cases c_4 : x = 4
    · refine lv_tableIn (off := 298) (tgt := 330) hx hb dL_law_32 (by rw [c_4]; decide) (by rw [c_4]; decide) (by rw [c_4]; rfl) (by decide) ?_
      exact lawc_pass hL C0 hK hi sP sF sL sG sH sY sJ tx sM hR H locs ls hP hD hS hl hk
    by_cases c_5 : x = 5
    · refine lv_tableIn (off := 341) (tgt := 373) hx hb dL_law_32 (by rw [c_5]; decide) (by rw [c_5]; decide) (by rw [c_5]; rfl) (by decide) ?_
      exact lawc_about hL C0 hK hi sP sF sL sG sH sY sJ tx sM hR H locs ls hP hD hS hl hk
    by_cases c_6 : x = 6
    · refine lv_tableIn (off := 374) (tgt := 406) hx hb dL_law_32 (by rw [c_6]; decide) (by rw [c_6]; decide) (by rw [c_6]; rfl) (by decide) ?_
      exact lawc_house hL C0 hK hi sP sF sL sG sH sY sJ tx sM hR H locs ls hP hD hS hl hk
    by_cases c_7 : x = 7
    · refine lv_tableIn (off := 407) (tgt := 439) hx hb dL_law_32 (by rw [c_7]; decide) (by rw [c_7]; decide) (by rw [c_7]; rfl) (by decide) ?_
      exact lawc_holds hL C0 hK hi sP sF sL sG sH sY sJ tx sM hR H locs ls hP hD hS hl hk
    by_cases c_8 : x = 8
    · refine lv_tableIn (off := 440) (tgt := 472) hx hb dL_law_32 (by rw [c_8]; decide) (by rw [c_8]; decide) (by rw [c_8]; rfl) (by decide) ?_
      exact lawc_offer hL C0 hK hi sP sF sL sG sH sY sJ tx sM hR H locs ls hP hD hS hl hk
    by_cases c_9 : x = 9
    · refine lv_tableIn (off := 473) (tgt := 505) hx hb dL_law_32 (by rw [c_9]; decide) (by rw [c_9]; decide) (by rw [c_9]; rfl) (by decide) ?_
      exact lawc_next hL C0 hK hi sP sF sL sG sH sY sJ tx sM hR H locs ls hP hD hS hl hk
    by_cases c_10 : x = 10
    · refine lv_tableIn (off := 496) (tgt := 528) hx hb dL_law_32 (by rw [c_10]; decide) (by rw [c_10]; decide) (by rw [c_10]; rfl) (by decide) ?_
      exact lawc_go hL C0 hK hi sP sF sL sG sH sY sJ tx sM hR H locs ls hP hD hS hl hk
    by_cases c_11 : x = 11
    · refine lv_tableIn (off := 519) (tgt := 551) hx hb dL_law_32 (by rw [c_11]; decide) (by rw [c_11]; decide) (by rw [c_11]; rfl) (by decide) ?_
      exact lawc_bargains hL C0 hK hi sP sF sL sG sH sY sJ tx sM hR H locs ls hP hD hS hl hk
    by_cases c_12 : x = 12
    · refine lv_tableIn (off := 532) (tgt := 564) hx hb dL_law_32 (by rw [c_12]; decide) (by rw [c_12]; decide) (by rw [c_12]; rfl) (by decide) ?_
      exact lawc_bargain hL C0 hK hi sP sF sL sG sH sY sJ tx sM hR H locs ls hP hD hS hl hk
    by_cases c_13 : x = 13
    · refine lv_tableIn (off := 565) (tgt := 597) hx hb dL_law_32 (by rw [c_13]; decide) (by rw [c_13]; decide) (by rw [c_13]; rfl) (by decide) ?_
      exact lawc_torn hL C0 hK hi sP sF sL sG sH sY sJ tx sM hR H locs ls hP hD hS hl hk
    by_cases c_14 : x = 14
    · refine lv_tableIn (off := 578) (tgt := 610) hx hb dL_law_32 (by rw [c_14]; decide) (by rw [c_14]; decide) (by rw [c_14]; rfl) (by decide) ?_
      exact lawc_pair hL C0 hK hi sP sF sL sG sH sY sJ tx sM hR H locs ls hP hD hS hl hk
    by_cases c_15 : x = 15
    · refine lv_tableIn (off := 601) (tgt := 633) hx hb dL_law_32 (by rw [c_15]; decide) (by rw [c_15]; decide) (by rw [c_15]; rfl) (by decide) ?_
      exact lawc_foretold hL C0 hK hi sP sF sL sG sH sY sJ tx sM hR H locs ls hP hD hS hl hk
    by_cases c_16 : x = 16
    · refine lv_tableIn (off := 634) (tgt := 666) hx hb dL_law_32 (by rw [c_16]; decide) (by rw [c_16]; decide) (by rw [c_16]; rfl) (by decide) ?_
      exact lawc_text hL C0 hK hi sP sF sL sG sH sY sJ tx sM hR H locs ls hP hD hS hl hk
    by_cases c_17 : x = 17
    · refine lv_tableIn (off := 657) (tgt := 689) hx hb dL_law_32 (by rw [c_17]; decide) (by rw [c_17]; decide) (by rw [c_17]; rfl) (by decide) ?_
      exact lawc_days hL C0 hK hi sP sF sL sG sH sY sJ tx sM hR H locs ls hP hD hS hl hk
    by_cases c_18 : x = 18
    · refine lv_tableIn (off := 680) (tgt := 712) hx hb dL_law_32 (by rw [c_18]; decide) (by rw [c_18]; decide) (by rw [c_18]; rfl) (by decide) ?_
      exact lawc_sick hL C0 hK hi sP sF sL sG sH sY sJ tx sM hR H locs ls hP hD hS hl hk
    by_cases c_19 : x = 19
    · refine lv_tableIn (off := 713) (tgt := 745) hx hb dL_law_32 (by rw [c_19]; decide) (by rw [c_19]; decide) (by rw [c_19]; rfl) (by decide) ?_
      exact lawc_warn hL C0 hK hi sP sF sL sG sH sY sJ tx sM hR H locs ls hP hD hS hl hk
    by_cases c_20 : x = 20
    · refine lv_tableIn (off := 736) (tgt := 768) hx hb dL_law_32 (by rw [c_20]; decide) (by rw [c_20]; decide) (by rw [c_20]; rfl) (by decide) ?_
      exact lawc_run hL C0 hK hi sP sF sL sG sH sY sJ tx sM hR H locs ls hP hD hS hl hk
    by_cases c_21 : x = 21
    · refine lv_tableIn (off := 759) (tgt := 791) hx hb dL_law_32 (by rw [c_21]; decide) (by rw [c_21]; decide) (by rw [c_21]; rfl) (by decide) ?_
      exact lawc_send hL C0 hK hi sP sF sL sG sH sY sJ tx sM hR H locs ls hP hD hS hl hk
    by_cases c_22 : x = 22
    · refine lv_tableIn (off := 782) (tgt := 814) hx hb dL_law_32 (by rw [c_22]; decide) (by rw [c_22]; decide) (by rw [c_22]; rfl) (by decide) ?_
      exact lawc_due hL C0 hK hi sP sF sL sG sH sY sJ tx sM hR H locs ls hP hD hS hl hk
    by_cases c_23 : x = 23
    · refine lv_tableIn (off := 815) (tgt := 847) hx hb dL_law_32 (by rw [c_23]; decide) (by rw [c_23]; decide) (by rw [c_23]; rfl) (by decide) ?_
      exact lawc_owes hL C0 hK hi sP sF sL sG sH sY sJ tx sM hR H locs ls hP hD hS hl hk
    by_cases c_24 : x = 24
    · refine lv_tableIn (off := 848) (tgt := 880) hx hb dL_law_32 (by rw [c_24]; decide) (by rw [c_24]; decide) (by rw [c_24]; rfl) (by decide) ?_
      exact lawc_hands hL C0 hK hi sP sF sL sG sH sY sJ tx sM hR H locs ls hP hD hS hl hk
    by_cases c_25 : x = 25
    · refine lv_tableIn (off := 881) (tgt := 913) hx hb dL_law_32 (by rw [c_25]; decide) (by rw [c_25]; decide) (by rw [c_25]; rfl) (by decide) ?_
      exact lawc_total hL C0 hK hi sP sF sL sG sH sY sJ tx sM hR H locs ls hP hD hS hl hk
    refine lv_tableOut (tgt := 936) hx hb dL_law_32 (by have q0 := lv_neT c_0 (a := 0) (by decide); have q1 := lv_neT c_1 (a := 1) (by decide); have q2 := lv_neT c_2 (a := 2) (by decide); have q3 := lv_neT c_3 (a := 3) (by decide); have q4 := lv_neT c_4 (a := 4) (by decide); have q5 := lv_neT c_5 (a := 5) (by decide); have q6 := lv_neT c_6 (a := 6) (by decide); have q7 := lv_neT c_7 (a := 7) (by decide); have q8 := lv_neT c_8 (a := 8) (by decide); have q9 := lv_neT c_9 (a := 9) (by decide); have q10 := lv_neT c_10 (a := 10) (by decide); have q11 := lv_neT c_11 (a := 11) (by decide); have q12 := lv_neT c_12 (a := 12) (by decide); have q13 := lv_neT c_13 (a := 13) (by decide); have q14 := lv_neT c_14 (a := 14) (by decide); have q15 := lv_neT c_15 (a := 15) (by decide); have q16 := lv_neT c_16 (a := 16) (by decide); have q17 := lv_neT c_17 (a := 17) (by decide); have q18 := lv_neT c_18 (a := 18) (by decide); have q19 := lv_neT c_19 (a := 19) (by decide); have q20 := lv_neT c_20 (a := 20) (by decide); have q21 := lv_neT c_21 (a := 21) (by decide); have q22 := lv_neT c_22 (a := 22) (by decide); have q23 := lv_neT c_23 (a := 23) (by decide); have q24 := lv_neT c_24 (a := 24) (by decide); have q25 := lv_neT c_25 (a := 25) (by decide); omega) (by decide) ?_
    exact hk sP sF sL sG sH sY sJ tx sM H locs hR hP hD hS
