set_option maxHeartbeats 4000000 in
set_option maxRecDepth 100000 in
theorem lawc_servant {p : Program} {l : Launch} {e : Env} {s : State} {m : MethodId} {below : List Frame} {meth : Method} {c : Code} {k : K_X} {b L : Nat} {xs : Nat → Int32} (hL : L ≤ 2048) (C0 : lw_At p s m meth c b L xs) (hK : k_K k s) {ax : Nat} {ap af al ag ah ay am : Nat → Nat} {i : Nat} (hi : i + 4 ≤ L) (sP sF sL sG sH sY : Nat → Nat → Int32) (sJ : Nat → Int64) (tx : Int32) (sM : Nat → Nat → Int32) (hR : REL sP sF sL sY sJ tx sM) (H : Heap) (locs : List Loc) (ls : Array Slot) (hP : va_P k.1 vwCl (lw_w k ax ap af al ag ah ay am sP sF sL sG sH sY sJ tx sM) H) (hD : va_D (fun q : Nat => s.heap.size ≤ q) (lw_w k ax ap af al ag ah ay am sP sF sL sG sH sY sJ tx sM)) (hS : va_S (fun q : Nat => s.heap.size ≤ q) s.heap H locs) (hl : lv_has ls 4 [(0, .ref b), (1, .ref ax), (2, .ref (am 0)), (3, .int (nI i))]) (hk : ∀ (sP sF sL sG sH sY : Nat → Nat → Int32) (sJ : Nat → Int64) (tx : Int32) (sM : Nat → Nat → Int32) (H : Heap) (locs : List Loc), REL sP sF sL sY sJ tx sM → va_P k.1 vwCl (lw_w k ax ap af al ag ah ay am sP sF sL sG sH sY sJ tx sM) H → va_D (fun q : Nat => s.heap.size ≤ q) (lw_w k ax ap af al ag ah ay am sP sF sL sG sH sY sJ tx sM) → va_S (fun q : Nat => s.heap.size ≤ q) s.heap H locs → W p l e room_1 s m #[Value.ref b] below meth c H locs 600000 7302250 (lw_Z below #[Value.ref b] s) (F0 m 936 ls [])) : W p l e room_1 s m #[Value.ref b] below meth c H locs 600000 7302250 (lw_Z below #[Value.ref b] s) (F0 m 152 ls []) := by
  obtain ⟨hx, hb, hr, hml, hown, hts0, hX, hbl, hlocks, hgv⟩ := C0
  have hts := fun w h => hts0 w (wsL_law_in w h)
  have hown : s.vm.findClass RL = some m.cls := hown
  have hA : ∀ q : Nat, s.heap.size ≤ q → (fun q : Nat => s.heap.size ≤ q) q := fun _ h => h
  have hbA : ¬ (fun q : Nat => s.heap.size ≤ q) b := Nat.not_le.mpr hbl
  refine lv_aload_n hx hb dL_law_152 rfl (lv_at hl 1 rfl) ?_
  refine lv_aload_n hx hb dL_law_153 rfl (lv_at hl 0 rfl) ?_
  refine lv_iload_n hx hb dL_law_154 rfl (lv_at hl 3 rfl) ?_
  refine lv_iconst (v := 1) hx hb dL_law_155 (by decide) ?_
  refine lv_iadd hx hb dL_law_156 ?_
  refine va_sld hx hb hX hbl hbA hS (k_sc 1 (by decide) hi hL (by decide)) dL_law_157 ?_
  refine lv_aload_n hx hb dL_law_158 rfl (lv_at hl 0 rfl) ?_
  refine lv_iload_n hx hb dL_law_159 rfl (lv_at hl 3 rfl) ?_
  refine lv_iconst (v := 2) hx hb dL_law_160 (by decide) ?_
  refine lv_iadd hx hb dL_law_161 ?_
  refine va_sld hx hb hX hbl hbA hS (k_sc 2 (by decide) hi hL (by decide)) dL_law_162 ?_
  refine lv_aload_n hx hb dL_law_163 rfl (lv_at hl 0 rfl) ?_
  refine lv_iload_n hx hb dL_law_164 rfl (lv_at hl 3 rfl) ?_
  refine lv_iconst (v := 3) hx hb dL_law_165 (by decide) ?_
  refine lv_iadd hx hb dL_law_166 ?_
  refine va_sld hx hb hX hbl hbA hS (k_sc 3 (by decide) hi hL (by decide)) dL_law_167 ?_
  refine k_Vi (wr := (w_F k af (ap 0) (al 0) sF) ++ (w_L k al 100 sL) ++ (w_F k ag (ap 0) (ah 0) sG) ++ (w_L k ah 0 sH) ++ (w_M k am sM)) (ws' := lw_w k ax ap af al ag ah ay am ((f_X4_servant tx sP sY sJ (xs (nI i + 1).toNatClampNeg) (xs (nI i + 2).toNatClampNeg) (xs (nI i + 3).toNatClampNeg)).2) sF sL sG sH sY sJ tx sM) (Rv := ((f_X4_servant tx sP sY sJ (xs (nI i + 1).toNatClampNeg) (xs (nI i + 2).toNatClampNeg) (xs (nI i + 3).toNatClampNeg)).1)) (rest := []) ⟨hx, hb, hml, hown, hts⟩ hK hA hP hD hS (c_X4_servant l k ax ap ay (af 0) (ag 0) tx sP sY sJ (xs (nI i + 1).toNatClampNeg) (xs (nI i + 2).toNatClampNeg) (xs (nI i + 3).toNatClampNeg) (rel_ns hR)) (cwV 3 hts gL_law_X4_servant rfl rfl rfl (by decide +kernel) ⟨Nat.le_of_ble_eq_true rfl, Nat.le_of_ble_eq_true rfl⟩) (va_recv hK hP (ci := 4) (q0 := 0) rfl rfl) rfl hl.1 rfl (Nat.le_of_ble_eq_true rfl) dL_law_168 (Nat.le_refl _) (Nat.le_refl _) [0, 1, 2, 3, 4, 5, 6, 7, 8, 9, 10, 11, 12, 13, 14, 15, 16, 17, 18, 35, 36, 37, 38, 39] [19, 20, 21, 22, 23, 24, 25, 26, 27, 28, 29, 30, 31, 32, 33, 34, 40, 41, 42, 43, 44, 45, 46, 47, 48, 49, 50, 51, 52, 53, 54, 55, 56, 57, 58, 59, 60, 61] [38, 39, 40, 41, 42, 43, 44, 45, 46, 47, 48, 49, 50, 51, 52, 53, 54, 55, 56, 0, 1, 2, 3, 4, 5, 6, 7, 8, 9, 10, 11, 12, 13, 14, 15, 57, 58, 59, 60, 61, 16, 17, 18, 19, 20, 21, 22, 23, 24, 25, 26, 27, 28, 29, 30, 31, 32, 33, 34, 35, 36, 37] rfl rfl rfl (by decide) rfl rfl rfl (fun H locs hP hD hS => ?_)
  refine lv_aload_n hx hb dL_law_171 rfl (lv_at hl 2 rfl) ?_
  refine lv_aload_n hx hb dL_law_172 rfl (lv_at hl 0 rfl) ?_
  refine lv_iload_n hx hb dL_law_173 rfl (lv_at hl 3 rfl) ?_
  refine lv_iconst (v := 1) hx hb dL_law_174 (by decide) ?_
  refine lv_iadd hx hb dL_law_175 ?_
  refine va_sld hx hb hX hbl hbA hS (k_sc 1 (by decide) hi hL (by decide)) dL_law_176 ?_
  refine lv_aload_n hx hb dL_law_177 rfl (lv_at hl 0 rfl) ?_
  refine lv_iload_n hx hb dL_law_178 rfl (lv_at hl 3 rfl) ?_
  refine lv_iconst (v := 2) hx hb dL_law_179 (by decide) ?_
  refine lv_iadd hx hb dL_law_180 ?_
  refine va_sld hx hb hX hbl hbA hS (k_sc 2 (by decide) hi hL (by decide)) dL_law_181 ?_
  refine lv_aload_n hx hb dL_law_182 rfl (lv_at hl 0 rfl) ?_
  refine lv_iload_n hx hb dL_law_183 rfl (lv_at hl 3 rfl) ?_
  refine lv_iconst (v := 3) hx hb dL_law_184 (by decide) ?_
  refine lv_iadd hx hb dL_law_185 ?_
  refine va_sld hx hb hX hbl hbA hS (k_sc 3 (by decide) hi hL (by decide)) dL_law_186 ?_
  refine k_Vi (wr := (w_X ax (ap 0) (af 0) (ag 0) (ay 0) tx) ++ (w_P k ap ((f_X4_servant tx sP sY sJ (xs (nI i + 1).toNatClampNeg) (xs (nI i + 2).toNatClampNeg) (xs (nI i + 3).toNatClampNeg)).2)) ++ (w_F k af (ap 0) (al 0) sF) ++ (w_L k al 100 sL) ++ (w_F k ag (ap 0) (ah 0) sG) ++ (w_L k ah 0 sH) ++ (w_Y k ay (af 0) sY sJ)) (ws' := lw_w k ax ap af al ag ah ay am ((f_X4_servant tx sP sY sJ (xs (nI i + 1).toNatClampNeg) (xs (nI i + 2).toNatClampNeg) (xs (nI i + 3).toNatClampNeg)).2) sF sL sG sH sY sJ tx ((f_X5_servant sM (xs (nI i + 1).toNatClampNeg) (xs (nI i + 2).toNatClampNeg) (xs (nI i + 3).toNatClampNeg)).2)) (Rv := ((f_X5_servant sM (xs (nI i + 1).toNatClampNeg) (xs (nI i + 2).toNatClampNeg) (xs (nI i + 3).toNatClampNeg)).1)) (rest := [.int ((f_X4_servant tx sP sY sJ (xs (nI i + 1).toNatClampNeg) (xs (nI i + 2).toNatClampNeg) (xs (nI i + 3).toNatClampNeg)).1)]) ⟨hx, hb, hml, hown, hts⟩ hK hA hP hD hS (c_X5_servant l k am sM (xs (nI i + 1).toNatClampNeg) (xs (nI i + 2).toNatClampNeg) (xs (nI i + 3).toNatClampNeg) (m_T hR) (m_ns hR)) (cwV 3 hts gL_law_X5_servant rfl rfl rfl (by decide +kernel) ⟨Nat.le_of_ble_eq_true rfl, Nat.le_of_ble_eq_true rfl⟩) (va_recv hK hP (ci := 5) (q0 := 40) rfl rfl) rfl hl.1 rfl (Nat.le_of_ble_eq_true rfl) dL_law_187 (Nat.le_refl _) (Nat.le_refl _) [40, 41, 42, 43, 44, 45, 46, 47, 48, 49, 50, 51, 52, 53, 54, 55, 56, 57, 58, 59, 60, 61] [0, 1, 2, 3, 4, 5, 6, 7, 8, 9, 10, 11, 12, 13, 14, 15, 16, 17, 18, 19, 20, 21, 22, 23, 24, 25, 26, 27, 28, 29, 30, 31, 32, 33, 34, 35, 36, 37, 38, 39] [0, 1, 2, 3, 4, 5, 6, 7, 8, 9, 10, 11, 12, 13, 14, 15, 16, 17, 18, 19, 20, 21, 22, 23, 24, 25, 26, 27, 28, 29, 30, 31, 32, 33, 34, 35, 36, 37, 38, 39, 40, 41, 42, 43, 44, 45, 46, 47, 48, 49, 50, 51, 52, 53, 54, 55, 56, 57, 58, 59, 60, 61] rfl rfl rfl (by decide) rfl rfl rfl (fun H locs hP hD hS => ?_)
  refine lv_icmp_eq (tgt := 936) hx hb dL_law_190 (by decide) (fun c2 => ?_) (fun c2 => ?_)
  · exact hk ((f_X4_servant tx sP sY sJ (xs (nI i + 1).toNatClampNeg) (xs (nI i + 2).toNatClampNeg) (xs (nI i + 3).toNatClampNeg)).2) sF sL sG sH sY sJ tx ((f_X5_servant sM (xs (nI i + 1).toNatClampNeg) (xs (nI i + 2).toNatClampNeg) (xs (nI i + 3).toNatClampNeg)).2) H locs ((sim_servant hR (xs (nI i + 1).toNatClampNeg) (xs (nI i + 2).toNatClampNeg) (xs (nI i + 3).toNatClampNeg)).2) hP hD hS
  · exact absurd (sim_servant hR (xs (nI i + 1).toNatClampNeg) (xs (nI i + 2).toNatClampNeg) (xs (nI i + 3).toNatClampNeg)).1 c2
set_option maxHeartbeats 4000000 in
set_option maxRecDepth 100000 in
theorem lawc_master {p : Program} {l : Launch} {e : Env} {s : State} {m : MethodId} {below : List Frame} {meth : Method} {c : Code} {k : K_X} {b L : Nat} {xs : Nat → Int32} (hL : L ≤ 2048) (C0 : lw_At p s m meth c b L xs) (hK : k_K k s) {ax : Nat} {ap af al ag ah ay am : Nat → Nat} {i : Nat} (hi : i + 4 ≤ L) (sP sF sL sG sH sY : Nat → Nat → Int32) (sJ : Nat → Int64) (tx : Int32) (sM : Nat → Nat → Int32) (hR : REL sP sF sL sY sJ tx sM) (H : Heap) (locs : List Loc) (ls : Array Slot) (hP : va_P k.1 vwCl (lw_w k ax ap af al ag ah ay am sP sF sL sG sH sY sJ tx sM) H) (hD : va_D (fun q : Nat => s.heap.size ≤ q) (lw_w k ax ap af al ag ah ay am sP sF sL sG sH sY sJ tx sM)) (hS : va_S (fun q : Nat => s.heap.size ≤ q) s.heap H locs) (hl : lv_has ls 4 [(0, .ref b), (1, .ref ax), (2, .ref (am 0)), (3, .int (nI i))]) (hk : ∀ (sP sF sL sG sH sY : Nat → Nat → Int32) (sJ : Nat → Int64) (tx : Int32) (sM : Nat → Nat → Int32) (H : Heap) (locs : List Loc), REL sP sF sL sY sJ tx sM → va_P k.1 vwCl (lw_w k ax ap af al ag ah ay am sP sF sL sG sH sY sJ tx sM) H → va_D (fun q : Nat => s.heap.size ≤ q) (lw_w k ax ap af al ag ah ay am sP sF sL sG sH sY sJ tx sM) → va_S (fun q : Nat => s.heap.size ≤ q) s.heap H locs → W p l e room_1 s m #[Value.ref b] below meth c H locs 600000 7302250 (lw_Z below #[Value.ref b] s) (F0 m 936 ls [])) : W p l e room_1 s m #[Value.ref b] below meth c H locs 600000 7302250 (lw_Z below #[Value.ref b] s) (F0 m 195 ls []) := by
  obtain ⟨hx, hb, hr, hml, hown, hts0, hX, hbl, hlocks, hgv⟩ := C0
  have hts := fun w h => hts0 w (wsL_law_in w h)
  have hown : s.vm.findClass RL = some m.cls := hown
  have hA : ∀ q : Nat, s.heap.size ≤ q → (fun q : Nat => s.heap.size ≤ q) q := fun _ h => h
  have hbA : ¬ (fun q : Nat => s.heap.size ≤ q) b := Nat.not_le.mpr hbl
  refine lv_aload_n hx hb dL_law_195 rfl (lv_at hl 1 rfl) ?_
  refine lv_aload_n hx hb dL_law_196 rfl (lv_at hl 0 rfl) ?_
  refine lv_iload_n hx hb dL_law_197 rfl (lv_at hl 3 rfl) ?_
  refine lv_iconst (v := 1) hx hb dL_law_198 (by decide) ?_
  refine lv_iadd hx hb dL_law_199 ?_
  refine va_sld hx hb hX hbl hbA hS (k_sc 1 (by decide) hi hL (by decide)) dL_law_200 ?_
  refine lv_aload_n hx hb dL_law_201 rfl (lv_at hl 0 rfl) ?_
  refine lv_iload_n hx hb dL_law_202 rfl (lv_at hl 3 rfl) ?_
  refine lv_iconst (v := 2) hx hb dL_law_203 (by decide) ?_
  refine lv_iadd hx hb dL_law_204 ?_
  refine va_sld hx hb hX hbl hbA hS (k_sc 2 (by decide) hi hL (by decide)) dL_law_205 ?_
  refine k_Vi (wr := (w_F k af (ap 0) (al 0) sF) ++ (w_L k al 100 sL) ++ (w_F k ag (ap 0) (ah 0) sG) ++ (w_L k ah 0 sH) ++ (w_M k am sM)) (ws' := lw_w k ax ap af al ag ah ay am ((f_X4_master tx sP sY sJ (xs (nI i + 1).toNatClampNeg) (xs (nI i + 2).toNatClampNeg)).2) sF sL sG sH sY sJ tx sM) (Rv := ((f_X4_master tx sP sY sJ (xs (nI i + 1).toNatClampNeg) (xs (nI i + 2).toNatClampNeg)).1)) (rest := []) ⟨hx, hb, hml, hown, hts⟩ hK hA hP hD hS (c_X4_master l k ax ap ay (af 0) (ag 0) tx sP sY sJ (xs (nI i + 1).toNatClampNeg) (xs (nI i + 2).toNatClampNeg) (rel_nm hR)) (cwV 2 hts gL_law_X4_master rfl rfl rfl (by decide +kernel) ⟨Nat.le_of_ble_eq_true rfl, Nat.le_of_ble_eq_true rfl⟩) (va_recv hK hP (ci := 4) (q0 := 0) rfl rfl) rfl hl.1 rfl (Nat.le_of_ble_eq_true rfl) dL_law_206 (Nat.le_refl _) (Nat.le_refl _) [0, 1, 2, 3, 4, 5, 6, 7, 8, 9, 10, 11, 12, 13, 14, 15, 16, 17, 18, 35, 36, 37, 38, 39] [19, 20, 21, 22, 23, 24, 25, 26, 27, 28, 29, 30, 31, 32, 33, 34, 40, 41, 42, 43, 44, 45, 46, 47, 48, 49, 50, 51, 52, 53, 54, 55, 56, 57, 58, 59, 60, 61] [38, 39, 40, 41, 42, 43, 44, 45, 46, 47, 48, 49, 50, 51, 52, 53, 54, 55, 56, 0, 1, 2, 3, 4, 5, 6, 7, 8, 9, 10, 11, 12, 13, 14, 15, 57, 58, 59, 60, 61, 16, 17, 18, 19, 20, 21, 22, 23, 24, 25, 26, 27, 28, 29, 30, 31, 32, 33, 34, 35, 36, 37] rfl rfl rfl (by decide) rfl rfl rfl (fun H locs hP hD hS => ?_)
  refine lv_aload_n hx hb dL_law_209 rfl (lv_at hl 2 rfl) ?_
  refine lv_aload_n hx hb dL_law_210 rfl (lv_at hl 0 rfl) ?_
  refine lv_iload_n hx hb dL_law_211 rfl (lv_at hl 3 rfl) ?_
  refine lv_iconst (v := 1) hx hb dL_law_212 (by decide) ?_
  refine lv_iadd hx hb dL_law_213 ?_
  refine va_sld hx hb hX hbl hbA hS (k_sc 1 (by decide) hi hL (by decide)) dL_law_214 ?_
  refine lv_aload_n hx hb dL_law_215 rfl (lv_at hl 0 rfl) ?_
  refine lv_iload_n hx hb dL_law_216 rfl (lv_at hl 3 rfl) ?_
  refine lv_iconst (v := 2) hx hb dL_law_217 (by decide) ?_
  refine lv_iadd hx hb dL_law_218 ?_
  refine va_sld hx hb hX hbl hbA hS (k_sc 2 (by decide) hi hL (by decide)) dL_law_219 ?_
  refine k_Vi (wr := (w_X ax (ap 0) (af 0) (ag 0) (ay 0) tx) ++ (w_P k ap ((f_X4_master tx sP sY sJ (xs (nI i + 1).toNatClampNeg) (xs (nI i + 2).toNatClampNeg)).2)) ++ (w_F k af (ap 0) (al 0) sF) ++ (w_L k al 100 sL) ++ (w_F k ag (ap 0) (ah 0) sG) ++ (w_L k ah 0 sH) ++ (w_Y k ay (af 0) sY sJ)) (ws' := lw_w k ax ap af al ag ah ay am ((f_X4_master tx sP sY sJ (xs (nI i + 1).toNatClampNeg) (xs (nI i + 2).toNatClampNeg)).2) sF sL sG sH sY sJ tx ((f_X5_master sM (xs (nI i + 1).toNatClampNeg) (xs (nI i + 2).toNatClampNeg)).2)) (Rv := ((f_X5_master sM (xs (nI i + 1).toNatClampNeg) (xs (nI i + 2).toNatClampNeg)).1)) (rest := [.int ((f_X4_master tx sP sY sJ (xs (nI i + 1).toNatClampNeg) (xs (nI i + 2).toNatClampNeg)).1)]) ⟨hx, hb, hml, hown, hts⟩ hK hA hP hD hS (c_X5_master l k am sM (xs (nI i + 1).toNatClampNeg) (xs (nI i + 2).toNatClampNeg) (m_T hR) (m_nm hR)) (cwV 2 hts gL_law_X5_master rfl rfl rfl (by decide +kernel) ⟨Nat.le_of_ble_eq_true rfl, Nat.le_of_ble_eq_true rfl⟩) (va_recv hK hP (ci := 5) (q0 := 40) rfl rfl) rfl hl.1 rfl (Nat.le_of_ble_eq_true rfl) dL_law_220 (Nat.le_refl _) (Nat.le_refl _) [40, 41, 42, 43, 44, 45, 46, 47, 48, 49, 50, 51, 52, 53, 54, 55, 56, 57, 58, 59, 60, 61] [0, 1, 2, 3, 4, 5, 6, 7, 8, 9, 10, 11, 12, 13, 14, 15, 16, 17, 18, 19, 20, 21, 22, 23, 24, 25, 26, 27, 28, 29, 30, 31, 32, 33, 34, 35, 36, 37, 38, 39] [0, 1, 2, 3, 4, 5, 6, 7, 8, 9, 10, 11, 12, 13, 14, 15, 16, 17, 18, 19, 20, 21, 22, 23, 24, 25, 26, 27, 28, 29, 30, 31, 32, 33, 34, 35, 36, 37, 38, 39, 40, 41, 42, 43, 44, 45, 46, 47, 48, 49, 50, 51, 52, 53, 54, 55, 56, 57, 58, 59, 60, 61] rfl rfl rfl (by decide) rfl rfl rfl (fun H locs hP hD hS => ?_)
  refine lv_icmp_eq (tgt := 936) hx hb dL_law_223 (by decide) (fun c2 => ?_) (fun c2 => ?_)
  · exact hk ((f_X4_master tx sP sY sJ (xs (nI i + 1).toNatClampNeg) (xs (nI i + 2).toNatClampNeg)).2) sF sL sG sH sY sJ tx ((f_X5_master sM (xs (nI i + 1).toNatClampNeg) (xs (nI i + 2).toNatClampNeg)).2) H locs ((sim_master hR (xs (nI i + 1).toNatClampNeg) (xs (nI i + 2).toNatClampNeg)).2) hP hD hS
  · exact absurd (sim_master hR (xs (nI i + 1).toNatClampNeg) (xs (nI i + 2).toNatClampNeg)).1 c2
set_option maxHeartbeats 4000000 in
set_option maxRecDepth 100000 in
theorem lawc_bar {p : Program} {l : Launch} {e : Env} {s : State} {m : MethodId} {below : List Frame} {meth : Method} {c : Code} {k : K_X} {b L : Nat} {xs : Nat → Int32} (hL : L ≤ 2048) (C0 : lw_At p s m meth c b L xs) (hK : k_K k s) {ax : Nat} {ap af al ag ah ay am : Nat → Nat} {i : Nat} (hi : i + 4 ≤ L) (sP sF sL sG sH sY : Nat → Nat → Int32) (sJ : Nat → Int64) (tx : Int32) (sM : Nat → Nat → Int32) (hR : REL sP sF sL sY sJ tx sM) (H : Heap) (locs : List Loc) (ls : Array Slot) (hP : va_P k.1 vwCl (lw_w k ax ap af al ag ah ay am sP sF sL sG sH sY sJ tx sM) H) (hD : va_D (fun q : Nat => s.heap.size ≤ q) (lw_w k ax ap af al ag ah ay am sP sF sL sG sH sY sJ tx sM)) (hS : va_S (fun q : Nat => s.heap.size ≤ q) s.heap H locs) (hl : lv_has ls 4 [(0, .ref b), (1, .ref ax), (2, .ref (am 0)), (3, .int (nI i))]) (hk : ∀ (sP sF sL sG sH sY : Nat → Nat → Int32) (sJ : Nat → Int64) (tx : Int32) (sM : Nat → Nat → Int32) (H : Heap) (locs : List Loc), REL sP sF sL sY sJ tx sM → va_P k.1 vwCl (lw_w k ax ap af al ag ah ay am sP sF sL sG sH sY sJ tx sM) H → va_D (fun q : Nat => s.heap.size ≤ q) (lw_w k ax ap af al ag ah ay am sP sF sL sG sH sY sJ tx sM) → va_S (fun q : Nat => s.heap.size ≤ q) s.heap H locs → W p l e room_1 s m #[Value.ref b] below meth c H locs 600000 7302250 (lw_Z below #[Value.ref b] s) (F0 m 936 ls [])) : W p l e room_1 s m #[Value.ref b] below meth c H locs 600000 7302250 (lw_Z below #[Value.ref b] s) (F0 m 228 ls []) := by
  obtain ⟨hx, hb, hr, hml, hown, hts0, hX, hbl, hlocks, hgv⟩ := C0
  have hts := fun w h => hts0 w (wsL_law_in w h)
  have hown : s.vm.findClass RL = some m.cls := hown
  have hA : ∀ q : Nat, s.heap.size ≤ q → (fun q : Nat => s.heap.size ≤ q) q := fun _ h => h
  have hbA : ¬ (fun q : Nat => s.heap.size ≤ q) b := Nat.not_le.mpr hbl
  refine lv_aload_n hx hb dL_law_228 rfl (lv_at hl 1 rfl) ?_
  refine lv_aload_n hx hb dL_law_229 rfl (lv_at hl 0 rfl) ?_
  refine lv_iload_n hx hb dL_law_230 rfl (lv_at hl 3 rfl) ?_
  refine lv_iconst (v := 1) hx hb dL_law_231 (by decide) ?_
  refine lv_iadd hx hb dL_law_232 ?_
  refine va_sld hx hb hX hbl hbA hS (k_sc 1 (by decide) hi hL (by decide)) dL_law_233 ?_
  refine lv_aload_n hx hb dL_law_234 rfl (lv_at hl 0 rfl) ?_
  refine lv_iload_n hx hb dL_law_235 rfl (lv_at hl 3 rfl) ?_
  refine lv_iconst (v := 2) hx hb dL_law_236 (by decide) ?_
  refine lv_iadd hx hb dL_law_237 ?_
  refine va_sld hx hb hX hbl hbA hS (k_sc 2 (by decide) hi hL (by decide)) dL_law_238 ?_
  refine lv_aload_n hx hb dL_law_239 rfl (lv_at hl 0 rfl) ?_
  refine lv_iload_n hx hb dL_law_240 rfl (lv_at hl 3 rfl) ?_
  refine lv_iconst (v := 3) hx hb dL_law_241 (by decide) ?_
  refine lv_iadd hx hb dL_law_242 ?_
  refine va_sld hx hb hX hbl hbA hS (k_sc 3 (by decide) hi hL (by decide)) dL_law_243 ?_
  refine lv_if_eq (tgt := 251) hx hb dL_law_244 (by decide) (fun c1 => ?_) (fun c1 => ?_)
  ·
    refine lv_iconst (v := 0) hx hb dL_law_251 (by decide) ?_
    refine k_Vi (wr := (w_F k af (ap 0) (al 0) sF) ++ (w_L k al 100 sL) ++ (w_F k ag (ap 0) (ah 0) sG) ++ (w_L k ah 0 sH) ++ (w_Y k ay (af 0) sY sJ) ++ (w_M k am sM)) (ws' := lw_w k ax ap af al ag ah ay am ((f_X4_bar tx sP (xs (nI i + 1).toNatClampNeg) (xs (nI i + 2).toNatClampNeg) 0).2) sF sL sG sH sY sJ tx sM) (Rv := ((f_X4_bar tx sP (xs (nI i + 1).toNatClampNeg) (xs (nI i + 2).toNatClampNeg) 0).1)) (rest := []) ⟨hx, hb, hml, hown, hts⟩ hK hA hP hD hS (c_X4_bar l k ax ap (af 0) (ag 0) (ay 0) tx sP (xs (nI i + 1).toNatClampNeg) (xs (nI i + 2).toNatClampNeg) 0 (rel_ns hR) (rel_nm hR)) (cwV 3 hts gL_law_X4_bar rfl rfl rfl (by decide +kernel) ⟨Nat.le_of_ble_eq_true rfl, Nat.le_of_ble_eq_true rfl⟩) (va_recv hK hP (ci := 4) (q0 := 0) rfl rfl) rfl hl.1 rfl (Nat.le_of_ble_eq_true rfl) dL_law_252 (Nat.le_refl _) (Nat.le_refl _) [0, 1, 2, 3, 4, 5, 6, 7, 8, 9, 10, 11, 12, 13, 14, 15, 16, 17, 18] [19, 20, 21, 22, 23, 24, 25, 26, 27, 28, 29, 30, 31, 32, 33, 34, 35, 36, 37, 38, 39, 40, 41, 42, 43, 44, 45, 46, 47, 48, 49, 50, 51, 52, 53, 54, 55, 56, 57, 58, 59, 60, 61] [43, 44, 45, 46, 47, 48, 49, 50, 51, 52, 53, 54, 55, 56, 57, 58, 59, 60, 61, 0, 1, 2, 3, 4, 5, 6, 7, 8, 9, 10, 11, 12, 13, 14, 15, 16, 17, 18, 19, 20, 21, 22, 23, 24, 25, 26, 27, 28, 29, 30, 31, 32, 33, 34, 35, 36, 37, 38, 39, 40, 41, 42] rfl rfl rfl (by decide) rfl rfl rfl (fun H locs hP hD hS => ?_)
    refine lv_aload_n hx hb dL_law_255 rfl (lv_at hl 2 rfl) ?_
    refine lv_aload_n hx hb dL_law_256 rfl (lv_at hl 0 rfl) ?_
    refine lv_iload_n hx hb dL_law_257 rfl (lv_at hl 3 rfl) ?_
    refine lv_iconst (v := 1) hx hb dL_law_258 (by decide) ?_
    refine lv_iadd hx hb dL_law_259 ?_
    refine va_sld hx hb hX hbl hbA hS (k_sc 1 (by decide) hi hL (by decide)) dL_law_260 ?_
    refine lv_aload_n hx hb dL_law_261 rfl (lv_at hl 0 rfl) ?_
    refine lv_iload_n hx hb dL_law_262 rfl (lv_at hl 3 rfl) ?_
    refine lv_iconst (v := 2) hx hb dL_law_263 (by decide) ?_
    refine lv_iadd hx hb dL_law_264 ?_
    refine va_sld hx hb hX hbl hbA hS (k_sc 2 (by decide) hi hL (by decide)) dL_law_265 ?_
    refine lv_aload_n hx hb dL_law_266 rfl (lv_at hl 0 rfl) ?_
    refine lv_iload_n hx hb dL_law_267 rfl (lv_at hl 3 rfl) ?_
    refine lv_iconst (v := 3) hx hb dL_law_268 (by decide) ?_
    refine lv_iadd hx hb dL_law_269 ?_
    refine va_sld hx hb hX hbl hbA hS (k_sc 3 (by decide) hi hL (by decide)) dL_law_270 ?_
    refine lv_if_eq (tgt := 278) hx hb dL_law_271 (by decide) (fun c9 => ?_) (fun c9 => ?_)
    rotate_left
    · exact absurd c1 c9
    refine lv_iconst (v := 0) hx hb dL_law_278 (by decide) ?_
    refine k_Vi (wr := (w_X ax (ap 0) (af 0) (ag 0) (ay 0) tx) ++ (w_P k ap ((f_X4_bar tx sP (xs (nI i + 1).toNatClampNeg) (xs (nI i + 2).toNatClampNeg) 0).2)) ++ (w_F k af (ap 0) (al 0) sF) ++ (w_L k al 100 sL) ++ (w_F k ag (ap 0) (ah 0) sG) ++ (w_L k ah 0 sH) ++ (w_Y k ay (af 0) sY sJ)) (ws' := lw_w k ax ap af al ag ah ay am ((f_X4_bar tx sP (xs (nI i + 1).toNatClampNeg) (xs (nI i + 2).toNatClampNeg) 0).2) sF sL sG sH sY sJ tx ((f_X5_bar sM (xs (nI i + 1).toNatClampNeg) (xs (nI i + 2).toNatClampNeg) 0).2)) (Rv := ((f_X5_bar sM (xs (nI i + 1).toNatClampNeg) (xs (nI i + 2).toNatClampNeg) 0).1)) (rest := [.int ((f_X4_bar tx sP (xs (nI i + 1).toNatClampNeg) (xs (nI i + 2).toNatClampNeg) 0).1)]) ⟨hx, hb, hml, hown, hts⟩ hK hA hP hD hS (c_X5_bar l k am sM (xs (nI i + 1).toNatClampNeg) (xs (nI i + 2).toNatClampNeg) 0 (m_T hR) (m_ns hR) (m_nm hR)) (cwV 3 hts gL_law_X5_bar rfl rfl rfl (by decide +kernel) ⟨Nat.le_of_ble_eq_true rfl, Nat.le_of_ble_eq_true rfl⟩) (va_recv hK hP (ci := 5) (q0 := 40) rfl rfl) rfl hl.1 rfl (Nat.le_of_ble_eq_true rfl) dL_law_279 (Nat.le_refl _) (Nat.le_refl _) [40, 41, 42, 43, 44, 45, 46, 47, 48, 49, 50, 51, 52, 53, 54, 55, 56, 57, 58, 59, 60, 61] [0, 1, 2, 3, 4, 5, 6, 7, 8, 9, 10, 11, 12, 13, 14, 15, 16, 17, 18, 19, 20, 21, 22, 23, 24, 25, 26, 27, 28, 29, 30, 31, 32, 33, 34, 35, 36, 37, 38, 39] [0, 1, 2, 3, 4, 5, 6, 7, 8, 9, 10, 11, 12, 13, 14, 15, 16, 17, 18, 19, 20, 21, 22, 23, 24, 25, 26, 27, 28, 29, 30, 31, 32, 33, 34, 35, 36, 37, 38, 39, 40, 41, 42, 43, 44, 45, 46, 47, 48, 49, 50, 51, 52, 53, 54, 55, 56, 57, 58, 59, 60, 61] rfl rfl rfl (by decide) rfl rfl rfl (fun H locs hP hD hS => ?_)
    refine lv_icmp_eq (tgt := 936) hx hb dL_law_282 (by decide) (fun c2 => ?_) (fun c2 => ?_)
    · exact hk ((f_X4_bar tx sP (xs (nI i + 1).toNatClampNeg) (xs (nI i + 2).toNatClampNeg) 0).2) sF sL sG sH sY sJ tx ((f_X5_bar sM (xs (nI i + 1).toNatClampNeg) (xs (nI i + 2).toNatClampNeg) 0).2) H locs ((sim_bar hR (xs (nI i + 1).toNatClampNeg) (xs (nI i + 2).toNatClampNeg) 0 (Or.inl rfl)).2) hP hD hS
    · exact absurd (sim_bar hR (xs (nI i + 1).toNatClampNeg) (xs (nI i + 2).toNatClampNeg) 0 (Or.inl rfl)).1 c2
  ·
    refine lv_iconst (v := 1) hx hb dL_law_247 (by decide) ?_
    refine lv_goto (tgt := 252) hx hb dL_law_248 (by decide) ?_
    refine k_Vi (wr := (w_F k af (ap 0) (al 0) sF) ++ (w_L k al 100 sL) ++ (w_F k ag (ap 0) (ah 0) sG) ++ (w_L k ah 0 sH) ++ (w_Y k ay (af 0) sY sJ) ++ (w_M k am sM)) (ws' := lw_w k ax ap af al ag ah ay am ((f_X4_bar tx sP (xs (nI i + 1).toNatClampNeg) (xs (nI i + 2).toNatClampNeg) 1).2) sF sL sG sH sY sJ tx sM) (Rv := ((f_X4_bar tx sP (xs (nI i + 1).toNatClampNeg) (xs (nI i + 2).toNatClampNeg) 1).1)) (rest := []) ⟨hx, hb, hml, hown, hts⟩ hK hA hP hD hS (c_X4_bar l k ax ap (af 0) (ag 0) (ay 0) tx sP (xs (nI i + 1).toNatClampNeg) (xs (nI i + 2).toNatClampNeg) 1 (rel_ns hR) (rel_nm hR)) (cwV 3 hts gL_law_X4_bar rfl rfl rfl (by decide +kernel) ⟨Nat.le_of_ble_eq_true rfl, Nat.le_of_ble_eq_true rfl⟩) (va_recv hK hP (ci := 4) (q0 := 0) rfl rfl) rfl hl.1 rfl (Nat.le_of_ble_eq_true rfl) dL_law_252 (Nat.le_refl _) (Nat.le_refl _) [0, 1, 2, 3, 4, 5, 6, 7, 8, 9, 10, 11, 12, 13, 14, 15, 16, 17, 18] [19, 20, 21, 22, 23, 24, 25, 26, 27, 28, 29, 30, 31, 32, 33, 34, 35, 36, 37, 38, 39, 40, 41, 42, 43, 44, 45, 46, 47, 48, 49, 50, 51, 52, 53, 54, 55, 56, 57, 58, 59, 60, 61] [43, 44, 45, 46, 47, 48, 49, 50, 51, 52, 53, 54, 55, 56, 57, 58, 59, 60, 61, 0, 1, 2, 3, 4, 5, 6, 7, 8, 9, 10, 11, 12, 13, 14, 15, 16, 17, 18, 19, 20, 21, 22, 23, 24, 25, 26, 27, 28, 29, 30, 31, 32, 33, 34, 35, 36, 37, 38, 39, 40, 41, 42] rfl rfl rfl (by decide) rfl rfl rfl (fun H locs hP hD hS => ?_)
    refine lv_aload_n hx hb dL_law_255 rfl (lv_at hl 2 rfl) ?_
    refine lv_aload_n hx hb dL_law_256 rfl (lv_at hl 0 rfl) ?_
    refine lv_iload_n hx hb dL_law_257 rfl (lv_at hl 3 rfl) ?_
    refine lv_iconst (v := 1) hx hb dL_law_258 (by decide) ?_
    refine lv_iadd hx hb dL_law_259 ?_
    refine va_sld hx hb hX hbl hbA hS (k_sc 1 (by decide) hi hL (by decide)) dL_law_260 ?_
    refine lv_aload_n hx hb dL_law_261 rfl (lv_at hl 0 rfl) ?_
    refine lv_iload_n hx hb dL_law_262 rfl (lv_at hl 3 rfl) ?_
    refine lv_iconst (v := 2) hx hb dL_law_263 (by decide) ?_
    refine lv_iadd hx hb dL_law_264 ?_
    refine va_sld hx hb hX hbl hbA hS (k_sc 2 (by decide) hi hL (by decide)) dL_law_265 ?_
    refine lv_aload_n hx hb dL_law_266 rfl (lv_at hl 0 rfl) ?_
    refine lv_iload_n hx hb dL_law_267 rfl (lv_at hl 3 rfl) ?_
    refine lv_iconst (v := 3) hx hb dL_law_268 (by decide) ?_
    refine lv_iadd hx hb dL_law_269 ?_
    refine va_sld hx hb hX hbl hbA hS (k_sc 3 (by decide) hi hL (by decide)) dL_law_270 ?_
    refine lv_if_eq (tgt := 278) hx hb dL_law_271 (by decide) (fun c9 => ?_) (fun c9 => ?_)
    · exact absurd c9 c1
    refine lv_iconst (v := 1) hx hb dL_law_274 (by decide) ?_
    refine lv_goto (tgt := 279) hx hb dL_law_275 (by decide) ?_
    refine k_Vi (wr := (w_X ax (ap 0) (af 0) (ag 0) (ay 0) tx) ++ (w_P k ap ((f_X4_bar tx sP (xs (nI i + 1).toNatClampNeg) (xs (nI i + 2).toNatClampNeg) 1).2)) ++ (w_F k af (ap 0) (al 0) sF) ++ (w_L k al 100 sL) ++ (w_F k ag (ap 0) (ah 0) sG) ++ (w_L k ah 0 sH) ++ (w_Y k ay (af 0) sY sJ)) (ws' := lw_w k ax ap af al ag ah ay am ((f_X4_bar tx sP (xs (nI i + 1).toNatClampNeg) (xs (nI i + 2).toNatClampNeg) 1).2) sF sL sG sH sY sJ tx ((f_X5_bar sM (xs (nI i + 1).toNatClampNeg) (xs (nI i + 2).toNatClampNeg) 1).2)) (Rv := ((f_X5_bar sM (xs (nI i + 1).toNatClampNeg) (xs (nI i + 2).toNatClampNeg) 1).1)) (rest := [.int ((f_X4_bar tx sP (xs (nI i + 1).toNatClampNeg) (xs (nI i + 2).toNatClampNeg) 1).1)]) ⟨hx, hb, hml, hown, hts⟩ hK hA hP hD hS (c_X5_bar l k am sM (xs (nI i + 1).toNatClampNeg) (xs (nI i + 2).toNatClampNeg) 1 (m_T hR) (m_ns hR) (m_nm hR)) (cwV 3 hts gL_law_X5_bar rfl rfl rfl (by decide +kernel) ⟨Nat.le_of_ble_eq_true rfl, Nat.le_of_ble_eq_true rfl⟩) (va_recv hK hP (ci := 5) (q0 := 40) rfl rfl) rfl hl.1 rfl (Nat.le_of_ble_eq_true rfl) dL_law_279 (Nat.le_refl _) (Nat.le_refl _) [40, 41, 42, 43, 44, 45, 46, 47, 48, 49, 50, 51, 52, 53, 54, 55, 56, 57, 58, 59, 60, 61] [0, 1, 2, 3, 4, 5, 6, 7, 8, 9, 10, 11, 12, 13, 14, 15, 16, 17, 18, 19, 20, 21, 22, 23, 24, 25, 26, 27, 28, 29, 30, 31, 32, 33, 34, 35, 36, 37, 38, 39] [0, 1, 2, 3, 4, 5, 6, 7, 8, 9, 10, 11, 12, 13, 14, 15, 16, 17, 18, 19, 20, 21, 22, 23, 24, 25, 26, 27, 28, 29, 30, 31, 32, 33, 34, 35, 36, 37, 38, 39, 40, 41, 42, 43, 44, 45, 46, 47, 48, 49, 50, 51, 52, 53, 54, 55, 56, 57, 58, 59, 60, 61] rfl rfl rfl (by decide) rfl rfl rfl (fun H locs hP hD hS => ?_)
    refine lv_icmp_eq (tgt := 936) hx hb dL_law_282 (by decide) (fun c2 => ?_) (fun c2 => ?_)
    · exact hk ((f_X4_bar tx sP (xs (nI i + 1).toNatClampNeg) (xs (nI i + 2).toNatClampNeg) 1).2) sF sL sG sH sY sJ tx ((f_X5_bar sM (xs (nI i + 1).toNatClampNeg) (xs (nI i + 2).toNatClampNeg) 1).2) H locs ((sim_bar hR (xs (nI i + 1).toNatClampNeg) (xs (nI i + 2).toNatClampNeg) 1 (Or.inr rfl)).2) hP hD hS
    · exact absurd (sim_bar hR (xs (nI i + 1).toNatClampNeg) (xs (nI i + 2).toNatClampNeg) 1 (Or.inr rfl)).1 c2
set_option maxHeartbeats 4000000 in
set_option maxRecDepth 100000 in
theorem lawc_hear {p : Program} {l : Launch} {e : Env} {s : State} {m : MethodId} {below : List Frame} {meth : Method} {c : Code} {k : K_X} {b L : Nat} {xs : Nat → Int32} (hL : L ≤ 2048) (C0 : lw_At p s m meth c b L xs) (hK : k_K k s) {ax : Nat} {ap af al ag ah ay am : Nat → Nat} {i : Nat} (hi : i + 4 ≤ L) (sP sF sL sG sH sY : Nat → Nat → Int32) (sJ : Nat → Int64) (tx : Int32) (sM : Nat → Nat → Int32) (hR : REL sP sF sL sY sJ tx sM) (H : Heap) (locs : List Loc) (ls : Array Slot) (hP : va_P k.1 vwCl (lw_w k ax ap af al ag ah ay am sP sF sL sG sH sY sJ tx sM) H) (hD : va_D (fun q : Nat => s.heap.size ≤ q) (lw_w k ax ap af al ag ah ay am sP sF sL sG sH sY sJ tx sM)) (hS : va_S (fun q : Nat => s.heap.size ≤ q) s.heap H locs) (hl : lv_has ls 4 [(0, .ref b), (1, .ref ax), (2, .ref (am 0)), (3, .int (nI i))]) (hk : ∀ (sP sF sL sG sH sY : Nat → Nat → Int32) (sJ : Nat → Int64) (tx : Int32) (sM : Nat → Nat → Int32) (H : Heap) (locs : List Loc), REL sP sF sL sY sJ tx sM → va_P k.1 vwCl (lw_w k ax ap af al ag ah ay am sP sF sL sG sH sY sJ tx sM) H → va_D (fun q : Nat => s.heap.size ≤ q) (lw_w k ax ap af al ag ah ay am sP sF sL sG sH sY sJ tx sM) → va_S (fun q : Nat => s.heap.size ≤ q) s.heap H locs → W p l e room_1 s m #[Value.ref b] below meth c H locs 600000 7302250 (lw_Z below #[Value.ref b] s) (F0 m 936 ls [])) : W p l e room_1 s m #[Value.ref b] below meth c H locs 600000 7302250 (lw_Z below #[Value.ref b] s) (F0 m 287 ls []) := by
  obtain ⟨hx, hb, hr, hml, hown, hts0, hX, hbl, hlocks, hgv⟩ := C0
  have hts := fun w h => hts0 w (wsL_law_in w h)
  have hown : s.vm.findClass RL = some m.cls := hown
  have hA : ∀ q : Nat, s.heap.size ≤ q → (fun q : Nat => s.heap.size ≤ q) q := fun _ h => h
  have hbA : ¬ (fun q : Nat => s.heap.size ≤ q) b := Nat.not_le.mpr hbl
  refine lv_aload_n hx hb dL_law_287 rfl (lv_at hl 1 rfl) ?_
  refine lv_aload_n hx hb dL_law_288 rfl (lv_at hl 0 rfl) ?_
  refine lv_iload_n hx hb dL_law_289 rfl (lv_at hl 3 rfl) ?_
  refine lv_iconst (v := 1) hx hb dL_law_290 (by decide) ?_
  refine lv_iadd hx hb dL_law_291 ?_
  refine va_sld hx hb hX hbl hbA hS (k_sc 1 (by decide) hi hL (by decide)) dL_law_292 ?_
  refine lv_aload_n hx hb dL_law_293 rfl (lv_at hl 0 rfl) ?_
  refine lv_iload_n hx hb dL_law_294 rfl (lv_at hl 3 rfl) ?_
  refine lv_iconst (v := 2) hx hb dL_law_295 (by decide) ?_
  refine lv_iadd hx hb dL_law_296 ?_
  refine va_sld hx hb hX hbl hbA hS (k_sc 2 (by decide) hi hL (by decide)) dL_law_297 ?_
  refine lv_aload_n hx hb dL_law_298 rfl (lv_at hl 0 rfl) ?_
  refine lv_iload_n hx hb dL_law_299 rfl (lv_at hl 3 rfl) ?_
  refine lv_iconst (v := 3) hx hb dL_law_300 (by decide) ?_
  refine lv_iadd hx hb dL_law_301 ?_
  refine va_sld hx hb hX hbl hbA hS (k_sc 3 (by decide) hi hL (by decide)) dL_law_302 ?_
  refine k_Vi (wr := (w_F k af (ap 0) (al 0) sF) ++ (w_L k al 100 sL) ++ (w_F k ag (ap 0) (ah 0) sG) ++ (w_L k ah 0 sH) ++ (w_Y k ay (af 0) sY sJ) ++ (w_M k am sM)) (ws' := lw_w k ax ap af al ag ah ay am ((f_X4_hear tx sP (xs (nI i + 1).toNatClampNeg) (xs (nI i + 2).toNatClampNeg) (xs (nI i + 3).toNatClampNeg)).2) sF sL sG sH sY sJ tx sM) (Rv := ((f_X4_hear tx sP (xs (nI i + 1).toNatClampNeg) (xs (nI i + 2).toNatClampNeg) (xs (nI i + 3).toNatClampNeg)).1)) (rest := []) ⟨hx, hb, hml, hown, hts⟩ hK hA hP hD hS (c_X4_hear l k ax ap (af 0) (ag 0) (ay 0) tx sP (xs (nI i + 1).toNatClampNeg) (xs (nI i + 2).toNatClampNeg) (xs (nI i + 3).toNatClampNeg) (rel_ns hR) (rel_nm hR)) (cwV 3 hts gL_law_X4_hear rfl rfl rfl (by decide +kernel) ⟨Nat.le_of_ble_eq_true rfl, Nat.le_of_ble_eq_true rfl⟩) (va_recv hK hP (ci := 4) (q0 := 0) rfl rfl) rfl hl.1 rfl (Nat.le_of_ble_eq_true rfl) dL_law_303 (Nat.le_refl _) (Nat.le_refl _) [0, 1, 2, 3, 4, 5, 6, 7, 8, 9, 10, 11, 12, 13, 14, 15, 16, 17, 18] [19, 20, 21, 22, 23, 24, 25, 26, 27, 28, 29, 30, 31, 32, 33, 34, 35, 36, 37, 38, 39, 40, 41, 42, 43, 44, 45, 46, 47, 48, 49, 50, 51, 52, 53, 54, 55, 56, 57, 58, 59, 60, 61] [43, 44, 45, 46, 47, 48, 49, 50, 51, 52, 53, 54, 55, 56, 57, 58, 59, 60, 61, 0, 1, 2, 3, 4, 5, 6, 7, 8, 9, 10, 11, 12, 13, 14, 15, 16, 17, 18, 19, 20, 21, 22, 23, 24, 25, 26, 27, 28, 29, 30, 31, 32, 33, 34, 35, 36, 37, 38, 39, 40, 41, 42] rfl rfl rfl (by decide) rfl rfl rfl (fun H locs hP hD hS => ?_)
  refine lv_aload_n hx hb dL_law_306 rfl (lv_at hl 2 rfl) ?_
  refine lv_aload_n hx hb dL_law_307 rfl (lv_at hl 0 rfl) ?_
  refine lv_iload_n hx hb dL_law_308 rfl (lv_at hl 3 rfl) ?_
  refine lv_iconst (v := 1) hx hb dL_law_309 (by decide) ?_
  refine lv_iadd hx hb dL_law_310 ?_
  refine va_sld hx hb hX hbl hbA hS (k_sc 1 (by decide) hi hL (by decide)) dL_law_311 ?_
  refine lv_aload_n hx hb dL_law_312 rfl (lv_at hl 0 rfl) ?_
  refine lv_iload_n hx hb dL_law_313 rfl (lv_at hl 3 rfl) ?_
  refine lv_iconst (v := 2) hx hb dL_law_314 (by decide) ?_
  refine lv_iadd hx hb dL_law_315 ?_
  refine va_sld hx hb hX hbl hbA hS (k_sc 2 (by decide) hi hL (by decide)) dL_law_316 ?_
  refine lv_aload_n hx hb dL_law_317 rfl (lv_at hl 0 rfl) ?_
  refine lv_iload_n hx hb dL_law_318 rfl (lv_at hl 3 rfl) ?_
  refine lv_iconst (v := 3) hx hb dL_law_319 (by decide) ?_
  refine lv_iadd hx hb dL_law_320 ?_
  refine va_sld hx hb hX hbl hbA hS (k_sc 3 (by decide) hi hL (by decide)) dL_law_321 ?_
  refine k_Vi (wr := (w_X ax (ap 0) (af 0) (ag 0) (ay 0) tx) ++ (w_P k ap ((f_X4_hear tx sP (xs (nI i + 1).toNatClampNeg) (xs (nI i + 2).toNatClampNeg) (xs (nI i + 3).toNatClampNeg)).2)) ++ (w_F k af (ap 0) (al 0) sF) ++ (w_L k al 100 sL) ++ (w_F k ag (ap 0) (ah 0) sG) ++ (w_L k ah 0 sH) ++ (w_Y k ay (af 0) sY sJ)) (ws' := lw_w k ax ap af al ag ah ay am ((f_X4_hear tx sP (xs (nI i + 1).toNatClampNeg) (xs (nI i + 2).toNatClampNeg) (xs (nI i + 3).toNatClampNeg)).2) sF sL sG sH sY sJ tx ((f_X5_hear sM (xs (nI i + 1).toNatClampNeg) (xs (nI i + 2).toNatClampNeg) (xs (nI i + 3).toNatClampNeg)).2)) (Rv := ((f_X5_hear sM (xs (nI i + 1).toNatClampNeg) (xs (nI i + 2).toNatClampNeg) (xs (nI i + 3).toNatClampNeg)).1)) (rest := [.int ((f_X4_hear tx sP (xs (nI i + 1).toNatClampNeg) (xs (nI i + 2).toNatClampNeg) (xs (nI i + 3).toNatClampNeg)).1)]) ⟨hx, hb, hml, hown, hts⟩ hK hA hP hD hS (c_X5_hear l k am sM (xs (nI i + 1).toNatClampNeg) (xs (nI i + 2).toNatClampNeg) (xs (nI i + 3).toNatClampNeg) (m_T hR) (m_ns hR) (m_nm hR)) (cwV 3 hts gL_law_X5_hear rfl rfl rfl (by decide +kernel) ⟨Nat.le_of_ble_eq_true rfl, Nat.le_of_ble_eq_true rfl⟩) (va_recv hK hP (ci := 5) (q0 := 40) rfl rfl) rfl hl.1 rfl (Nat.le_of_ble_eq_true rfl) dL_law_322 (Nat.le_refl _) (Nat.le_refl _) [40, 41, 42, 43, 44, 45, 46, 47, 48, 49, 50, 51, 52, 53, 54, 55, 56, 57, 58, 59, 60, 61] [0, 1, 2, 3, 4, 5, 6, 7, 8, 9, 10, 11, 12, 13, 14, 15, 16, 17, 18, 19, 20, 21, 22, 23, 24, 25, 26, 27, 28, 29, 30, 31, 32, 33, 34, 35, 36, 37, 38, 39] [0, 1, 2, 3, 4, 5, 6, 7, 8, 9, 10, 11, 12, 13, 14, 15, 16, 17, 18, 19, 20, 21, 22, 23, 24, 25, 26, 27, 28, 29, 30, 31, 32, 33, 34, 35, 36, 37, 38, 39, 40, 41, 42, 43, 44, 45, 46, 47, 48, 49, 50, 51, 52, 53, 54, 55, 56, 57, 58, 59, 60, 61] rfl rfl rfl (by decide) rfl rfl rfl (fun H locs hP hD hS => ?_)
  refine lv_icmp_eq (tgt := 936) hx hb dL_law_325 (by decide) (fun c2 => ?_) (fun c2 => ?_)
  · exact hk ((f_X4_hear tx sP (xs (nI i + 1).toNatClampNeg) (xs (nI i + 2).toNatClampNeg) (xs (nI i + 3).toNatClampNeg)).2) sF sL sG sH sY sJ tx ((f_X5_hear sM (xs (nI i + 1).toNatClampNeg) (xs (nI i + 2).toNatClampNeg) (xs (nI i + 3).toNatClampNeg)).2) H locs ((sim_hear hR (xs (nI i + 1).toNatClampNeg) (xs (nI i + 2).toNatClampNeg) (xs (nI i + 3).toNatClampNeg)).2) hP hD hS
  · exact absurd (sim_hear hR (xs (nI i + 1).toNatClampNeg) (xs (nI i + 2).toNatClampNeg) (xs (nI i + 3).toNatClampNeg)).1 c2
set_option maxHeartbeats 4000000 in
set_option maxRecDepth 100000 in
theorem lawc_pass {p : Program} {l : Launch} {e : Env} {s : State} {m : MethodId} {below : List Frame} {meth : Method} {c : Code} {k : K_X} {b L : Nat} {xs : Nat → Int32} (hL : L ≤ 2048) (C0 : lw_At p s m meth c b L xs) (hK : k_K k s) {ax : Nat} {ap af al ag ah ay am : Nat → Nat} {i : Nat} (hi : i + 4 ≤ L) (sP sF sL sG sH sY : Nat → Nat → Int32) (sJ : Nat → Int64) (tx : Int32) (sM : Nat → Nat → Int32) (hR : REL sP sF sL sY sJ tx sM) (H : Heap) (locs : List Loc) (ls : Array Slot) (hP : va_P k.1 vwCl (lw_w k ax ap af al ag ah ay am sP sF sL sG sH sY sJ tx sM) H) (hD : va_D (fun q : Nat => s.heap.size ≤ q) (lw_w k ax ap af al ag ah ay am sP sF sL sG sH sY sJ tx sM)) (hS : va_S (fun q : Nat => s.heap.size ≤ q) s.heap H locs) (hl : lv_has ls 4 [(0, .ref b), (1, .ref ax), (2, .ref (am 0)), (3, .int (nI i))]) (hk : ∀ (sP sF sL sG sH sY : Nat → Nat → Int32) (sJ : Nat → Int64) (tx : Int32) (sM : Nat → Nat → Int32) (H : Heap) (locs : List Loc), REL sP sF sL sY sJ tx sM → va_P k.1 vwCl (lw_w k ax ap af al ag ah ay am sP sF sL sG sH sY sJ tx sM) H → va_D (fun q : Nat => s.heap.size ≤ q) (lw_w k ax ap af al ag ah ay am sP sF sL sG sH sY sJ tx sM) → va_S (fun q : Nat => s.heap.size ≤ q) s.heap H locs → W p l e room_1 s m #[Value.ref b] below meth c H locs 600000 7302250 (lw_Z below #[Value.ref b] s) (F0 m 936 ls [])) : W p l e room_1 s m #[Value.ref b] below meth c H locs 600000 7302250 (lw_Z below #[Value.ref b] s) (F0 m 330 ls []) := by
  obtain ⟨hx, hb, hr, hml, hown, hts0, hX, hbl, hlocks, hgv⟩ := C0
  have hts := fun w h => hts0 w (wsL_law_in w h)
  have hown : s.vm.findClass RL = some m.cls := hown
  have hA : ∀ q : Nat, s.heap.size ≤ q → (fun q : Nat => s.heap.size ≤ q) q := fun _ h => h
  have hbA : ¬ (fun q : Nat => s.heap.size ≤ q) b := Nat.not_le.mpr hbl
  refine lv_aload_n hx hb dL_law_330 rfl (lv_at hl 1 rfl) ?_
  refine lv_aload_n hx hb dL_law_331 rfl (lv_at hl 0 rfl) ?_
  refine lv_iload_n hx hb dL_law_332 rfl (lv_at hl 3 rfl) ?_
  refine lv_iconst (v := 1) hx hb dL_law_333 (by decide) ?_
  refine lv_iadd hx hb dL_law_334 ?_
  refine va_sld hx hb hX hbl hbA hS (k_sc 1 (by decide) hi hL (by decide)) dL_law_335 ?_
  refine lv_aload_n hx hb dL_law_336 rfl (lv_at hl 0 rfl) ?_
  refine lv_iload_n hx hb dL_law_337 rfl (lv_at hl 3 rfl) ?_
  refine lv_iconst (v := 2) hx hb dL_law_338 (by decide) ?_
  refine lv_iadd hx hb dL_law_339 ?_
  refine va_sld hx hb hX hbl hbA hS (k_sc 2 (by decide) hi hL (by decide)) dL_law_340 ?_
  refine lv_aload_n hx hb dL_law_341 rfl (lv_at hl 0 rfl) ?_
  refine lv_iload_n hx hb dL_law_342 rfl (lv_at hl 3 rfl) ?_
  refine lv_iconst (v := 3) hx hb dL_law_343 (by decide) ?_
  refine lv_iadd hx hb dL_law_344 ?_
  refine va_sld hx hb hX hbl hbA hS (k_sc 3 (by decide) hi hL (by decide)) dL_law_345 ?_
  refine k_Vi (wr := (w_F k af (ap 0) (al 0) sF) ++ (w_L k al 100 sL) ++ (w_F k ag (ap 0) (ah 0) sG) ++ (w_L k ah 0 sH) ++ (w_Y k ay (af 0) sY sJ) ++ (w_M k am sM)) (ws' := lw_w k ax ap af al ag ah ay am ((f_X4_pass tx sP (xs (nI i + 1).toNatClampNeg) (xs (nI i + 2).toNatClampNeg) (xs (nI i + 3).toNatClampNeg)).2) sF sL sG sH sY sJ tx sM) (Rv := ((f_X4_pass tx sP (xs (nI i + 1).toNatClampNeg) (xs (nI i + 2).toNatClampNeg) (xs (nI i + 3).toNatClampNeg)).1)) (rest := []) ⟨hx, hb, hml, hown, hts⟩ hK hA hP hD hS (c_X4_pass l k ax ap (af 0) (ag 0) (ay 0) tx sP (xs (nI i + 1).toNatClampNeg) (xs (nI i + 2).toNatClampNeg) (xs (nI i + 3).toNatClampNeg) (rel_ns hR) (rel_nm hR)) (cwV 3 hts gL_law_X4_pass rfl rfl rfl (by decide +kernel) ⟨Nat.le_of_ble_eq_true rfl, Nat.le_of_ble_eq_true rfl⟩) (va_recv hK hP (ci := 4) (q0 := 0) rfl rfl) rfl hl.1 rfl (Nat.le_of_ble_eq_true rfl) dL_law_346 (Nat.le_refl _) (Nat.le_refl _) [0, 1, 2, 3, 4, 5, 6, 7, 8, 9, 10, 11, 12, 13, 14, 15, 16, 17, 18] [19, 20, 21, 22, 23, 24, 25, 26, 27, 28, 29, 30, 31, 32, 33, 34, 35, 36, 37, 38, 39, 40, 41, 42, 43, 44, 45, 46, 47, 48, 49, 50, 51, 52, 53, 54, 55, 56, 57, 58, 59, 60, 61] [43, 44, 45, 46, 47, 48, 49, 50, 51, 52, 53, 54, 55, 56, 57, 58, 59, 60, 61, 0, 1, 2, 3, 4, 5, 6, 7, 8, 9, 10, 11, 12, 13, 14, 15, 16, 17, 18, 19, 20, 21, 22, 23, 24, 25, 26, 27, 28, 29, 30, 31, 32, 33, 34, 35, 36, 37, 38, 39, 40, 41, 42] rfl rfl rfl (by decide) rfl rfl rfl (fun H locs hP hD hS => ?_)
  refine lv_aload_n hx hb dL_law_349 rfl (lv_at hl 2 rfl) ?_
  refine lv_aload_n hx hb dL_law_350 rfl (lv_at hl 0 rfl) ?_
  refine lv_iload_n hx hb dL_law_351 rfl (lv_at hl 3 rfl) ?_
  refine lv_iconst (v := 1) hx hb dL_law_352 (by decide) ?_
  refine lv_iadd hx hb dL_law_353 ?_
  refine va_sld hx hb hX hbl hbA hS (k_sc 1 (by decide) hi hL (by decide)) dL_law_354 ?_
  refine lv_aload_n hx hb dL_law_355 rfl (lv_at hl 0 rfl) ?_
  refine lv_iload_n hx hb dL_law_356 rfl (lv_at hl 3 rfl) ?_
  refine lv_iconst (v := 2) hx hb dL_law_357 (by decide) ?_
  refine lv_iadd hx hb dL_law_358 ?_
  refine va_sld hx hb hX hbl hbA hS (k_sc 2 (by decide) hi hL (by decide)) dL_law_359 ?_
  refine lv_aload_n hx hb dL_law_360 rfl (lv_at hl 0 rfl) ?_
  refine lv_iload_n hx hb dL_law_361 rfl (lv_at hl 3 rfl) ?_
  refine lv_iconst (v := 3) hx hb dL_law_362 (by decide) ?_
  refine lv_iadd hx hb dL_law_363 ?_
  refine va_sld hx hb hX hbl hbA hS (k_sc 3 (by decide) hi hL (by decide)) dL_law_364 ?_
  refine k_Vi (wr := (w_X ax (ap 0) (af 0) (ag 0) (ay 0) tx) ++ (w_P k ap ((f_X4_pass tx sP (xs (nI i + 1).toNatClampNeg) (xs (nI i + 2).toNatClampNeg) (xs (nI i + 3).toNatClampNeg)).2)) ++ (w_F k af (ap 0) (al 0) sF) ++ (w_L k al 100 sL) ++ (w_F k ag (ap 0) (ah 0) sG) ++ (w_L k ah 0 sH) ++ (w_Y k ay (af 0) sY sJ)) (ws' := lw_w k ax ap af al ag ah ay am ((f_X4_pass tx sP (xs (nI i + 1).toNatClampNeg) (xs (nI i + 2).toNatClampNeg) (xs (nI i + 3).toNatClampNeg)).2) sF sL sG sH sY sJ tx ((f_X5_pass sM (xs (nI i + 1).toNatClampNeg) (xs (nI i + 2).toNatClampNeg) (xs (nI i + 3).toNatClampNeg)).2)) (Rv := ((f_X5_pass sM (xs (nI i + 1).toNatClampNeg) (xs (nI i + 2).toNatClampNeg) (xs (nI i + 3).toNatClampNeg)).1)) (rest := [.int ((f_X4_pass tx sP (xs (nI i + 1).toNatClampNeg) (xs (nI i + 2).toNatClampNeg) (xs (nI i + 3).toNatClampNeg)).1)]) ⟨hx, hb, hml, hown, hts⟩ hK hA hP hD hS (c_X5_pass l k am sM (xs (nI i + 1).toNatClampNeg) (xs (nI i + 2).toNatClampNeg) (xs (nI i + 3).toNatClampNeg) (m_T hR) (m_ns hR) (m_nm hR)) (cwV 3 hts gL_law_X5_pass rfl rfl rfl (by decide +kernel) ⟨Nat.le_of_ble_eq_true rfl, Nat.le_of_ble_eq_true rfl⟩) (va_recv hK hP (ci := 5) (q0 := 40) rfl rfl) rfl hl.1 rfl (Nat.le_of_ble_eq_true rfl) dL_law_365 (Nat.le_refl _) (Nat.le_refl _) [40, 41, 42, 43, 44, 45, 46, 47, 48, 49, 50, 51, 52, 53, 54, 55, 56, 57, 58, 59, 60, 61] [0, 1, 2, 3, 4, 5, 6, 7, 8, 9, 10, 11, 12, 13, 14, 15, 16, 17, 18, 19, 20, 21, 22, 23, 24, 25, 26, 27, 28, 29, 30, 31, 32, 33, 34, 35, 36, 37, 38, 39] [0, 1, 2, 3, 4, 5, 6, 7, 8, 9, 10, 11, 12, 13, 14, 15, 16, 17, 18, 19, 20, 21, 22, 23, 24, 25, 26, 27, 28, 29, 30, 31, 32, 33, 34, 35, 36, 37, 38, 39, 40, 41, 42, 43, 44, 45, 46, 47, 48, 49, 50, 51, 52, 53, 54, 55, 56, 57, 58, 59, 60, 61] rfl rfl rfl (by decide) rfl rfl rfl (fun H locs hP hD hS => ?_)
  refine lv_icmp_eq (tgt := 936) hx hb dL_law_368 (by decide) (fun c2 => ?_) (fun c2 => ?_)
  · exact hk ((f_X4_pass tx sP (xs (nI i + 1).toNatClampNeg) (xs (nI i + 2).toNatClampNeg) (xs (nI i + 3).toNatClampNeg)).2) sF sL sG sH sY sJ tx ((f_X5_pass sM (xs (nI i + 1).toNatClampNeg) (xs (nI i + 2).toNatClampNeg) (xs (nI i + 3).toNatClampNeg)).2) H locs ((sim_pass hR (xs (nI i + 1).toNatClampNeg) (xs (nI i + 2).toNatClampNeg) (xs (nI i + 3).toNatClampNeg)).2) hP hD hS
  · exact absurd (sim_pass hR (xs (nI i + 1).toNatClampNeg) (xs (nI i + 2).toNatClampNeg) (xs (nI i + 3).toNatClampNeg)).1 c2
set_option maxHeartbeats 4000000 in
set_option maxRecDepth 100000 in
theorem lawc_about {p : Program} {l : Launch} {e : Env} {s : State} {m : MethodId} {below : List Frame} {meth : Method} {c : Code} {k : K_X} {b L : Nat} {xs : Nat → Int32} (hL : L ≤ 2048) (C0 : lw_At p s m meth c b L xs) (hK : k_K k s) {ax : Nat} {ap af al ag ah ay am : Nat → Nat} {i : Nat} (hi : i + 4 ≤ L) (sP sF sL sG sH sY : Nat → Nat → Int32) (sJ : Nat → Int64) (tx : Int32) (sM : Nat → Nat → Int32) (hR : REL sP sF sL sY sJ tx sM) (H : Heap) (locs : List Loc) (ls : Array Slot) (hP : va_P k.1 vwCl (lw_w k ax ap af al ag ah ay am sP sF sL sG sH sY sJ tx sM) H) (hD : va_D (fun q : Nat => s.heap.size ≤ q) (lw_w k ax ap af al ag ah ay am sP sF sL sG sH sY sJ tx sM)) (hS : va_S (fun q : Nat => s.heap.size ≤ q) s.heap H locs) (hl : lv_has ls 4 [(0, .ref b), (1, .ref ax), (2, .ref (am 0)), (3, .int (nI i))]) (hk : ∀ (sP sF sL sG sH sY : Nat → Nat → Int32) (sJ : Nat → Int64) (tx : Int32) (sM : Nat → Nat → Int32) (H : Heap) (locs : List Loc), REL sP sF sL sY sJ tx sM → va_P k.1 vwCl (lw_w k ax ap af al ag ah ay am sP sF sL sG sH sY sJ tx sM) H → va_D (fun q : Nat => s.heap.size ≤ q) (lw_w k ax ap af al ag ah ay am sP sF sL sG sH sY sJ tx sM) → va_S (fun q : Nat => s.heap.size ≤ q) s.heap H locs → W p l e room_1 s m #[Value.ref b] below meth c H locs 600000 7302250 (lw_Z below #[Value.ref b] s) (F0 m 936 ls [])) : W p l e room_1 s m #[Value.ref b] below meth c H locs 600000 7302250 (lw_Z below #[Value.ref b] s) (F0 m 373 ls []) := by
  obtain ⟨hx, hb, hr, hml, hown, hts0, hX, hbl, hlocks, hgv⟩ := C0
  have hts := fun w h => hts0 w (wsL_law_in w h)
  have hown : s.vm.findClass RL = some m.cls := hown
  have hA : ∀ q : Nat, s.heap.size ≤ q → (fun q : Nat => s.heap.size ≤ q) q := fun _ h => h
  have hbA : ¬ (fun q : Nat => s.heap.size ≤ q) b := Nat.not_le.mpr hbl
  refine lv_aload_n hx hb dL_law_373 rfl (lv_at hl 1 rfl) ?_
  refine lv_aload_n hx hb dL_law_374 rfl (lv_at hl 0 rfl) ?_
  refine lv_iload_n hx hb dL_law_375 rfl (lv_at hl 3 rfl) ?_
  refine lv_iconst (v := 1) hx hb dL_law_376 (by decide) ?_
  refine lv_iadd hx hb dL_law_377 ?_
  refine va_sld hx hb hX hbl hbA hS (k_sc 1 (by decide) hi hL (by decide)) dL_law_378 ?_
  refine lv_aload_n hx hb dL_law_379 rfl (lv_at hl 0 rfl) ?_
  refine lv_iload_n hx hb dL_law_380 rfl (lv_at hl 3 rfl) ?_
  refine lv_iconst (v := 2) hx hb dL_law_381 (by decide) ?_
  refine lv_iadd hx hb dL_law_382 ?_
  refine va_sld hx hb hX hbl hbA hS (k_sc 2 (by decide) hi hL (by decide)) dL_law_383 ?_
  refine k_Vi (wr := (w_L k al 100 sL) ++ (w_F k ag (ap 0) (ah 0) sG) ++ (w_L k ah 0 sH) ++ (w_M k am sM)) (ws' := lw_w k ax ap af al ag ah ay am sP sF sL sG sH sY sJ tx sM) (Rv := (f_X4_about tx sP sF sY sJ (xs (nI i + 1).toNatClampNeg) (xs (nI i + 2).toNatClampNeg))) (rest := []) ⟨hx, hb, hml, hown, hts⟩ hK hA hP hD hS (c_X4_about l k ax ap af ay (al 0) (ag 0) tx sP sF sY sJ (xs (nI i + 1).toNatClampNeg) (xs (nI i + 2).toNatClampNeg) (rel_ns hR)) (cwV 2 hts gL_law_X4_about rfl rfl rfl (by decide +kernel) ⟨Nat.le_of_ble_eq_true rfl, Nat.le_of_ble_eq_true rfl⟩) (va_recv hK hP (ci := 4) (q0 := 0) rfl rfl) rfl hl.1 rfl (Nat.le_of_ble_eq_true rfl) dL_law_384 (Nat.le_refl _) (Nat.le_refl _) [0, 1, 2, 3, 4, 5, 6, 7, 8, 9, 10, 11, 12, 13, 14, 15, 16, 17, 18, 19, 20, 21, 22, 23, 24, 35, 36, 37, 38, 39] [25, 26, 27, 28, 29, 30, 31, 32, 33, 34, 40, 41, 42, 43, 44, 45, 46, 47, 48, 49, 50, 51, 52, 53, 54, 55, 56, 57, 58, 59, 60, 61] [32, 33, 34, 35, 36, 37, 38, 39, 40, 41, 42, 43, 44, 45, 46, 47, 48, 49, 50, 51, 52, 53, 54, 55, 56, 0, 1, 2, 3, 4, 5, 6, 7, 8, 9, 57, 58, 59, 60, 61, 10, 11, 12, 13, 14, 15, 16, 17, 18, 19, 20, 21, 22, 23, 24, 25, 26, 27, 28, 29, 30, 31] rfl rfl rfl (by decide) rfl rfl rfl (fun H locs hP hD hS => ?_)
  refine lv_aload_n hx hb dL_law_387 rfl (lv_at hl 2 rfl) ?_
  refine lv_aload_n hx hb dL_law_388 rfl (lv_at hl 0 rfl) ?_
  refine lv_iload_n hx hb dL_law_389 rfl (lv_at hl 3 rfl) ?_
  refine lv_iconst (v := 1) hx hb dL_law_390 (by decide) ?_
  refine lv_iadd hx hb dL_law_391 ?_
  refine va_sld hx hb hX hbl hbA hS (k_sc 1 (by decide) hi hL (by decide)) dL_law_392 ?_
  refine lv_aload_n hx hb dL_law_393 rfl (lv_at hl 0 rfl) ?_
  refine lv_iload_n hx hb dL_law_394 rfl (lv_at hl 3 rfl) ?_
  refine lv_iconst (v := 2) hx hb dL_law_395 (by decide) ?_
  refine lv_iadd hx hb dL_law_396 ?_
  refine va_sld hx hb hX hbl hbA hS (k_sc 2 (by decide) hi hL (by decide)) dL_law_397 ?_
  refine k_Vi (wr := (w_X ax (ap 0) (af 0) (ag 0) (ay 0) tx) ++ (w_P k ap sP) ++ (w_F k af (ap 0) (al 0) sF) ++ (w_L k al 100 sL) ++ (w_F k ag (ap 0) (ah 0) sG) ++ (w_L k ah 0 sH) ++ (w_Y k ay (af 0) sY sJ)) (ws' := lw_w k ax ap af al ag ah ay am sP sF sL sG sH sY sJ tx sM) (Rv := (f_X5_about sM (xs (nI i + 1).toNatClampNeg) (xs (nI i + 2).toNatClampNeg))) (rest := [.int (f_X4_about tx sP sF sY sJ (xs (nI i + 1).toNatClampNeg) (xs (nI i + 2).toNatClampNeg))]) ⟨hx, hb, hml, hown, hts⟩ hK hA hP hD hS (c_X5_about l k am sM (xs (nI i + 1).toNatClampNeg) (xs (nI i + 2).toNatClampNeg) (m_T hR) (m_ns hR)) (cwV 2 hts gL_law_X5_about rfl rfl rfl (by decide +kernel) ⟨Nat.le_of_ble_eq_true rfl, Nat.le_of_ble_eq_true rfl⟩) (va_recv hK hP (ci := 5) (q0 := 40) rfl rfl) rfl hl.1 rfl (Nat.le_of_ble_eq_true rfl) dL_law_398 (Nat.le_refl _) (Nat.le_refl _) [40, 41, 42, 43, 44, 45, 46, 47, 48, 49, 50, 51, 52, 53, 54, 55, 56, 57, 58, 59, 60, 61] [0, 1, 2, 3, 4, 5, 6, 7, 8, 9, 10, 11, 12, 13, 14, 15, 16, 17, 18, 19, 20, 21, 22, 23, 24, 25, 26, 27, 28, 29, 30, 31, 32, 33, 34, 35, 36, 37, 38, 39] [0, 1, 2, 3, 4, 5, 6, 7, 8, 9, 10, 11, 12, 13, 14, 15, 16, 17, 18, 19, 20, 21, 22, 23, 24, 25, 26, 27, 28, 29, 30, 31, 32, 33, 34, 35, 36, 37, 38, 39, 40, 41, 42, 43, 44, 45, 46, 47, 48, 49, 50, 51, 52, 53, 54, 55, 56, 57, 58, 59, 60, 61] rfl rfl rfl (by decide) rfl rfl rfl (fun H locs hP hD hS => ?_)
  refine lv_icmp_eq (tgt := 936) hx hb dL_law_401 (by decide) (fun c2 => ?_) (fun c2 => ?_)
  · exact hk sP sF sL sG sH sY sJ tx sM H locs (hR) hP hD hS
  · exact absurd (sim_about hR (xs (nI i + 1).toNatClampNeg) (xs (nI i + 2).toNatClampNeg)) c2
set_option maxHeartbeats 4000000 in
set_option maxRecDepth 100000 in
theorem lawc_house {p : Program} {l : Launch} {e : Env} {s : State} {m : MethodId} {below : List Frame} {meth : Method} {c : Code} {k : K_X} {b L : Nat} {xs : Nat → Int32} (hL : L ≤ 2048) (C0 : lw_At p s m meth c b L xs) (hK : k_K k s) {ax : Nat} {ap af al ag ah ay am : Nat → Nat} {i : Nat} (hi : i + 4 ≤ L) (sP sF sL sG sH sY : Nat → Nat → Int32) (sJ : Nat → Int64) (tx : Int32) (sM : Nat → Nat → Int32) (hR : REL sP sF sL sY sJ tx sM) (H : Heap) (locs : List Loc) (ls : Array Slot) (hP : va_P k.1 vwCl (lw_w k ax ap af al ag ah ay am sP sF sL sG sH sY sJ tx sM) H) (hD : va_D (fun q : Nat => s.heap.size ≤ q) (lw_w k ax ap af al ag ah ay am sP sF sL sG sH sY sJ tx sM)) (hS : va_S (fun q : Nat => s.heap.size ≤ q) s.heap H locs) (hl : lv_has ls 4 [(0, .ref b), (1, .ref ax), (2, .ref (am 0)), (3, .int (nI i))]) (hk : ∀ (sP sF sL sG sH sY : Nat → Nat → Int32) (sJ : Nat → Int64) (tx : Int32) (sM : Nat → Nat → Int32) (H : Heap) (locs : List Loc), REL sP sF sL sY sJ tx sM → va_P k.1 vwCl (lw_w k ax ap af al ag ah ay am sP sF sL sG sH sY sJ tx sM) H → va_D (fun q : Nat => s.heap.size ≤ q) (lw_w k ax ap af al ag ah ay am sP sF sL sG sH sY sJ tx sM) → va_S (fun q : Nat => s.heap.size ≤ q) s.heap H locs → W p l e room_1 s m #[Value.ref b] below meth c H locs 600000 7302250 (lw_Z below #[Value.ref b] s) (F0 m 936 ls [])) : W p l e room_1 s m #[Value.ref b] below meth c H locs 600000 7302250 (lw_Z below #[Value.ref b] s) (F0 m 406 ls []) := by
  obtain ⟨hx, hb, hr, hml, hown, hts0, hX, hbl, hlocks, hgv⟩ := C0
  have hts := fun w h => hts0 w (wsL_law_in w h)
  have hown : s.vm.findClass RL = some m.cls := hown
  have hA : ∀ q : Nat, s.heap.size ≤ q → (fun q : Nat => s.heap.size ≤ q) q := fun _ h => h
  have hbA : ¬ (fun q : Nat => s.heap.size ≤ q) b := Nat.not_le.mpr hbl
  refine lv_aload_n hx hb dL_law_406 rfl (lv_at hl 1 rfl) ?_
  refine lv_aload_n hx hb dL_law_407 rfl (lv_at hl 0 rfl) ?_
  refine lv_iload_n hx hb dL_law_408 rfl (lv_at hl 3 rfl) ?_
  refine lv_iconst (v := 1) hx hb dL_law_409 (by decide) ?_
  refine lv_iadd hx hb dL_law_410 ?_
  refine va_sld hx hb hX hbl hbA hS (k_sc 1 (by decide) hi hL (by decide)) dL_law_411 ?_
  refine lv_aload_n hx hb dL_law_412 rfl (lv_at hl 0 rfl) ?_
  refine lv_iload_n hx hb dL_law_413 rfl (lv_at hl 3 rfl) ?_
  refine lv_iconst (v := 2) hx hb dL_law_414 (by decide) ?_
  refine lv_iadd hx hb dL_law_415 ?_
  refine va_sld hx hb hX hbl hbA hS (k_sc 2 (by decide) hi hL (by decide)) dL_law_416 ?_
  refine k_Vi (wr := (w_L k al 100 sL) ++ (w_F k ag (ap 0) (ah 0) sG) ++ (w_L k ah 0 sH) ++ (w_Y k ay (af 0) sY sJ) ++ (w_M k am sM)) (ws' := lw_w k ax ap af al ag ah ay am sP sF sL sG sH sY sJ tx sM) (Rv := (f_X4_house tx sP sF (xs (nI i + 1).toNatClampNeg) (xs (nI i + 2).toNatClampNeg))) (rest := []) ⟨hx, hb, hml, hown, hts⟩ hK hA hP hD hS (c_X4_house l k ax ap af (al 0) (ag 0) (ay 0) tx sP sF (xs (nI i + 1).toNatClampNeg) (xs (nI i + 2).toNatClampNeg) (rel_nm hR)) (cwV 2 hts gL_law_X4_house rfl rfl rfl (by decide +kernel) ⟨Nat.le_of_ble_eq_true rfl, Nat.le_of_ble_eq_true rfl⟩) (va_recv hK hP (ci := 4) (q0 := 0) rfl rfl) rfl hl.1 rfl (Nat.le_of_ble_eq_true rfl) dL_law_417 (Nat.le_refl _) (Nat.le_refl _) [0, 1, 2, 3, 4, 5, 6, 7, 8, 9, 10, 11, 12, 13, 14, 15, 16, 17, 18, 19, 20, 21, 22, 23, 24] [25, 26, 27, 28, 29, 30, 31, 32, 33, 34, 35, 36, 37, 38, 39, 40, 41, 42, 43, 44, 45, 46, 47, 48, 49, 50, 51, 52, 53, 54, 55, 56, 57, 58, 59, 60, 61] [37, 38, 39, 40, 41, 42, 43, 44, 45, 46, 47, 48, 49, 50, 51, 52, 53, 54, 55, 56, 57, 58, 59, 60, 61, 0, 1, 2, 3, 4, 5, 6, 7, 8, 9, 10, 11, 12, 13, 14, 15, 16, 17, 18, 19, 20, 21, 22, 23, 24, 25, 26, 27, 28, 29, 30, 31, 32, 33, 34, 35, 36] rfl rfl rfl (by decide) rfl rfl rfl (fun H locs hP hD hS => ?_)
  refine lv_aload_n hx hb dL_law_420 rfl (lv_at hl 2 rfl) ?_
  refine lv_aload_n hx hb dL_law_421 rfl (lv_at hl 0 rfl) ?_
  refine lv_iload_n hx hb dL_law_422 rfl (lv_at hl 3 rfl) ?_
  refine lv_iconst (v := 1) hx hb dL_law_423 (by decide) ?_
  refine lv_iadd hx hb dL_law_424 ?_
  refine va_sld hx hb hX hbl hbA hS (k_sc 1 (by decide) hi hL (by decide)) dL_law_425 ?_
  refine lv_aload_n hx hb dL_law_426 rfl (lv_at hl 0 rfl) ?_
  refine lv_iload_n hx hb dL_law_427 rfl (lv_at hl 3 rfl) ?_
  refine lv_iconst (v := 2) hx hb dL_law_428 (by decide) ?_
  refine lv_iadd hx hb dL_law_429 ?_
  refine va_sld hx hb hX hbl hbA hS (k_sc 2 (by decide) hi hL (by decide)) dL_law_430 ?_
  refine k_Vi (wr := (w_X ax (ap 0) (af 0) (ag 0) (ay 0) tx) ++ (w_P k ap sP) ++ (w_F k af (ap 0) (al 0) sF) ++ (w_L k al 100 sL) ++ (w_F k ag (ap 0) (ah 0) sG) ++ (w_L k ah 0 sH) ++ (w_Y k ay (af 0) sY sJ)) (ws' := lw_w k ax ap af al ag ah ay am sP sF sL sG sH sY sJ tx sM) (Rv := (f_X5_house sM (xs (nI i + 1).toNatClampNeg) (xs (nI i + 2).toNatClampNeg))) (rest := [.int (f_X4_house tx sP sF (xs (nI i + 1).toNatClampNeg) (xs (nI i + 2).toNatClampNeg))]) ⟨hx, hb, hml, hown, hts⟩ hK hA hP hD hS (c_X5_house l k am sM (xs (nI i + 1).toNatClampNeg) (xs (nI i + 2).toNatClampNeg) (m_T hR) (m_nm hR)) (cwV 2 hts gL_law_X5_house rfl rfl rfl (by decide +kernel) ⟨Nat.le_of_ble_eq_true rfl, Nat.le_of_ble_eq_true rfl⟩) (va_recv hK hP (ci := 5) (q0 := 40) rfl rfl) rfl hl.1 rfl (Nat.le_of_ble_eq_true rfl) dL_law_431 (Nat.le_refl _) (Nat.le_refl _) [40, 41, 42, 43, 44, 45, 46, 47, 48, 49, 50, 51, 52, 53, 54, 55, 56, 57, 58, 59, 60, 61] [0, 1, 2, 3, 4, 5, 6, 7, 8, 9, 10, 11, 12, 13, 14, 15, 16, 17, 18, 19, 20, 21, 22, 23, 24, 25, 26, 27, 28, 29, 30, 31, 32, 33, 34, 35, 36, 37, 38, 39] [0, 1, 2, 3, 4, 5, 6, 7, 8, 9, 10, 11, 12, 13, 14, 15, 16, 17, 18, 19, 20, 21, 22, 23, 24, 25, 26, 27, 28, 29, 30, 31, 32, 33, 34, 35, 36, 37, 38, 39, 40, 41, 42, 43, 44, 45, 46, 47, 48, 49, 50, 51, 52, 53, 54, 55, 56, 57, 58, 59, 60, 61] rfl rfl rfl (by decide) rfl rfl rfl (fun H locs hP hD hS => ?_)
  refine lv_icmp_eq (tgt := 936) hx hb dL_law_434 (by decide) (fun c2 => ?_) (fun c2 => ?_)
  · exact hk sP sF sL sG sH sY sJ tx sM H locs (hR) hP hD hS
  · exact absurd (sim_house hR (xs (nI i + 1).toNatClampNeg) (xs (nI i + 2).toNatClampNeg)) c2
set_option maxHeartbeats 4000000 in
set_option maxRecDepth 100000 in
theorem lawc_holds {p : Program} {l : Launch} {e : Env} {s : State} {m : MethodId} {below : List Frame} {meth : Method} {c : Code} {k : K_X} {b L : Nat} {xs : Nat → Int32} (hL : L ≤ 2048) (C0 : lw_At p s m meth c b L xs) (hK : k_K k s) {ax : Nat} {ap af al ag ah ay am : Nat → Nat} {i : Nat} (hi : i + 4 ≤ L) (sP sF sL sG sH sY : Nat → Nat → Int32) (sJ : Nat → Int64) (tx : Int32) (sM : Nat → Nat → Int32) (hR : REL sP sF sL sY sJ tx sM) (H : Heap) (locs : List Loc) (ls : Array Slot) (hP : va_P k.1 vwCl (lw_w k ax ap af al ag ah ay am sP sF sL sG sH sY sJ tx sM) H) (hD : va_D (fun q : Nat => s.heap.size ≤ q) (lw_w k ax ap af al ag ah ay am sP sF sL sG sH sY sJ tx sM)) (hS : va_S (fun q : Nat => s.heap.size ≤ q) s.heap H locs) (hl : lv_has ls 4 [(0, .ref b), (1, .ref ax), (2, .ref (am 0)), (3, .int (nI i))]) (hk : ∀ (sP sF sL sG sH sY : Nat → Nat → Int32) (sJ : Nat → Int64) (tx : Int32) (sM : Nat → Nat → Int32) (H : Heap) (locs : List Loc), REL sP sF sL sY sJ tx sM → va_P k.1 vwCl (lw_w k ax ap af al ag ah ay am sP sF sL sG sH sY sJ tx sM) H → va_D (fun q : Nat => s.heap.size ≤ q) (lw_w k ax ap af al ag ah ay am sP sF sL sG sH sY sJ tx sM) → va_S (fun q : Nat => s.heap.size ≤ q) s.heap H locs → W p l e room_1 s m #[Value.ref b] below meth c H locs 600000 7302250 (lw_Z below #[Value.ref b] s) (F0 m 936 ls [])) : W p l e room_1 s m #[Value.ref b] below meth c H locs 600000 7302250 (lw_Z below #[Value.ref b] s) (F0 m 439 ls []) := by
  obtain ⟨hx, hb, hr, hml, hown, hts0, hX, hbl, hlocks, hgv⟩ := C0
  have hts := fun w h => hts0 w (wsL_law_in w h)
  have hown : s.vm.findClass RL = some m.cls := hown
  have hA : ∀ q : Nat, s.heap.size ≤ q → (fun q : Nat => s.heap.size ≤ q) q := fun _ h => h
  have hbA : ¬ (fun q : Nat => s.heap.size ≤ q) b := Nat.not_le.mpr hbl
  refine lv_aload_n hx hb dL_law_439 rfl (lv_at hl 1 rfl) ?_
  refine lv_aload_n hx hb dL_law_440 rfl (lv_at hl 0 rfl) ?_
  refine lv_iload_n hx hb dL_law_441 rfl (lv_at hl 3 rfl) ?_
  refine lv_iconst (v := 1) hx hb dL_law_442 (by decide) ?_
  refine lv_iadd hx hb dL_law_443 ?_
  refine va_sld hx hb hX hbl hbA hS (k_sc 1 (by decide) hi hL (by decide)) dL_law_444 ?_
  refine lv_aload_n hx hb dL_law_445 rfl (lv_at hl 0 rfl) ?_
  refine lv_iload_n hx hb dL_law_446 rfl (lv_at hl 3 rfl) ?_
  refine lv_iconst (v := 2) hx hb dL_law_447 (by decide) ?_
  refine lv_iadd hx hb dL_law_448 ?_
  refine va_sld hx hb hX hbl hbA hS (k_sc 2 (by decide) hi hL (by decide)) dL_law_449 ?_
  refine k_Vi (wr := (w_F k af (ap 0) (al 0) sF) ++ (w_L k al 100 sL) ++ (w_F k ag (ap 0) (ah 0) sG) ++ (w_L k ah 0 sH) ++ (w_Y k ay (af 0) sY sJ) ++ (w_M k am sM)) (ws' := lw_w k ax ap af al ag ah ay am sP sF sL sG sH sY sJ tx sM) (Rv := (f_X4_holds tx sP (xs (nI i + 1).toNatClampNeg) (xs (nI i + 2).toNatClampNeg))) (rest := []) ⟨hx, hb, hml, hown, hts⟩ hK hA hP hD hS (c_X4_holds l k ax ap (af 0) (ag 0) (ay 0) tx sP (xs (nI i + 1).toNatClampNeg) (xs (nI i + 2).toNatClampNeg) (rel_ns hR) (rel_nm hR)) (cwV 2 hts gL_law_X4_holds rfl rfl rfl (by decide +kernel) ⟨Nat.le_of_ble_eq_true rfl, Nat.le_of_ble_eq_true rfl⟩) (va_recv hK hP (ci := 4) (q0 := 0) rfl rfl) rfl hl.1 rfl (Nat.le_of_ble_eq_true rfl) dL_law_450 (Nat.le_refl _) (Nat.le_refl _) [0, 1, 2, 3, 4, 5, 6, 7, 8, 9, 10, 11, 12, 13, 14, 15, 16, 17, 18] [19, 20, 21, 22, 23, 24, 25, 26, 27, 28, 29, 30, 31, 32, 33, 34, 35, 36, 37, 38, 39, 40, 41, 42, 43, 44, 45, 46, 47, 48, 49, 50, 51, 52, 53, 54, 55, 56, 57, 58, 59, 60, 61] [43, 44, 45, 46, 47, 48, 49, 50, 51, 52, 53, 54, 55, 56, 57, 58, 59, 60, 61, 0, 1, 2, 3, 4, 5, 6, 7, 8, 9, 10, 11, 12, 13, 14, 15, 16, 17, 18, 19, 20, 21, 22, 23, 24, 25, 26, 27, 28, 29, 30, 31, 32, 33, 34, 35, 36, 37, 38, 39, 40, 41, 42] rfl rfl rfl (by decide) rfl rfl rfl (fun H locs hP hD hS => ?_)
  refine lv_aload_n hx hb dL_law_453 rfl (lv_at hl 2 rfl) ?_
  refine lv_aload_n hx hb dL_law_454 rfl (lv_at hl 0 rfl) ?_
  refine lv_iload_n hx hb dL_law_455 rfl (lv_at hl 3 rfl) ?_
  refine lv_iconst (v := 1) hx hb dL_law_456 (by decide) ?_
  refine lv_iadd hx hb dL_law_457 ?_
  refine va_sld hx hb hX hbl hbA hS (k_sc 1 (by decide) hi hL (by decide)) dL_law_458 ?_
  refine lv_aload_n hx hb dL_law_459 rfl (lv_at hl 0 rfl) ?_
  refine lv_iload_n hx hb dL_law_460 rfl (lv_at hl 3 rfl) ?_
  refine lv_iconst (v := 2) hx hb dL_law_461 (by decide) ?_
  refine lv_iadd hx hb dL_law_462 ?_
  refine va_sld hx hb hX hbl hbA hS (k_sc 2 (by decide) hi hL (by decide)) dL_law_463 ?_
  refine k_Vi (wr := (w_X ax (ap 0) (af 0) (ag 0) (ay 0) tx) ++ (w_P k ap sP) ++ (w_F k af (ap 0) (al 0) sF) ++ (w_L k al 100 sL) ++ (w_F k ag (ap 0) (ah 0) sG) ++ (w_L k ah 0 sH) ++ (w_Y k ay (af 0) sY sJ)) (ws' := lw_w k ax ap af al ag ah ay am sP sF sL sG sH sY sJ tx sM) (Rv := (f_X5_holds sM (xs (nI i + 1).toNatClampNeg) (xs (nI i + 2).toNatClampNeg))) (rest := [.int (f_X4_holds tx sP (xs (nI i + 1).toNatClampNeg) (xs (nI i + 2).toNatClampNeg))]) ⟨hx, hb, hml, hown, hts⟩ hK hA hP hD hS (c_X5_holds l k am sM (xs (nI i + 1).toNatClampNeg) (xs (nI i + 2).toNatClampNeg) (m_T hR) (m_ns hR) (m_nm hR)) (cwV 2 hts gL_law_X5_holds rfl rfl rfl (by decide +kernel) ⟨Nat.le_of_ble_eq_true rfl, Nat.le_of_ble_eq_true rfl⟩) (va_recv hK hP (ci := 5) (q0 := 40) rfl rfl) rfl hl.1 rfl (Nat.le_of_ble_eq_true rfl) dL_law_464 (Nat.le_refl _) (Nat.le_refl _) [40, 41, 42, 43, 44, 45, 46, 47, 48, 49, 50, 51, 52, 53, 54, 55, 56, 57, 58, 59, 60, 61] [0, 1, 2, 3, 4, 5, 6, 7, 8, 9, 10, 11, 12, 13, 14, 15, 16, 17, 18, 19, 20, 21, 22, 23, 24, 25, 26, 27, 28, 29, 30, 31, 32, 33, 34, 35, 36, 37, 38, 39] [0, 1, 2, 3, 4, 5, 6, 7, 8, 9, 10, 11, 12, 13, 14, 15, 16, 17, 18, 19, 20, 21, 22, 23, 24, 25, 26, 27, 28, 29, 30, 31, 32, 33, 34, 35, 36, 37, 38, 39, 40, 41, 42, 43, 44, 45, 46, 47, 48, 49, 50, 51, 52, 53, 54, 55, 56, 57, 58, 59, 60, 61] rfl rfl rfl (by decide) rfl rfl rfl (fun H locs hP hD hS => ?_)
  refine lv_icmp_eq (tgt := 936) hx hb dL_law_467 (by decide) (fun c2 => ?_) (fun c2 => ?_)
  · exact hk sP sF sL sG sH sY sJ tx sM H locs (hR) hP hD hS
  · exact absurd (sim_holds hR (xs (nI i + 1).toNatClampNeg) (xs (nI i + 2).toNatClampNeg)) c2
set_option maxHeartbeats 4000000 in
set_option maxRecDepth 100000 in
theorem lawc_offer {p : Program} {l : Launch} {e : Env} {s : State} {m : MethodId} {below : List Frame} {meth : Method} {c : Code} {k : K_X} {b L : Nat} {xs : Nat → Int32} (hL : L ≤ 2048) (C0 : lw_At p s m meth c b L xs) (hK : k_K k s) {ax : Nat} {ap af al ag ah ay am : Nat → Nat} {i : Nat} (hi : i + 4 ≤ L) (sP sF sL sG sH sY : Nat → Nat → Int32) (sJ : Nat → Int64) (tx : Int32) (sM : Nat → Nat → Int32) (hR : REL sP sF sL sY sJ tx sM) (H : Heap) (locs : List Loc) (ls : Array Slot) (hP : va_P k.1 vwCl (lw_w k ax ap af al ag ah ay am sP sF sL sG sH sY sJ tx sM) H) (hD : va_D (fun q : Nat => s.heap.size ≤ q) (lw_w k ax ap af al ag ah ay am sP sF sL sG sH sY sJ tx sM)) (hS : va_S (fun q : Nat => s.heap.size ≤ q) s.heap H locs) (hl : lv_has ls 4 [(0, .ref b), (1, .ref ax), (2, .ref (am 0)), (3, .int (nI i))]) (hk : ∀ (sP sF sL sG sH sY : Nat → Nat → Int32) (sJ : Nat → Int64) (tx : Int32) (sM : Nat → Nat → Int32) (H : Heap) (locs : List Loc), REL sP sF sL sY sJ tx sM → va_P k.1 vwCl (lw_w k ax ap af al ag ah ay am sP sF sL sG sH sY sJ tx sM) H → va_D (fun q : Nat => s.heap.size ≤ q) (lw_w k ax ap af al ag ah ay am sP sF sL sG sH sY sJ tx sM) → va_S (fun q : Nat => s.heap.size ≤ q) s.heap H locs → W p l e room_1 s m #[Value.ref b] below meth c H locs 600000 7302250 (lw_Z below #[Value.ref b] s) (F0 m 936 ls [])) : W p l e room_1 s m #[Value.ref b] below meth c H locs 600000 7302250 (lw_Z below #[Value.ref b] s) (F0 m 472 ls []) := by
  obtain ⟨hx, hb, hr, hml, hown, hts0, hX, hbl, hlocks, hgv⟩ := C0
  have hts := fun w h => hts0 w (wsL_law_in w h)
  have hown : s.vm.findClass RL = some m.cls := hown
  have hA : ∀ q : Nat, s.heap.size ≤ q → (fun q : Nat => s.heap.size ≤ q) q := fun _ h => h
  have hbA : ¬ (fun q : Nat => s.heap.size ≤ q) b := Nat.not_le.mpr hbl
  refine lv_aload_n hx hb dL_law_472 rfl (lv_at hl 1 rfl) ?_
  refine lv_aload_n hx hb dL_law_473 rfl (lv_at hl 0 rfl) ?_
  refine lv_iload_n hx hb dL_law_474 rfl (lv_at hl 3 rfl) ?_
  refine lv_iconst (v := 1) hx hb dL_law_475 (by decide) ?_
  refine lv_iadd hx hb dL_law_476 ?_
  refine va_sld hx hb hX hbl hbA hS (k_sc 1 (by decide) hi hL (by decide)) dL_law_477 ?_
  refine lv_aload_n hx hb dL_law_478 rfl (lv_at hl 0 rfl) ?_
  refine lv_iload_n hx hb dL_law_479 rfl (lv_at hl 3 rfl) ?_
  refine lv_iconst (v := 2) hx hb dL_law_480 (by decide) ?_
  refine lv_iadd hx hb dL_law_481 ?_
  refine va_sld hx hb hX hbl hbA hS (k_sc 2 (by decide) hi hL (by decide)) dL_law_482 ?_
  refine k_Vi (wr := (w_F k af (ap 0) (al 0) sF) ++ (w_L k al 100 sL) ++ (w_F k ag (ap 0) (ah 0) sG) ++ (w_L k ah 0 sH) ++ (w_Y k ay (af 0) sY sJ) ++ (w_M k am sM)) (ws' := lw_w k ax ap af al ag ah ay am sP sF sL sG sH sY sJ tx sM) (Rv := (f_X4_offer tx sP (xs (nI i + 1).toNatClampNeg) (xs (nI i + 2).toNatClampNeg))) (rest := []) ⟨hx, hb, hml, hown, hts⟩ hK hA hP hD hS (c_X4_offer l k ax ap (af 0) (ag 0) (ay 0) tx sP (xs (nI i + 1).toNatClampNeg) (xs (nI i + 2).toNatClampNeg) (rel_ns hR) (rel_nm hR)) (cwV 2 hts gL_law_X4_offer rfl rfl rfl (by decide +kernel) ⟨Nat.le_of_ble_eq_true rfl, Nat.le_of_ble_eq_true rfl⟩) (va_recv hK hP (ci := 4) (q0 := 0) rfl rfl) rfl hl.1 rfl (Nat.le_of_ble_eq_true rfl) dL_law_483 (Nat.le_refl _) (Nat.le_refl _) [0, 1, 2, 3, 4, 5, 6, 7, 8, 9, 10, 11, 12, 13, 14, 15, 16, 17, 18] [19, 20, 21, 22, 23, 24, 25, 26, 27, 28, 29, 30, 31, 32, 33, 34, 35, 36, 37, 38, 39, 40, 41, 42, 43, 44, 45, 46, 47, 48, 49, 50, 51, 52, 53, 54, 55, 56, 57, 58, 59, 60, 61] [43, 44, 45, 46, 47, 48, 49, 50, 51, 52, 53, 54, 55, 56, 57, 58, 59, 60, 61, 0, 1, 2, 3, 4, 5, 6, 7, 8, 9, 10, 11, 12, 13, 14, 15, 16, 17, 18, 19, 20, 21, 22, 23, 24, 25, 26, 27, 28, 29, 30, 31, 32, 33, 34, 35, 36, 37, 38, 39, 40, 41, 42] rfl rfl rfl (by decide) rfl rfl rfl (fun H locs hP hD hS => ?_)
  refine lv_aload_n hx hb dL_law_486 rfl (lv_at hl 2 rfl) ?_
  refine lv_aload_n hx hb dL_law_487 rfl (lv_at hl 0 rfl) ?_
  refine lv_iload_n hx hb dL_law_488 rfl (lv_at hl 3 rfl) ?_
  refine lv_iconst (v := 1) hx hb dL_law_489 (by decide) ?_
  refine lv_iadd hx hb dL_law_490 ?_
  refine va_sld hx hb hX hbl hbA hS (k_sc 1 (by decide) hi hL (by decide)) dL_law_491 ?_
  refine lv_aload_n hx hb dL_law_492 rfl (lv_at hl 0 rfl) ?_
  refine lv_iload_n hx hb dL_law_493 rfl (lv_at hl 3 rfl) ?_
  refine lv_iconst (v := 2) hx hb dL_law_494 (by decide) ?_
  refine lv_iadd hx hb dL_law_495 ?_
  refine va_sld hx hb hX hbl hbA hS (k_sc 2 (by decide) hi hL (by decide)) dL_law_496 ?_
  refine k_Vi (wr := (w_X ax (ap 0) (af 0) (ag 0) (ay 0) tx) ++ (w_P k ap sP) ++ (w_F k af (ap 0) (al 0) sF) ++ (w_L k al 100 sL) ++ (w_F k ag (ap 0) (ah 0) sG) ++ (w_L k ah 0 sH) ++ (w_Y k ay (af 0) sY sJ)) (ws' := lw_w k ax ap af al ag ah ay am sP sF sL sG sH sY sJ tx sM) (Rv := (f_X5_offer sM (xs (nI i + 1).toNatClampNeg) (xs (nI i + 2).toNatClampNeg))) (rest := [.int (f_X4_offer tx sP (xs (nI i + 1).toNatClampNeg) (xs (nI i + 2).toNatClampNeg))]) ⟨hx, hb, hml, hown, hts⟩ hK hA hP hD hS (c_X5_offer l k am sM (xs (nI i + 1).toNatClampNeg) (xs (nI i + 2).toNatClampNeg) (m_T hR) (m_ns hR) (m_nm hR)) (cwV 2 hts gL_law_X5_offer rfl rfl rfl (by decide +kernel) ⟨Nat.le_of_ble_eq_true rfl, Nat.le_of_ble_eq_true rfl⟩) (va_recv hK hP (ci := 5) (q0 := 40) rfl rfl) rfl hl.1 rfl (Nat.le_of_ble_eq_true rfl) dL_law_497 (Nat.le_refl _) (Nat.le_refl _) [40, 41, 42, 43, 44, 45, 46, 47, 48, 49, 50, 51, 52, 53, 54, 55, 56, 57, 58, 59, 60, 61] [0, 1, 2, 3, 4, 5, 6, 7, 8, 9, 10, 11, 12, 13, 14, 15, 16, 17, 18, 19, 20, 21, 22, 23, 24, 25, 26, 27, 28, 29, 30, 31, 32, 33, 34, 35, 36, 37, 38, 39] [0, 1, 2, 3, 4, 5, 6, 7, 8, 9, 10, 11, 12, 13, 14, 15, 16, 17, 18, 19, 20, 21, 22, 23, 24, 25, 26, 27, 28, 29, 30, 31, 32, 33, 34, 35, 36, 37, 38, 39, 40, 41, 42, 43, 44, 45, 46, 47, 48, 49, 50, 51, 52, 53, 54, 55, 56, 57, 58, 59, 60, 61] rfl rfl rfl (by decide) rfl rfl rfl (fun H locs hP hD hS => ?_)
  refine lv_icmp_eq (tgt := 936) hx hb dL_law_500 (by decide) (fun c2 => ?_) (fun c2 => ?_)
  · exact hk sP sF sL sG sH sY sJ tx sM H locs (hR) hP hD hS
  · exact absurd (sim_offer hR (xs (nI i + 1).toNatClampNeg) (xs (nI i + 2).toNatClampNeg)) c2
