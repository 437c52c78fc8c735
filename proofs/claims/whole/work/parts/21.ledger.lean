def f_J6_bitCount_0f7a4 (i1 : Int32) : Int32 :=
  (((((((i1 - (((i1.toUInt32 >>> ((1 : Int32).toUInt32 &&& Int32.toUInt32 31)).toInt32) &&& 1431655765)) &&& 858993459) + ((((i1 - (((i1.toUInt32 >>> ((1 : Int32).toUInt32 &&& Int32.toUInt32 31)).toInt32) &&& 1431655765)).toUInt32 >>> ((2 : Int32).toUInt32 &&& Int32.toUInt32 31)).toInt32) &&& 858993459)) + (((((i1 - (((i1.toUInt32 >>> ((1 : Int32).toUInt32 &&& Int32.toUInt32 31)).toInt32) &&& 1431655765)) &&& 858993459) + ((((i1 - (((i1.toUInt32 >>> ((1 : Int32).toUInt32 &&& Int32.toUInt32 31)).toInt32) &&& 1431655765)).toUInt32 >>> ((2 : Int32).toUInt32 &&& Int32.toUInt32 31)).toInt32) &&& 858993459)).toUInt32 >>> ((4 : Int32).toUInt32 &&& Int32.toUInt32 31)).toInt32)) &&& 252645135) + (((((((i1 - (((i1.toUInt32 >>> ((1 : Int32).toUInt32 &&& Int32.toUInt32 31)).toInt32) &&& 1431655765)) &&& 858993459) + ((((i1 - (((i1.toUInt32 >>> ((1 : Int32).toUInt32 &&& Int32.toUInt32 31)).toInt32) &&& 1431655765)).toUInt32 >>> ((2 : Int32).toUInt32 &&& Int32.toUInt32 31)).toInt32) &&& 858993459)) + (((((i1 - (((i1.toUInt32 >>> ((1 : Int32).toUInt32 &&& Int32.toUInt32 31)).toInt32) &&& 1431655765)) &&& 858993459) + ((((i1 - (((i1.toUInt32 >>> ((1 : Int32).toUInt32 &&& Int32.toUInt32 31)).toInt32) &&& 1431655765)).toUInt32 >>> ((2 : Int32).toUInt32 &&& Int32.toUInt32 31)).toInt32) &&& 858993459)).toUInt32 >>> ((4 : Int32).toUInt32 &&& Int32.toUInt32 31)).toInt32)) &&& 252645135).toUInt32 >>> ((8 : Int32).toUInt32 &&& Int32.toUInt32 31)).toInt32)) + ((((((((i1 - (((i1.toUInt32 >>> ((1 : Int32).toUInt32 &&& Int32.toUInt32 31)).toInt32) &&& 1431655765)) &&& 858993459) + ((((i1 - (((i1.toUInt32 >>> ((1 : Int32).toUInt32 &&& Int32.toUInt32 31)).toInt32) &&& 1431655765)).toUInt32 >>> ((2 : Int32).toUInt32 &&& Int32.toUInt32 31)).toInt32) &&& 858993459)) + (((((i1 - (((i1.toUInt32 >>> ((1 : Int32).toUInt32 &&& Int32.toUInt32 31)).toInt32) &&& 1431655765)) &&& 858993459) + ((((i1 - (((i1.toUInt32 >>> ((1 : Int32).toUInt32 &&& Int32.toUInt32 31)).toInt32) &&& 1431655765)).toUInt32 >>> ((2 : Int32).toUInt32 &&& Int32.toUInt32 31)).toInt32) &&& 858993459)).toUInt32 >>> ((4 : Int32).toUInt32 &&& Int32.toUInt32 31)).toInt32)) &&& 252645135) + (((((((i1 - (((i1.toUInt32 >>> ((1 : Int32).toUInt32 &&& Int32.toUInt32 31)).toInt32) &&& 1431655765)) &&& 858993459) + ((((i1 - (((i1.toUInt32 >>> ((1 : Int32).toUInt32 &&& Int32.toUInt32 31)).toInt32) &&& 1431655765)).toUInt32 >>> ((2 : Int32).toUInt32 &&& Int32.toUInt32 31)).toInt32) &&& 858993459)) + (((((i1 - (((i1.toUInt32 >>> ((1 : Int32).toUInt32 &&& Int32.toUInt32 31)).toInt32) &&& 1431655765)) &&& 858993459) + ((((i1 - (((i1.toUInt32 >>> ((1 : Int32).toUInt32 &&& Int32.toUInt32 31)).toInt32) &&& 1431655765)).toUInt32 >>> ((2 : Int32).toUInt32 &&& Int32.toUInt32 31)).toInt32) &&& 858993459)).toUInt32 >>> ((4 : Int32).toUInt32 &&& Int32.toUInt32 31)).toInt32)) &&& 252645135).toUInt32 >>> ((8 : Int32).toUInt32 &&& Int32.toUInt32 31)).toInt32)).toUInt32 >>> ((16 : Int32).toUInt32 &&& Int32.toUInt32 31)).toInt32)) &&& 63
set_option maxHeartbeats 4000000 in
set_option maxRecDepth 100000 in
theorem c_J6_bitCount_0f7a4 (l : Launch) (k : K_X) (i1 : Int32) : k_C l yJ6_bitCount_0f7a4 wsJ6_bitCount_0f7a4 (k_rm 0 0) k [.int i1] (([] : va_W)) (k_qI k (f_J6_bitCount_0f7a4 i1) (([] : va_W))) := by
  refine k_mk (cc := cJ6_bitCount_0f7a4) (maxL := 1) (ret := (some .int)) (by decide) rfl (Nat.le_of_ble_eq_true rfl) ?_
  intro p e s m below meth c A ls C0 hP hD hS hl
  obtain ⟨hx, hb, hr, hts, hown, hlocks, hml, hA, hK⟩ := id C0
  have hown : s.vm.findClass RJ6 = some m.cls := hown
  have hl : lv_has ls 1 [(0, .int i1)] := hl
  refine lv_iload_n hx hb dJ6_bitCount_0f7a4_0 rfl (lv_at hl 0 rfl) ?_
  refine lv_iload_n hx hb dJ6_bitCount_0f7a4_1 rfl (lv_at hl 0 rfl) ?_
  refine lv_iconst (v := 1) hx hb dJ6_bitCount_0f7a4_2 (by decide) ?_
  refine lv_iushr (v := (i1.toUInt32 >>> ((1 : Int32).toUInt32 &&& Int32.toUInt32 31)).toInt32) hx hb dJ6_bitCount_0f7a4_3 rfl ?_
  refine lv_ldcw hx hb hown (k_w hts 1 rfl) dJ6_bitCount_0f7a4_4 ?_
  refine lv_iand hx hb dJ6_bitCount_0f7a4_7 ?_
  refine lv_isub hx hb dJ6_bitCount_0f7a4_8 ?_
  refine lv_istore_n (lv' := [(0, .int (i1 - (((i1.toUInt32 >>> ((1 : Int32).toUInt32 &&& Int32.toUInt32 31)).toInt32) &&& 1431655765)))]) hx hb dJ6_bitCount_0f7a4_9 rfl hl (by decide) rfl (fun ls hl => ?_)
  refine lv_iload_n hx hb dJ6_bitCount_0f7a4_10 rfl (lv_at hl 0 rfl) ?_
  refine lv_ldcw hx hb hown (k_w hts 2 rfl) dJ6_bitCount_0f7a4_11 ?_
  refine lv_iand hx hb dJ6_bitCount_0f7a4_14 ?_
  refine lv_iload_n hx hb dJ6_bitCount_0f7a4_15 rfl (lv_at hl 0 rfl) ?_
  refine lv_iconst (v := 2) hx hb dJ6_bitCount_0f7a4_16 (by decide) ?_
  refine lv_iushr (v := ((i1 - (((i1.toUInt32 >>> ((1 : Int32).toUInt32 &&& Int32.toUInt32 31)).toInt32) &&& 1431655765)).toUInt32 >>> ((2 : Int32).toUInt32 &&& Int32.toUInt32 31)).toInt32) hx hb dJ6_bitCount_0f7a4_17 rfl ?_
  refine lv_ldcw hx hb hown (k_w hts 2 rfl) dJ6_bitCount_0f7a4_18 ?_
  refine lv_iand hx hb dJ6_bitCount_0f7a4_21 ?_
  refine lv_iadd hx hb dJ6_bitCount_0f7a4_22 ?_
  refine lv_istore_n (lv' := [(0, .int (((i1 - (((i1.toUInt32 >>> ((1 : Int32).toUInt32 &&& Int32.toUInt32 31)).toInt32) &&& 1431655765)) &&& 858993459) + ((((i1 - (((i1.toUInt32 >>> ((1 : Int32).toUInt32 &&& Int32.toUInt32 31)).toInt32) &&& 1431655765)).toUInt32 >>> ((2 : Int32).toUInt32 &&& Int32.toUInt32 31)).toInt32) &&& 858993459)))]) hx hb dJ6_bitCount_0f7a4_23 rfl hl (by decide) rfl (fun ls hl => ?_)
  refine lv_iload_n hx hb dJ6_bitCount_0f7a4_24 rfl (lv_at hl 0 rfl) ?_
  refine lv_iload_n hx hb dJ6_bitCount_0f7a4_25 rfl (lv_at hl 0 rfl) ?_
  refine lv_iconst (v := 4) hx hb dJ6_bitCount_0f7a4_26 (by decide) ?_
  refine lv_iushr (v := ((((i1 - (((i1.toUInt32 >>> ((1 : Int32).toUInt32 &&& Int32.toUInt32 31)).toInt32) &&& 1431655765)) &&& 858993459) + ((((i1 - (((i1.toUInt32 >>> ((1 : Int32).toUInt32 &&& Int32.toUInt32 31)).toInt32) &&& 1431655765)).toUInt32 >>> ((2 : Int32).toUInt32 &&& Int32.toUInt32 31)).toInt32) &&& 858993459)).toUInt32 >>> ((4 : Int32).toUInt32 &&& Int32.toUInt32 31)).toInt32) hx hb dJ6_bitCount_0f7a4_27 rfl ?_
  refine lv_iadd hx hb dJ6_bitCount_0f7a4_28 ?_
  refine lv_ldcw hx hb hown (k_w hts 3 rfl) dJ6_bitCount_0f7a4_29 ?_
  refine lv_iand hx hb dJ6_bitCount_0f7a4_32 ?_
  refine lv_istore_n (lv' := [(0, .int (((((i1 - (((i1.toUInt32 >>> ((1 : Int32).toUInt32 &&& Int32.toUInt32 31)).toInt32) &&& 1431655765)) &&& 858993459) + ((((i1 - (((i1.toUInt32 >>> ((1 : Int32).toUInt32 &&& Int32.toUInt32 31)).toInt32) &&& 1431655765)).toUInt32 >>> ((2 : Int32).toUInt32 &&& Int32.toUInt32 31)).toInt32) &&& 858993459)) + (((((i1 - (((i1.toUInt32 >>> ((1 : Int32).toUInt32 &&& Int32.toUInt32 31)).toInt32) &&& 1431655765)) &&& 858993459) + ((((i1 - (((i1.toUInt32 >>> ((1 : Int32).toUInt32 &&& Int32.toUInt32 31)).toInt32) &&& 1431655765)).toUInt32 >>> ((2 : Int32).toUInt32 &&& Int32.toUInt32 31)).toInt32) &&& 858993459)).toUInt32 >>> ((4 : Int32).toUInt32 &&& Int32.toUInt32 31)).toInt32)) &&& 252645135))]) hx hb dJ6_bitCount_0f7a4_33 rfl hl (by decide) rfl (fun ls hl => ?_)
  refine lv_iload_n hx hb dJ6_bitCount_0f7a4_34 rfl (lv_at hl 0 rfl) ?_
  refine lv_iload_n hx hb dJ6_bitCount_0f7a4_35 rfl (lv_at hl 0 rfl) ?_
  refine lv_bipush (v := 8) hx hb dJ6_bitCount_0f7a4_36 (by decide) ?_
  refine lv_iushr (v := ((((((i1 - (((i1.toUInt32 >>> ((1 : Int32).toUInt32 &&& Int32.toUInt32 31)).toInt32) &&& 1431655765)) &&& 858993459) + ((((i1 - (((i1.toUInt32 >>> ((1 : Int32).toUInt32 &&& Int32.toUInt32 31)).toInt32) &&& 1431655765)).toUInt32 >>> ((2 : Int32).toUInt32 &&& Int32.toUInt32 31)).toInt32) &&& 858993459)) + (((((i1 - (((i1.toUInt32 >>> ((1 : Int32).toUInt32 &&& Int32.toUInt32 31)).toInt32) &&& 1431655765)) &&& 858993459) + ((((i1 - (((i1.toUInt32 >>> ((1 : Int32).toUInt32 &&& Int32.toUInt32 31)).toInt32) &&& 1431655765)).toUInt32 >>> ((2 : Int32).toUInt32 &&& Int32.toUInt32 31)).toInt32) &&& 858993459)).toUInt32 >>> ((4 : Int32).toUInt32 &&& Int32.toUInt32 31)).toInt32)) &&& 252645135).toUInt32 >>> ((8 : Int32).toUInt32 &&& Int32.toUInt32 31)).toInt32) hx hb dJ6_bitCount_0f7a4_38 rfl ?_
  refine lv_iadd hx hb dJ6_bitCount_0f7a4_39 ?_
  refine lv_istore_n (lv' := [(0, .int ((((((i1 - (((i1.toUInt32 >>> ((1 : Int32).toUInt32 &&& Int32.toUInt32 31)).toInt32) &&& 1431655765)) &&& 858993459) + ((((i1 - (((i1.toUInt32 >>> ((1 : Int32).toUInt32 &&& Int32.toUInt32 31)).toInt32) &&& 1431655765)).toUInt32 >>> ((2 : Int32).toUInt32 &&& Int32.toUInt32 31)).toInt32) &&& 858993459)) + (((((i1 - (((i1.toUInt32 >>> ((1 : Int32).toUInt32 &&& Int32.toUInt32 31)).toInt32) &&& 1431655765)) &&& 858993459) + ((((i1 - (((i1.toUInt32 >>> ((1 : Int32).toUInt32 &&& Int32.toUInt32 31)).toInt32) &&& 1431655765)).toUInt32 >>> ((2 : Int32).toUInt32 &&& Int32.toUInt32 31)).toInt32) &&& 858993459)).toUInt32 >>> ((4 : Int32).toUInt32 &&& Int32.toUInt32 31)).toInt32)) &&& 252645135) + (((((((i1 - (((i1.toUInt32 >>> ((1 : Int32).toUInt32 &&& Int32.toUInt32 31)).toInt32) &&& 1431655765)) &&& 858993459) + ((((i1 - (((i1.toUInt32 >>> ((1 : Int32).toUInt32 &&& Int32.toUInt32 31)).toInt32) &&& 1431655765)).toUInt32 >>> ((2 : Int32).toUInt32 &&& Int32.toUInt32 31)).toInt32) &&& 858993459)) + (((((i1 - (((i1.toUInt32 >>> ((1 : Int32).toUInt32 &&& Int32.toUInt32 31)).toInt32) &&& 1431655765)) &&& 858993459) + ((((i1 - (((i1.toUInt32 >>> ((1 : Int32).toUInt32 &&& Int32.toUInt32 31)).toInt32) &&& 1431655765)).toUInt32 >>> ((2 : Int32).toUInt32 &&& Int32.toUInt32 31)).toInt32) &&& 858993459)).toUInt32 >>> ((4 : Int32).toUInt32 &&& Int32.toUInt32 31)).toInt32)) &&& 252645135).toUInt32 >>> ((8 : Int32).toUInt32 &&& Int32.toUInt32 31)).toInt32)))]) hx hb dJ6_bitCount_0f7a4_40 rfl hl (by decide) rfl (fun ls hl => ?_)
  refine lv_iload_n hx hb dJ6_bitCount_0f7a4_41 rfl (lv_at hl 0 rfl) ?_
  refine lv_iload_n hx hb dJ6_bitCount_0f7a4_42 rfl (lv_at hl 0 rfl) ?_
  refine lv_bipush (v := 16) hx hb dJ6_bitCount_0f7a4_43 (by decide) ?_
  refine lv_iushr (v := (((((((i1 - (((i1.toUInt32 >>> ((1 : Int32).toUInt32 &&& Int32.toUInt32 31)).toInt32) &&& 1431655765)) &&& 858993459) + ((((i1 - (((i1.toUInt32 >>> ((1 : Int32).toUInt32 &&& Int32.toUInt32 31)).toInt32) &&& 1431655765)).toUInt32 >>> ((2 : Int32).toUInt32 &&& Int32.toUInt32 31)).toInt32) &&& 858993459)) + (((((i1 - (((i1.toUInt32 >>> ((1 : Int32).toUInt32 &&& Int32.toUInt32 31)).toInt32) &&& 1431655765)) &&& 858993459) + ((((i1 - (((i1.toUInt32 >>> ((1 : Int32).toUInt32 &&& Int32.toUInt32 31)).toInt32) &&& 1431655765)).toUInt32 >>> ((2 : Int32).toUInt32 &&& Int32.toUInt32 31)).toInt32) &&& 858993459)).toUInt32 >>> ((4 : Int32).toUInt32 &&& Int32.toUInt32 31)).toInt32)) &&& 252645135) + (((((((i1 - (((i1.toUInt32 >>> ((1 : Int32).toUInt32 &&& Int32.toUInt32 31)).toInt32) &&& 1431655765)) &&& 858993459) + ((((i1 - (((i1.toUInt32 >>> ((1 : Int32).toUInt32 &&& Int32.toUInt32 31)).toInt32) &&& 1431655765)).toUInt32 >>> ((2 : Int32).toUInt32 &&& Int32.toUInt32 31)).toInt32) &&& 858993459)) + (((((i1 - (((i1.toUInt32 >>> ((1 : Int32).toUInt32 &&& Int32.toUInt32 31)).toInt32) &&& 1431655765)) &&& 858993459) + ((((i1 - (((i1.toUInt32 >>> ((1 : Int32).toUInt32 &&& Int32.toUInt32 31)).toInt32) &&& 1431655765)).toUInt32 >>> ((2 : Int32).toUInt32 &&& Int32.toUInt32 31)).toInt32) &&& 858993459)).toUInt32 >>> ((4 : Int32).toUInt32 &&& Int32.toUInt32 31)).toInt32)) &&& 252645135).toUInt32 >>> ((8 : Int32).toUInt32 &&& Int32.toUInt32 31)).toInt32)).toUInt32 >>> ((16 : Int32).toUInt32 &&& Int32.toUInt32 31)).toInt32) hx hb dJ6_bitCount_0f7a4_45 rfl ?_
  refine lv_iadd hx hb dJ6_bitCount_0f7a4_46 ?_
  refine lv_istore_n (lv' := [(0, .int (((((((i1 - (((i1.toUInt32 >>> ((1 : Int32).toUInt32 &&& Int32.toUInt32 31)).toInt32) &&& 1431655765)) &&& 858993459) + ((((i1 - (((i1.toUInt32 >>> ((1 : Int32).toUInt32 &&& Int32.toUInt32 31)).toInt32) &&& 1431655765)).toUInt32 >>> ((2 : Int32).toUInt32 &&& Int32.toUInt32 31)).toInt32) &&& 858993459)) + (((((i1 - (((i1.toUInt32 >>> ((1 : Int32).toUInt32 &&& Int32.toUInt32 31)).toInt32) &&& 1431655765)) &&& 858993459) + ((((i1 - (((i1.toUInt32 >>> ((1 : Int32).toUInt32 &&& Int32.toUInt32 31)).toInt32) &&& 1431655765)).toUInt32 >>> ((2 : Int32).toUInt32 &&& Int32.toUInt32 31)).toInt32) &&& 858993459)).toUInt32 >>> ((4 : Int32).toUInt32 &&& Int32.toUInt32 31)).toInt32)) &&& 252645135) + (((((((i1 - (((i1.toUInt32 >>> ((1 : Int32).toUInt32 &&& Int32.toUInt32 31)).toInt32) &&& 1431655765)) &&& 858993459) + ((((i1 - (((i1.toUInt32 >>> ((1 : Int32).toUInt32 &&& Int32.toUInt32 31)).toInt32) &&& 1431655765)).toUInt32 >>> ((2 : Int32).toUInt32 &&& Int32.toUInt32 31)).toInt32) &&& 858993459)) + (((((i1 - (((i1.toUInt32 >>> ((1 : Int32).toUInt32 &&& Int32.toUInt32 31)).toInt32) &&& 1431655765)) &&& 858993459) + ((((i1 - (((i1.toUInt32 >>> ((1 : Int32).toUInt32 &&& Int32.toUInt32 31)).toInt32) &&& 1431655765)).toUInt32 >>> ((2 : Int32).toUInt32 &&& Int32.toUInt32 31)).toInt32) &&& 858993459)).toUInt32 >>> ((4 : Int32).toUInt32 &&& Int32.toUInt32 31)).toInt32)) &&& 252645135).toUInt32 >>> ((8 : Int32).toUInt32 &&& Int32.toUInt32 31)).toInt32)) + ((((((((i1 - (((i1.toUInt32 >>> ((1 : Int32).toUInt32 &&& Int32.toUInt32 31)).toInt32) &&& 1431655765)) &&& 858993459) + ((((i1 - (((i1.toUInt32 >>> ((1 : Int32).toUInt32 &&& Int32.toUInt32 31)).toInt32) &&& 1431655765)).toUInt32 >>> ((2 : Int32).toUInt32 &&& Int32.toUInt32 31)).toInt32) &&& 858993459)) + (((((i1 - (((i1.toUInt32 >>> ((1 : Int32).toUInt32 &&& Int32.toUInt32 31)).toInt32) &&& 1431655765)) &&& 858993459) + ((((i1 - (((i1.toUInt32 >>> ((1 : Int32).toUInt32 &&& Int32.toUInt32 31)).toInt32) &&& 1431655765)).toUInt32 >>> ((2 : Int32).toUInt32 &&& Int32.toUInt32 31)).toInt32) &&& 858993459)).toUInt32 >>> ((4 : Int32).toUInt32 &&& Int32.toUInt32 31)).toInt32)) &&& 252645135) + (((((((i1 - (((i1.toUInt32 >>> ((1 : Int32).toUInt32 &&& Int32.toUInt32 31)).toInt32) &&& 1431655765)) &&& 858993459) + ((((i1 - (((i1.toUInt32 >>> ((1 : Int32).toUInt32 &&& Int32.toUInt32 31)).toInt32) &&& 1431655765)).toUInt32 >>> ((2 : Int32).toUInt32 &&& Int32.toUInt32 31)).toInt32) &&& 858993459)) + (((((i1 - (((i1.toUInt32 >>> ((1 : Int32).toUInt32 &&& Int32.toUInt32 31)).toInt32) &&& 1431655765)) &&& 858993459) + ((((i1 - (((i1.toUInt32 >>> ((1 : Int32).toUInt32 &&& Int32.toUInt32 31)).toInt32) &&& 1431655765)).toUInt32 >>> ((2 : Int32).toUInt32 &&& Int32.toUInt32 31)).toInt32) &&& 858993459)).toUInt32 >>> ((4 : Int32).toUInt32 &&& Int32.toUInt32 31)).toInt32)) &&& 252645135).toUInt32 >>> ((8 : Int32).toUInt32 &&& Int32.toUInt32 31)).toInt32)).toUInt32 >>> ((16 : Int32).toUInt32 &&& Int32.toUInt32 31)).toInt32)))]) hx hb dJ6_bitCount_0f7a4_47 rfl hl (by decide) rfl (fun ls hl => ?_)
  refine lv_iload_n hx hb dJ6_bitCount_0f7a4_48 rfl (lv_at hl 0 rfl) ?_
  refine lv_bipush (v := 63) hx hb dJ6_bitCount_0f7a4_49 (by decide) ?_
  refine lv_iand hx hb dJ6_bitCount_0f7a4_51 ?_
  have ef : f_J6_bitCount_0f7a4 i1 = (((((((i1 - (((i1.toUInt32 >>> ((1 : Int32).toUInt32 &&& Int32.toUInt32 31)).toInt32) &&& 1431655765)) &&& 858993459) + ((((i1 - (((i1.toUInt32 >>> ((1 : Int32).toUInt32 &&& Int32.toUInt32 31)).toInt32) &&& 1431655765)).toUInt32 >>> ((2 : Int32).toUInt32 &&& Int32.toUInt32 31)).toInt32) &&& 858993459)) + (((((i1 - (((i1.toUInt32 >>> ((1 : Int32).toUInt32 &&& Int32.toUInt32 31)).toInt32) &&& 1431655765)) &&& 858993459) + ((((i1 - (((i1.toUInt32 >>> ((1 : Int32).toUInt32 &&& Int32.toUInt32 31)).toInt32) &&& 1431655765)).toUInt32 >>> ((2 : Int32).toUInt32 &&& Int32.toUInt32 31)).toInt32) &&& 858993459)).toUInt32 >>> ((4 : Int32).toUInt32 &&& Int32.toUInt32 31)).toInt32)) &&& 252645135) + (((((((i1 - (((i1.toUInt32 >>> ((1 : Int32).toUInt32 &&& Int32.toUInt32 31)).toInt32) &&& 1431655765)) &&& 858993459) + ((((i1 - (((i1.toUInt32 >>> ((1 : Int32).toUInt32 &&& Int32.toUInt32 31)).toInt32) &&& 1431655765)).toUInt32 >>> ((2 : Int32).toUInt32 &&& Int32.toUInt32 31)).toInt32) &&& 858993459)) + (((((i1 - (((i1.toUInt32 >>> ((1 : Int32).toUInt32 &&& Int32.toUInt32 31)).toInt32) &&& 1431655765)) &&& 858993459) + ((((i1 - (((i1.toUInt32 >>> ((1 : Int32).toUInt32 &&& Int32.toUInt32 31)).toInt32) &&& 1431655765)).toUInt32 >>> ((2 : Int32).toUInt32 &&& Int32.toUInt32 31)).toInt32) &&& 858993459)).toUInt32 >>> ((4 : Int32).toUInt32 &&& Int32.toUInt32 31)).toInt32)) &&& 252645135).toUInt32 >>> ((8 : Int32).toUInt32 &&& Int32.toUInt32 31)).toInt32)) + ((((((((i1 - (((i1.toUInt32 >>> ((1 : Int32).toUInt32 &&& Int32.toUInt32 31)).toInt32) &&& 1431655765)) &&& 858993459) + ((((i1 - (((i1.toUInt32 >>> ((1 : Int32).toUInt32 &&& Int32.toUInt32 31)).toInt32) &&& 1431655765)).toUInt32 >>> ((2 : Int32).toUInt32 &&& Int32.toUInt32 31)).toInt32) &&& 858993459)) + (((((i1 - (((i1.toUInt32 >>> ((1 : Int32).toUInt32 &&& Int32.toUInt32 31)).toInt32) &&& 1431655765)) &&& 858993459) + ((((i1 - (((i1.toUInt32 >>> ((1 : Int32).toUInt32 &&& Int32.toUInt32 31)).toInt32) &&& 1431655765)).toUInt32 >>> ((2 : Int32).toUInt32 &&& Int32.toUInt32 31)).toInt32) &&& 858993459)).toUInt32 >>> ((4 : Int32).toUInt32 &&& Int32.toUInt32 31)).toInt32)) &&& 252645135) + (((((((i1 - (((i1.toUInt32 >>> ((1 : Int32).toUInt32 &&& Int32.toUInt32 31)).toInt32) &&& 1431655765)) &&& 858993459) + ((((i1 - (((i1.toUInt32 >>> ((1 : Int32).toUInt32 &&& Int32.toUInt32 31)).toInt32) &&& 1431655765)).toUInt32 >>> ((2 : Int32).toUInt32 &&& Int32.toUInt32 31)).toInt32) &&& 858993459)) + (((((i1 - (((i1.toUInt32 >>> ((1 : Int32).toUInt32 &&& Int32.toUInt32 31)).toInt32) &&& 1431655765)) &&& 858993459) + ((((i1 - (((i1.toUInt32 >>> ((1 : Int32).toUInt32 &&& Int32.toUInt32 31)).toInt32) &&& 1431655765)).toUInt32 >>> ((2 : Int32).toUInt32 &&& Int32.toUInt32 31)).toInt32) &&& 858993459)).toUInt32 >>> ((4 : Int32).toUInt32 &&& Int32.toUInt32 31)).toInt32)) &&& 252645135).toUInt32 >>> ((8 : Int32).toUInt32 &&& Int32.toUInt32 31)).toInt32)).toUInt32 >>> ((16 : Int32).toUInt32 &&& Int32.toUInt32 31)).toInt32)) &&& 63 := by
    rw [f_J6_bitCount_0f7a4]
  exact k_reti hx hb hr hK hP hD hS hlocks dJ6_bitCount_0f7a4_52 (by rw [ef])
def g_J7_fill_53178_lp (n : Nat) (i1 : Int32) : Nat → Nat → (Nat → Int32) → (Nat → Int32)
  | 0, j, Ar => Ar
  | r + 1, j, Ar => g_J7_fill_53178_lp n i1 r (j + 1) (upd Ar (nI j).toNatClampNeg i1)
set_option maxHeartbeats 4000000 in
set_option maxRecDepth 100000 in
theorem lp_J7_fill_53178_lp {p : Program} {l : Launch} {e : Env} {s : State} {m : MethodId} {below : List Frame} {meth : Method} {c : Code} {A : Nat → Prop} {Q : State → Prop} {av : Array Value} (k : K_X) (aa : Nat → Nat) (n : Nat) (i1 : Int32) (C0 : k_Cx p s m meth c k cJ7_fill_53178 none wsJ7_fill_53178 RJ7 4 av A) (hn : n ≤ 1000) : ∀ (r j : Nat) (Ar : Nat → Int32) (H : Heap) (locs : List Loc) (ls : Array Slot), j + r = n → va_P k.1 vwCl (w_A k aa n Ar) H → va_D A (w_A k aa n Ar) → va_S A s.heap H locs → lv_has ls 4 [(0, .ref (aa 0)), (1, .int i1), (2, .int (nI j)), (3, .int (nI n))] → (∀ (H : Heap) (locs : List Loc) (ls : Array Slot), va_P k.1 vwCl (w_A k aa n (g_J7_fill_53178_lp n i1 r j Ar)) H → va_D A (w_A k aa n (g_J7_fill_53178_lp n i1 r j Ar)) → va_S A s.heap H locs → lv_has ls 4 [(0, .ref (aa 0)), (1, .int i1), (3, .int (nI n))] → W p l e (k_rm 0 0) s m av below meth c H locs 0 0 Q (F0 m 20 ls [])) → W p l e (k_rm 0 0) s m av below meth c H locs 0 0 Q (F0 m 5 ls []) := by
  obtain ⟨hx, hb, hr, hts, hown, hlocks, hml, hA, hK⟩ := id C0
  intro r
  induction r with
  | zero =>
    intro j Ar H locs ls hj hP hD hS hl hQ
    refine lv_iload_n hx hb dJ7_fill_53178_5 rfl (lv_at hl 2 rfl) ?_
    refine lv_iload_n hx hb dJ7_fill_53178_6 rfl (lv_at hl 3 rfl) ?_
    refine lv_icmp_ge (tgt := 20) hx hb dJ7_fill_53178_7 (by decide) (fun c_1 => ?_) (fun c_1 => ?_)
    rotate_left
    · exact absurd (nI_le (by omega) (by omega)) c_1
    have eg : g_J7_fill_53178_lp n i1 0 j Ar = Ar := by
      rw [g_J7_fill_53178_lp]
    rw [eg] at hQ
    exact hQ _ _ _ hP hD hS (lv_sub hl [0, 1, 3] rfl)
  | succ r ih =>
    intro j Ar H locs ls hj hP hD hS hl hQ
    refine lv_iload_n hx hb dJ7_fill_53178_5 rfl (lv_at hl 2 rfl) ?_
    refine lv_iload_n hx hb dJ7_fill_53178_6 rfl (lv_at hl 3 rfl) ?_
    refine lv_icmp_ge (tgt := 20) hx hb dJ7_fill_53178_7 (by decide) (fun c_1 => ?_) (fun c_1 => ?_)
    · exact absurd c_1 (nI_ge (by omega) (by omega))
    refine lv_aload_n hx hb dJ7_fill_53178_10 rfl (lv_at hl 0 rfl) ?_
    refine lv_iload_n hx hb dJ7_fill_53178_11 rfl (lv_at hl 2 rfl) ?_
    refine lv_iload_n hx hb dJ7_fill_53178_12 rfl (lv_at hl 1 rfl) ?_
    refine va_iast (f := Ar) hx hb hK hP hD hS 0 0 rfl rfl (vp_in_nI (by omega) (by omega)) dJ7_fill_53178_13 (fun H locs hP hD hS => ?_)
    have hP := k_cP (w_A_0 k aa n Ar (upd Ar (nI j).toNatClampNeg i1)) hP
    have hD := k_cD (w_A_0 k aa n Ar (upd Ar (nI j).toNatClampNeg i1)) hD
    refine lv_iinc (v := nI (j + 1)) (lv' := [(2, .int (nI (j + 1))), (0, .ref (aa 0)), (1, .int i1), (3, .int (nI n))]) hx hb dJ7_fill_53178_14 hl (k := 2) rfl (nI_1 j) (by decide) rfl (fun ls hl => ?_)
    refine lv_goto (tgt := 5) hx hb dJ7_fill_53178_17 (by decide) ?_
    have eg : g_J7_fill_53178_lp n i1 (r + 1) j Ar = g_J7_fill_53178_lp n i1 r (j + 1) (upd Ar (nI j).toNatClampNeg i1) := by
      rw [g_J7_fill_53178_lp]
    rw [eg] at hQ
    exact ih (j + 1) (upd Ar (nI j).toNatClampNeg i1) _ _ _ (by omega) hP hD hS (lv_sub hl [1, 2, 0, 3] rfl) hQ
def f_J7_fill_53178 (n : Nat) (Ar : Nat → Int32) (i1 : Int32) : (Nat → Int32) :=
  (g_J7_fill_53178_lp n i1 n 0 Ar)
set_option maxHeartbeats 4000000 in
set_option maxRecDepth 100000 in
theorem c_J7_fill_53178 (l : Launch) (k : K_X) (aa : Nat → Nat) (n : Nat) (Ar : Nat → Int32) (i1 : Int32) (hn : n ≤ 1000) : k_C l yJ7_fill_53178 wsJ7_fill_53178 (k_rm 0 0) k [.ref (aa 0), .int i1] (w_A k aa n Ar) (k_qV k (w_A k aa n (f_J7_fill_53178 n Ar i1))) := by
  refine k_mk (cc := cJ7_fill_53178) (maxL := 4) (ret := none) (by decide) rfl (Nat.le_of_ble_eq_true rfl) ?_
  intro p e s m below meth c A ls C0 hP hD hS hl
  obtain ⟨hx, hb, hr, hts, hown, hlocks, hml, hA, hK⟩ := id C0
  have hown : s.vm.findClass RJ7 = some m.cls := hown
  have hl : lv_has ls 4 [(0, .ref (aa 0)), (1, .int i1)] := hl
  refine lv_iconst (v := 0) hx hb dJ7_fill_53178_0 (by decide) ?_
  refine lv_istore_n (lv' := [(2, .int 0), (0, .ref (aa 0)), (1, .int i1)]) hx hb dJ7_fill_53178_1 rfl hl (by decide) rfl (fun ls hl => ?_)
  refine lv_aload_n hx hb dJ7_fill_53178_2 rfl (lv_at hl 1 rfl) ?_
  refine va_alen (v := nI n) hx hb hK hP 0 0 rfl rfl rfl dJ7_fill_53178_3 ?_
  refine lv_istore_n (lv' := [(3, .int (nI n)), (2, .int 0), (0, .ref (aa 0)), (1, .int i1)]) hx hb dJ7_fill_53178_4 rfl hl (by decide) rfl (fun ls hl => ?_)
  have hl : lv_has ls 4 [(0, .ref (aa 0)), (1, .int i1), (2, .int (nI 0)), (3, .int (nI n))] := lv_sub hl [2, 3, 1, 0] rfl
  refine lp_J7_fill_53178_lp k aa n i1 C0 (by first | assumption | omega) n 0 Ar _ _ _ (by omega) hP hD hS hl (fun H locs ls hP hD hS hl => ?_)
  obtain ⟨z_1, ez_1⟩ : ∃ z, z = g_J7_fill_53178_lp n i1 n 0 Ar := ⟨_, rfl⟩
  rw [← ez_1] at hP hD
  have ef : f_J7_fill_53178 n Ar i1 = z_1 := by
    rw [f_J7_fill_53178, ← ez_1]
  exact k_retv hx hb hr hK (by rw [ef]; exact hP) (by rw [ef]; exact hD) hS hlocks dJ7_fill_53178_20
theorem in_X1_write_X1 : ∀ w ∈ wsX10, w ∈ wsX1_write := fun _ h => List.mem_cons_of_mem _ (List.mem_append_right _ h)
def f_X1_write (n : Nat) (sL : Nat → Nat → Int32) (i1 : Int32) (i2 : Int32) (i3 : Int32) (i4 : Int32) (i5 : Int32) (i6 : Int32) : (Nat → Nat → Int32) :=
  if (sL 0 0) < (nI n) then k_st (k_st (k_st (k_st (k_st (k_st (k_st sL 1 (upd (sL 1) ((sL 0 0) * 6).toNatClampNeg i1)) 1 (upd (upd (sL 1) ((sL 0 0) * 6).toNatClampNeg i1) (((sL 0 0) * 6) + 1).toNatClampNeg i2)) 1 (upd (upd (upd (sL 1) ((sL 0 0) * 6).toNatClampNeg i1) (((sL 0 0) * 6) + 1).toNatClampNeg i2) (((sL 0 0) * 6) + 2).toNatClampNeg i3)) 1 (upd (upd (upd (upd (sL 1) ((sL 0 0) * 6).toNatClampNeg i1) (((sL 0 0) * 6) + 1).toNatClampNeg i2) (((sL 0 0) * 6) + 2).toNatClampNeg i3) (((sL 0 0) * 6) + 3).toNatClampNeg i4)) 1 (upd (upd (upd (upd (upd (sL 1) ((sL 0 0) * 6).toNatClampNeg i1) (((sL 0 0) * 6) + 1).toNatClampNeg i2) (((sL 0 0) * 6) + 2).toNatClampNeg i3) (((sL 0 0) * 6) + 3).toNatClampNeg i4) (((sL 0 0) * 6) + 4).toNatClampNeg i5)) 1 (upd (upd (upd (upd (upd (upd (sL 1) ((sL 0 0) * 6).toNatClampNeg i1) (((sL 0 0) * 6) + 1).toNatClampNeg i2) (((sL 0 0) * 6) + 2).toNatClampNeg i3) (((sL 0 0) * 6) + 3).toNatClampNeg i4) (((sL 0 0) * 6) + 4).toNatClampNeg i5) (((sL 0 0) * 6) + 5).toNatClampNeg i6)) 0 (k_st ((k_st (k_st (k_st (k_st (k_st (k_st sL 1 (upd (sL 1) ((sL 0 0) * 6).toNatClampNeg i1)) 1 (upd (upd (sL 1) ((sL 0 0) * 6).toNatClampNeg i1) (((sL 0 0) * 6) + 1).toNatClampNeg i2)) 1 (upd (upd (upd (sL 1) ((sL 0 0) * 6).toNatClampNeg i1) (((sL 0 0) * 6) + 1).toNatClampNeg i2) (((sL 0 0) * 6) + 2).toNatClampNeg i3)) 1 (upd (upd (upd (upd (sL 1) ((sL 0 0) * 6).toNatClampNeg i1) (((sL 0 0) * 6) + 1).toNatClampNeg i2) (((sL 0 0) * 6) + 2).toNatClampNeg i3) (((sL 0 0) * 6) + 3).toNatClampNeg i4)) 1 (upd (upd (upd (upd (upd (sL 1) ((sL 0 0) * 6).toNatClampNeg i1) (((sL 0 0) * 6) + 1).toNatClampNeg i2) (((sL 0 0) * 6) + 2).toNatClampNeg i3) (((sL 0 0) * 6) + 3).toNatClampNeg i4) (((sL 0 0) * 6) + 4).toNatClampNeg i5)) 1 (upd (upd (upd (upd (upd (upd (sL 1) ((sL 0 0) * 6).toNatClampNeg i1) (((sL 0 0) * 6) + 1).toNatClampNeg i2) (((sL 0 0) * 6) + 2).toNatClampNeg i3) (((sL 0 0) * 6) + 3).toNatClampNeg i4) (((sL 0 0) * 6) + 4).toNatClampNeg i5) (((sL 0 0) * 6) + 5).toNatClampNeg i6)) 0) 0 ((sL 0 0) + 1))
  else sL
set_option maxHeartbeats 4000000 in
set_option maxRecDepth 100000 in
theorem c_X1_write (l : Launch) (k : K_X) (al : Nat → Nat) (n : Nat) (sL : Nat → Nat → Int32) (i1 : Int32) (i2 : Int32) (i3 : Int32) (i4 : Int32) (i5 : Int32) (i6 : Int32) (hc : k_n (sL 0 0) n) (hn : n ≤ 100) : k_C l yX1_write wsX1_write (k_rm 0 0) k [.ref (al 0), .int i1, .int i2, .int i3, .int i4, .int i5, .int i6] (w_L k al n sL) (k_qV k (w_L k al n (f_X1_write n sL i1 i2 i3 i4 i5 i6))) := by
  refine k_mk (cc := cX1_write) (maxL := 8) (ret := none) (by decide) rfl (Nat.le_of_ble_eq_true rfl) ?_
  intro p e s m below meth c A ls C0 hP hD hS hl
  obtain ⟨hx, hb, hr, hts, hown, hlocks, hml, hA, hK⟩ := id C0
  have hown : s.vm.findClass RX1 = some m.cls := hown
  have hl : lv_has ls 8 [(0, .ref (al 0)), (1, .int i1), (2, .int i2), (3, .int i3), (4, .int i4), (5, .int i5), (6, .int i6)] := hl
  refine lv_aload_n hx hb dX1_write_0 rfl (lv_at hl 0 rfl) ?_
  refine va_get (D := k.1) (ci := 1) (v := .int (sL 0 0)) (C := RX1) (T := TX1) (N := 3) hx hb hts in_X1_write_X1 hown hK hP 0 rfl rfl 2 (by decide) (k_w hts 1 rfl) (fun _ h9 => h9) rfl dX1_write_1 ?_
  refine lv_aload_n hx hb dX1_write_4 rfl (lv_at hl 0 rfl) ?_
  refine va_get (D := k.1) (ci := 1) (v := .int (nI n)) (C := RX1) (T := TX1) (N := 3) hx hb hts in_X1_write_X1 hown hK hP 0 rfl rfl 0 (by decide) (k_w hts 2 rfl) (fun _ h9 => h9) rfl dX1_write_5 ?_
  refine lv_icmp_lt (tgt := 12) hx hb dX1_write_8 (by decide) (fun c_1 => ?_) (fun c_1 => ?_)
  ·
    refine lv_aload_n hx hb dX1_write_12 rfl (lv_at hl 0 rfl) ?_
    refine va_get (D := k.1) (ci := 1) (v := .int (sL 0 0)) (C := RX1) (T := TX1) (N := 3) hx hb hts in_X1_write_X1 hown hK hP 0 rfl rfl 2 (by decide) (k_w hts 1 rfl) (fun _ h9 => h9) rfl dX1_write_13 ?_
    refine lv_bipush (v := 6) hx hb dX1_write_16 (by decide) ?_
    refine lv_imul hx hb dX1_write_18 ?_
    refine lv_istore (lv' := [(7, .int ((sL 0 0) * 6)), (0, .ref (al 0)), (1, .int i1), (2, .int i2), (3, .int i3), (4, .int i4), (5, .int i5), (6, .int i6)]) hx hb dX1_write_19 hl (by decide) rfl (fun ls hl => ?_)
    refine lv_aload_n hx hb dX1_write_21 rfl (lv_at hl 1 rfl) ?_
    refine va_get (D := k.1) (ci := 1) (v := .ref (al 1)) (C := RX1) (T := TX1) (N := 3) hx hb hts in_X1_write_X1 hown hK hP 0 rfl rfl 1 (by decide) (k_w hts 3 rfl) (fun _ h9 => h9) rfl dX1_write_22 ?_
    refine lv_iload hx hb dX1_write_25 (lv_at hl 0 rfl) ?_
    refine lv_iload_n hx hb dX1_write_27 rfl (lv_at hl 2 rfl) ?_
    refine va_iast (f := sL 1) hx hb hK hP hD hS 1 0 rfl rfl (k_wr0 hc hn (by assumption)) dX1_write_28 (fun H locs hP hD hS => ?_)
    have hP := k_cP (w_L_1 k al n sL (upd (sL 1) ((sL 0 0) * 6).toNatClampNeg i1)) hP
    have hD := k_cD (w_L_1 k al n sL (upd (sL 1) ((sL 0 0) * 6).toNatClampNeg i1)) hD
    refine lv_aload_n hx hb dX1_write_29 rfl (lv_at hl 1 rfl) ?_
    refine va_get (D := k.1) (ci := 1) (v := .ref (al 1)) (C := RX1) (T := TX1) (N := 3) hx hb hts in_X1_write_X1 hown hK hP 0 rfl rfl 1 (by decide) (k_w hts 3 rfl) (fun _ h9 => h9) rfl dX1_write_30 ?_
    refine lv_iload hx hb dX1_write_33 (lv_at hl 0 rfl) ?_
    refine lv_iconst (v := 1) hx hb dX1_write_35 (by decide) ?_
    refine lv_iadd hx hb dX1_write_36 ?_
    refine lv_iload_n hx hb dX1_write_37 rfl (lv_at hl 3 rfl) ?_
    refine va_iast (f := upd (sL 1) ((sL 0 0) * 6).toNatClampNeg i1) hx hb hK hP hD hS 1 0 rfl rfl (k_wr hc hn (by assumption) 1 (by decide) (by decide)) dX1_write_38 (fun H locs hP hD hS => ?_)
    have hP := k_cP (w_L_1 k al n (k_st sL 1 (upd (sL 1) ((sL 0 0) * 6).toNatClampNeg i1)) (upd (upd (sL 1) ((sL 0 0) * 6).toNatClampNeg i1) (((sL 0 0) * 6) + 1).toNatClampNeg i2)) hP
    have hD := k_cD (w_L_1 k al n (k_st sL 1 (upd (sL 1) ((sL 0 0) * 6).toNatClampNeg i1)) (upd (upd (sL 1) ((sL 0 0) * 6).toNatClampNeg i1) (((sL 0 0) * 6) + 1).toNatClampNeg i2)) hD
    refine lv_aload_n hx hb dX1_write_39 rfl (lv_at hl 1 rfl) ?_
    refine va_get (D := k.1) (ci := 1) (v := .ref (al 1)) (C := RX1) (T := TX1) (N := 3) hx hb hts in_X1_write_X1 hown hK hP 0 rfl rfl 1 (by decide) (k_w hts 3 rfl) (fun _ h9 => h9) rfl dX1_write_40 ?_
    refine lv_iload hx hb dX1_write_43 (lv_at hl 0 rfl) ?_
    refine lv_iconst (v := 2) hx hb dX1_write_45 (by decide) ?_
    refine lv_iadd hx hb dX1_write_46 ?_
    refine lv_iload_n hx hb dX1_write_47 rfl (lv_at hl 4 rfl) ?_
    refine va_iast (f := upd (upd (sL 1) ((sL 0 0) * 6).toNatClampNeg i1) (((sL 0 0) * 6) + 1).toNatClampNeg i2) hx hb hK hP hD hS 1 0 rfl rfl (k_wr hc hn (by assumption) 2 (by decide) (by decide)) dX1_write_48 (fun H locs hP hD hS => ?_)
    have hP := k_cP (w_L_1 k al n (k_st (k_st sL 1 (upd (sL 1) ((sL 0 0) * 6).toNatClampNeg i1)) 1 (upd (upd (sL 1) ((sL 0 0) * 6).toNatClampNeg i1) (((sL 0 0) * 6) + 1).toNatClampNeg i2)) (upd (upd (upd (sL 1) ((sL 0 0) * 6).toNatClampNeg i1) (((sL 0 0) * 6) + 1).toNatClampNeg i2) (((sL 0 0) * 6) + 2).toNatClampNeg i3)) hP
    have hD := k_cD (w_L_1 k al n (k_st (k_st sL 1 (upd (sL 1) ((sL 0 0) * 6).toNatClampNeg i1)) 1 (upd (upd (sL 1) ((sL 0 0) * 6).toNatClampNeg i1) (((sL 0 0) * 6) + 1).toNatClampNeg i2)) (upd (upd (upd (sL 1) ((sL 0 0) * 6).toNatClampNeg i1) (((sL 0 0) * 6) + 1).toNatClampNeg i2) (((sL 0 0) * 6) + 2).toNatClampNeg i3)) hD
    refine lv_aload_n hx hb dX1_write_49 rfl (lv_at hl 1 rfl) ?_
    refine va_get (D := k.1) (ci := 1) (v := .ref (al 1)) (C := RX1) (T := TX1) (N := 3) hx hb hts in_X1_write_X1 hown hK hP 0 rfl rfl 1 (by decide) (k_w hts 3 rfl) (fun _ h9 => h9) rfl dX1_write_50 ?_
    refine lv_iload hx hb dX1_write_53 (lv_at hl 0 rfl) ?_
    refine lv_iconst (v := 3) hx hb dX1_write_55 (by decide) ?_
    refine lv_iadd hx hb dX1_write_56 ?_
    refine lv_iload hx hb dX1_write_57 (lv_at hl 5 rfl) ?_
    refine va_iast (f := upd (upd (upd (sL 1) ((sL 0 0) * 6).toNatClampNeg i1) (((sL 0 0) * 6) + 1).toNatClampNeg i2) (((sL 0 0) * 6) + 2).toNatClampNeg i3) hx hb hK hP hD hS 1 0 rfl rfl (k_wr hc hn (by assumption) 3 (by decide) (by decide)) dX1_write_59 (fun H locs hP hD hS => ?_)
    have hP := k_cP (w_L_1 k al n (k_st (k_st (k_st sL 1 (upd (sL 1) ((sL 0 0) * 6).toNatClampNeg i1)) 1 (upd (upd (sL 1) ((sL 0 0) * 6).toNatClampNeg i1) (((sL 0 0) * 6) + 1).toNatClampNeg i2)) 1 (upd (upd (upd (sL 1) ((sL 0 0) * 6).toNatClampNeg i1) (((sL 0 0) * 6) + 1).toNatClampNeg i2) (((sL 0 0) * 6) + 2).toNatClampNeg i3)) (upd (upd (upd (upd (sL 1) ((sL 0 0) * 6).toNatClampNeg i1) (((sL 0 0) * 6) + 1).toNatClampNeg i2) (((sL 0 0) * 6) + 2).toNatClampNeg i3) (((sL 0 0) * 6) + 3).toNatClampNeg i4)) hP
    have hD := k_cD (w_L_1 k al n (k_st (k_st (k_st sL 1 (upd (sL 1) ((sL 0 0) * 6).toNatClampNeg i1)) 1 (upd (upd (sL 1) ((sL 0 0) * 6).toNatClampNeg i1) (((sL 0 0) * 6) + 1).toNatClampNeg i2)) 1 (upd (upd (upd (sL 1) ((sL 0 0) * 6).toNatClampNeg i1) (((sL 0 0) * 6) + 1).toNatClampNeg i2) (((sL 0 0) * 6) + 2).toNatClampNeg i3)) (upd (upd (upd (upd (sL 1) ((sL 0 0) * 6).toNatClampNeg i1) (((sL 0 0) * 6) + 1).toNatClampNeg i2) (((sL 0 0) * 6) + 2).toNatClampNeg i3) (((sL 0 0) * 6) + 3).toNatClampNeg i4)) hD
    refine lv_aload_n hx hb dX1_write_60 rfl (lv_at hl 1 rfl) ?_
    refine va_get (D := k.1) (ci := 1) (v := .ref (al 1)) (C := RX1) (T := TX1) (N := 3) hx hb hts in_X1_write_X1 hown hK hP 0 rfl rfl 1 (by decide) (k_w hts 3 rfl) (fun _ h9 => h9) rfl dX1_write_61 ?_
    refine lv_iload hx hb dX1_write_64 (lv_at hl 0 rfl) ?_
    refine lv_iconst (v := 4) hx hb dX1_write_66 (by decide) ?_
    refine lv_iadd hx hb dX1_write_67 ?_
    refine lv_iload hx hb dX1_write_68 (lv_at hl 6 rfl) ?_
    refine va_iast (f := upd (upd (upd (upd (sL 1) ((sL 0 0) * 6).toNatClampNeg i1) (((sL 0 0) * 6) + 1).toNatClampNeg i2) (((sL 0 0) * 6) + 2).toNatClampNeg i3) (((sL 0 0) * 6) + 3).toNatClampNeg i4) hx hb hK hP hD hS 1 0 rfl rfl (k_wr hc hn (by assumption) 4 (by decide) (by decide)) dX1_write_70 (fun H locs hP hD hS => ?_)
    have hP := k_cP (w_L_1 k al n (k_st (k_st (k_st (k_st sL 1 (upd (sL 1) ((sL 0 0) * 6).toNatClampNeg i1)) 1 (upd (upd (sL 1) ((sL 0 0) * 6).toNatClampNeg i1) (((sL 0 0) * 6) + 1).toNatClampNeg i2)) 1 (upd (upd (upd (sL 1) ((sL 0 0) * 6).toNatClampNeg i1) (((sL 0 0) * 6) + 1).toNatClampNeg i2) (((sL 0 0) * 6) + 2).toNatClampNeg i3)) 1 (upd (upd (upd (upd (sL 1) ((sL 0 0) * 6).toNatClampNeg i1) (((sL 0 0) * 6) + 1).toNatClampNeg i2) (((sL 0 0) * 6) + 2).toNatClampNeg i3) (((sL 0 0) * 6) + 3).toNatClampNeg i4)) (upd (upd (upd (upd (upd (sL 1) ((sL 0 0) * 6).toNatClampNeg i1) (((sL 0 0) * 6) + 1).toNatClampNeg i2) (((sL 0 0) * 6) + 2).toNatClampNeg i3) (((sL 0 0) * 6) + 3).toNatClampNeg i4) (((sL 0 0) * 6) + 4).toNatClampNeg i5)) hP
    have hD := k_cD (w_L_1 k al n (k_st (k_st (k_st (k_st sL 1 (upd (sL 1) ((sL 0 0) * 6).toNatClampNeg i1)) 1 (upd (upd (sL 1) ((sL 0 0) * 6).toNatClampNeg i1) (((sL 0 0) * 6) + 1).toNatClampNeg i2)) 1 (upd (upd (upd (sL 1) ((sL 0 0) * 6).toNatClampNeg i1) (((sL 0 0) * 6) + 1).toNatClampNeg i2) (((sL 0 0) * 6) + 2).toNatClampNeg i3)) 1 (upd (upd (upd (upd (sL 1) ((sL 0 0) * 6).toNatClampNeg i1) (((sL 0 0) * 6) + 1).toNatClampNeg i2) (((sL 0 0) * 6) + 2).toNatClampNeg i3) (((sL 0 0) * 6) + 3).toNatClampNeg i4)) (upd (upd (upd (upd (upd (sL 1) ((sL 0 0) * 6).toNatClampNeg i1) (((sL 0 0) * 6) + 1).toNatClampNeg i2) (((sL 0 0) * 6) + 2).toNatClampNeg i3) (((sL 0 0) * 6) + 3).toNatClampNeg i4) (((sL 0 0) * 6) + 4).toNatClampNeg i5)) hD
    refine lv_aload_n hx hb dX1_write_71 rfl (lv_at hl 1 rfl) ?_
    refine va_get (D := k.1) (ci := 1) (v := .ref (al 1)) (C := RX1) (T := TX1) (N := 3) hx hb hts in_X1_write_X1 hown hK hP 0 rfl rfl 1 (by decide) (k_w hts 3 rfl) (fun _ h9 => h9) rfl dX1_write_72 ?_
    refine lv_iload hx hb dX1_write_75 (lv_at hl 0 rfl) ?_
    refine lv_iconst (v := 5) hx hb dX1_write_77 (by decide) ?_
    refine lv_iadd hx hb dX1_write_78 ?_
    refine lv_iload hx hb dX1_write_79 (lv_at hl 7 rfl) ?_
    refine va_iast (f := upd (upd (upd (upd (upd (sL 1) ((sL 0 0) * 6).toNatClampNeg i1) (((sL 0 0) * 6) + 1).toNatClampNeg i2) (((sL 0 0) * 6) + 2).toNatClampNeg i3) (((sL 0 0) * 6) + 3).toNatClampNeg i4) (((sL 0 0) * 6) + 4).toNatClampNeg i5) hx hb hK hP hD hS 1 0 rfl rfl (k_wr hc hn (by assumption) 5 (by decide) (by decide)) dX1_write_81 (fun H locs hP hD hS => ?_)
    have hP := k_cP (w_L_1 k al n (k_st (k_st (k_st (k_st (k_st sL 1 (upd (sL 1) ((sL 0 0) * 6).toNatClampNeg i1)) 1 (upd (upd (sL 1) ((sL 0 0) * 6).toNatClampNeg i1) (((sL 0 0) * 6) + 1).toNatClampNeg i2)) 1 (upd (upd (upd (sL 1) ((sL 0 0) * 6).toNatClampNeg i1) (((sL 0 0) * 6) + 1).toNatClampNeg i2) (((sL 0 0) * 6) + 2).toNatClampNeg i3)) 1 (upd (upd (upd (upd (sL 1) ((sL 0 0) * 6).toNatClampNeg i1) (((sL 0 0) * 6) + 1).toNatClampNeg i2) (((sL 0 0) * 6) + 2).toNatClampNeg i3) (((sL 0 0) * 6) + 3).toNatClampNeg i4)) 1 (upd (upd (upd (upd (upd (sL 1) ((sL 0 0) * 6).toNatClampNeg i1) (((sL 0 0) * 6) + 1).toNatClampNeg i2) (((sL 0 0) * 6) + 2).toNatClampNeg i3) (((sL 0 0) * 6) + 3).toNatClampNeg i4) (((sL 0 0) * 6) + 4).toNatClampNeg i5)) (upd (upd (upd (upd (upd (upd (sL 1) ((sL 0 0) * 6).toNatClampNeg i1) (((sL 0 0) * 6) + 1).toNatClampNeg i2) (((sL 0 0) * 6) + 2).toNatClampNeg i3) (((sL 0 0) * 6) + 3).toNatClampNeg i4) (((sL 0 0) * 6) + 4).toNatClampNeg i5) (((sL 0 0) * 6) + 5).toNatClampNeg i6)) hP
    have hD := k_cD (w_L_1 k al n (k_st (k_st (k_st (k_st (k_st sL 1 (upd (sL 1) ((sL 0 0) * 6).toNatClampNeg i1)) 1 (upd (upd (sL 1) ((sL 0 0) * 6).toNatClampNeg i1) (((sL 0 0) * 6) + 1).toNatClampNeg i2)) 1 (upd (upd (upd (sL 1) ((sL 0 0) * 6).toNatClampNeg i1) (((sL 0 0) * 6) + 1).toNatClampNeg i2) (((sL 0 0) * 6) + 2).toNatClampNeg i3)) 1 (upd (upd (upd (upd (sL 1) ((sL 0 0) * 6).toNatClampNeg i1) (((sL 0 0) * 6) + 1).toNatClampNeg i2) (((sL 0 0) * 6) + 2).toNatClampNeg i3) (((sL 0 0) * 6) + 3).toNatClampNeg i4)) 1 (upd (upd (upd (upd (upd (sL 1) ((sL 0 0) * 6).toNatClampNeg i1) (((sL 0 0) * 6) + 1).toNatClampNeg i2) (((sL 0 0) * 6) + 2).toNatClampNeg i3) (((sL 0 0) * 6) + 3).toNatClampNeg i4) (((sL 0 0) * 6) + 4).toNatClampNeg i5)) (upd (upd (upd (upd (upd (upd (sL 1) ((sL 0 0) * 6).toNatClampNeg i1) (((sL 0 0) * 6) + 1).toNatClampNeg i2) (((sL 0 0) * 6) + 2).toNatClampNeg i3) (((sL 0 0) * 6) + 3).toNatClampNeg i4) (((sL 0 0) * 6) + 4).toNatClampNeg i5) (((sL 0 0) * 6) + 5).toNatClampNeg i6)) hD
    refine lv_aload_n hx hb dX1_write_82 rfl (lv_at hl 1 rfl) ?_
    refine lv_dup hx hb dX1_write_83 rfl ?_
    refine va_get (D := k.1) (ci := 1) (v := .int (sL 0 0)) (C := RX1) (T := TX1) (N := 3) hx hb hts in_X1_write_X1 hown hK hP 0 rfl rfl 2 (by decide) (k_w hts 1 rfl) (fun _ h9 => h9) rfl dX1_write_84 ?_
    refine lv_iconst (v := 1) hx hb dX1_write_87 (by decide) ?_
    refine lv_iadd hx hb dX1_write_88 ?_
    refine va_put (D := k.1) (ci := 1) (v := .int ((sL 0 0) + 1)) (ty := .int) (C := RX1) (T := TX1) (N := 3) hx hb hts in_X1_write_X1 tyX1 tyX1_ok nmX1 hown hK hP hD hS 0 rfl rfl 2 (by decide) (k_w hts 1 rfl) (fun _ h9 => h9) rfl (by decide +kernel) rfl rfl (Nat.le_of_ble_eq_true rfl) dX1_write_89 (fun H locs hP hD hS => ?_)
    have hP := k_cP (w_L_s0 k al n (k_st (k_st (k_st (k_st (k_st (k_st sL 1 (upd (sL 1) ((sL 0 0) * 6).toNatClampNeg i1)) 1 (upd (upd (sL 1) ((sL 0 0) * 6).toNatClampNeg i1) (((sL 0 0) * 6) + 1).toNatClampNeg i2)) 1 (upd (upd (upd (sL 1) ((sL 0 0) * 6).toNatClampNeg i1) (((sL 0 0) * 6) + 1).toNatClampNeg i2) (((sL 0 0) * 6) + 2).toNatClampNeg i3)) 1 (upd (upd (upd (upd (sL 1) ((sL 0 0) * 6).toNatClampNeg i1) (((sL 0 0) * 6) + 1).toNatClampNeg i2) (((sL 0 0) * 6) + 2).toNatClampNeg i3) (((sL 0 0) * 6) + 3).toNatClampNeg i4)) 1 (upd (upd (upd (upd (upd (sL 1) ((sL 0 0) * 6).toNatClampNeg i1) (((sL 0 0) * 6) + 1).toNatClampNeg i2) (((sL 0 0) * 6) + 2).toNatClampNeg i3) (((sL 0 0) * 6) + 3).toNatClampNeg i4) (((sL 0 0) * 6) + 4).toNatClampNeg i5)) 1 (upd (upd (upd (upd (upd (upd (sL 1) ((sL 0 0) * 6).toNatClampNeg i1) (((sL 0 0) * 6) + 1).toNatClampNeg i2) (((sL 0 0) * 6) + 2).toNatClampNeg i3) (((sL 0 0) * 6) + 3).toNatClampNeg i4) (((sL 0 0) * 6) + 4).toNatClampNeg i5) (((sL 0 0) * 6) + 5).toNatClampNeg i6)) ((sL 0 0) + 1)) hP
    have hD := k_cD (w_L_s0 k al n (k_st (k_st (k_st (k_st (k_st (k_st sL 1 (upd (sL 1) ((sL 0 0) * 6).toNatClampNeg i1)) 1 (upd (upd (sL 1) ((sL 0 0) * 6).toNatClampNeg i1) (((sL 0 0) * 6) + 1).toNatClampNeg i2)) 1 (upd (upd (upd (sL 1) ((sL 0 0) * 6).toNatClampNeg i1) (((sL 0 0) * 6) + 1).toNatClampNeg i2) (((sL 0 0) * 6) + 2).toNatClampNeg i3)) 1 (upd (upd (upd (upd (sL 1) ((sL 0 0) * 6).toNatClampNeg i1) (((sL 0 0) * 6) + 1).toNatClampNeg i2) (((sL 0 0) * 6) + 2).toNatClampNeg i3) (((sL 0 0) * 6) + 3).toNatClampNeg i4)) 1 (upd (upd (upd (upd (upd (sL 1) ((sL 0 0) * 6).toNatClampNeg i1) (((sL 0 0) * 6) + 1).toNatClampNeg i2) (((sL 0 0) * 6) + 2).toNatClampNeg i3) (((sL 0 0) * 6) + 3).toNatClampNeg i4) (((sL 0 0) * 6) + 4).toNatClampNeg i5)) 1 (upd (upd (upd (upd (upd (upd (sL 1) ((sL 0 0) * 6).toNatClampNeg i1) (((sL 0 0) * 6) + 1).toNatClampNeg i2) (((sL 0 0) * 6) + 2).toNatClampNeg i3) (((sL 0 0) * 6) + 3).toNatClampNeg i4) (((sL 0 0) * 6) + 4).toNatClampNeg i5) (((sL 0 0) * 6) + 5).toNatClampNeg i6)) ((sL 0 0) + 1)) hD
    have ef : f_X1_write n sL i1 i2 i3 i4 i5 i6 = k_st (k_st (k_st (k_st (k_st (k_st (k_st sL 1 (upd (sL 1) ((sL 0 0) * 6).toNatClampNeg i1)) 1 (upd (upd (sL 1) ((sL 0 0) * 6).toNatClampNeg i1) (((sL 0 0) * 6) + 1).toNatClampNeg i2)) 1 (upd (upd (upd (sL 1) ((sL 0 0) * 6).toNatClampNeg i1) (((sL 0 0) * 6) + 1).toNatClampNeg i2) (((sL 0 0) * 6) + 2).toNatClampNeg i3)) 1 (upd (upd (upd (upd (sL 1) ((sL 0 0) * 6).toNatClampNeg i1) (((sL 0 0) * 6) + 1).toNatClampNeg i2) (((sL 0 0) * 6) + 2).toNatClampNeg i3) (((sL 0 0) * 6) + 3).toNatClampNeg i4)) 1 (upd (upd (upd (upd (upd (sL 1) ((sL 0 0) * 6).toNatClampNeg i1) (((sL 0 0) * 6) + 1).toNatClampNeg i2) (((sL 0 0) * 6) + 2).toNatClampNeg i3) (((sL 0 0) * 6) + 3).toNatClampNeg i4) (((sL 0 0) * 6) + 4).toNatClampNeg i5)) 1 (upd (upd (upd (upd (upd (upd (sL 1) ((sL 0 0) * 6).toNatClampNeg i1) (((sL 0 0) * 6) + 1).toNatClampNeg i2) (((sL 0 0) * 6) + 2).toNatClampNeg i3) (((sL 0 0) * 6) + 3).toNatClampNeg i4) (((sL 0 0) * 6) + 4).toNatClampNeg i5) (((sL 0 0) * 6) + 5).toNatClampNeg i6)) 0 (k_st ((k_st (k_st (k_st (k_st (k_st (k_st sL 1 (upd (sL 1) ((sL 0 0) * 6).toNatClampNeg i1)) 1 (upd (upd (sL 1) ((sL 0 0) * 6).toNatClampNeg i1) (((sL 0 0) * 6) + 1).toNatClampNeg i2)) 1 (upd (upd (upd (sL 1) ((sL 0 0) * 6).toNatClampNeg i1) (((sL 0 0) * 6) + 1).toNatClampNeg i2) (((sL 0 0) * 6) + 2).toNatClampNeg i3)) 1 (upd (upd (upd (upd (sL 1) ((sL 0 0) * 6).toNatClampNeg i1) (((sL 0 0) * 6) + 1).toNatClampNeg i2) (((sL 0 0) * 6) + 2).toNatClampNeg i3) (((sL 0 0) * 6) + 3).toNatClampNeg i4)) 1 (upd (upd (upd (upd (upd (sL 1) ((sL 0 0) * 6).toNatClampNeg i1) (((sL 0 0) * 6) + 1).toNatClampNeg i2) (((sL 0 0) * 6) + 2).toNatClampNeg i3) (((sL 0 0) * 6) + 3).toNatClampNeg i4) (((sL 0 0) * 6) + 4).toNatClampNeg i5)) 1 (upd (upd (upd (upd (upd (upd (sL 1) ((sL 0 0) * 6).toNatClampNeg i1) (((sL 0 0) * 6) + 1).toNatClampNeg i2) (((sL 0 0) * 6) + 2).toNatClampNeg i3) (((sL 0 0) * 6) + 3).toNatClampNeg i4) (((sL 0 0) * 6) + 4).toNatClampNeg i5) (((sL 0 0) * 6) + 5).toNatClampNeg i6)) 0) 0 ((sL 0 0) + 1)) := by
      rw [f_X1_write, if_pos c_1]
    exact k_retv hx hb hr hK (by rw [ef]; exact hP) (by rw [ef]; exact hD) hS hlocks dX1_write_92
  ·
    have ef : f_X1_write n sL i1 i2 i3 i4 i5 i6 = sL := by
      rw [f_X1_write, if_neg c_1]
    exact k_retv hx hb hr hK (by rw [ef]; exact hP) (by rw [ef]; exact hD) hS hlocks dX1_write_11
theorem in_X1_has_X1 : ∀ w ∈ wsX10, w ∈ wsX1_has := fun _ h => List.mem_cons_of_mem _ (List.mem_append_right _ h)
def f_X1_has (sL : Nat → Nat → Int32) (i1 : Int32) : Int32 :=
  if i1 < 0 then 0
  else if (sL 0 0) ≤ i1 then 0
  else 1
set_option maxHeartbeats 4000000 in
set_option maxRecDepth 100000 in
theorem c_X1_has (l : Launch) (k : K_X) (al : Nat → Nat) (n : Nat) (sL : Nat → Nat → Int32) (i1 : Int32) : k_C l yX1_has wsX1_has (k_rm 0 0) k [.ref (al 0), .int i1] (w_L k al n sL) (k_qI k (f_X1_has sL i1) (w_L k al n sL)) := by
  refine k_mk (cc := cX1_has) (maxL := 2) (ret := (some .boolean)) (by decide) rfl (Nat.le_of_ble_eq_true rfl) ?_
  intro p e s m below meth c A ls C0 hP hD hS hl
  obtain ⟨hx, hb, hr, hts, hown, hlocks, hml, hA, hK⟩ := id C0
  have hown : s.vm.findClass RX1 = some m.cls := hown
  have hl : lv_has ls 2 [(0, .ref (al 0)), (1, .int i1)] := hl
  refine lv_iload_n hx hb dX1_has_0 rfl (lv_at hl 1 rfl) ?_
  refine lv_if_lt (tgt := 16) hx hb dX1_has_1 (by decide) (fun c_1 => ?_) (fun c_1 => ?_)
  ·
    refine lv_iconst (v := 0) hx hb dX1_has_16 (by decide) ?_
    have ef : f_X1_has sL i1 = 0 := by
      rw [f_X1_has, if_pos c_1]
    exact k_retz hx hb hr (by decide) hK hP hD hS hlocks dX1_has_17 (by rw [ef])
  ·
    refine lv_iload_n hx hb dX1_has_4 rfl (lv_at hl 1 rfl) ?_
    refine lv_aload_n hx hb dX1_has_5 rfl (lv_at hl 0 rfl) ?_
    refine va_get (D := k.1) (ci := 1) (v := .int (sL 0 0)) (C := RX1) (T := TX1) (N := 3) hx hb hts in_X1_has_X1 hown hK hP 0 rfl rfl 2 (by decide) (k_w hts 1 rfl) (fun _ h9 => h9) rfl dX1_has_6 ?_
    refine lv_icmp_ge (tgt := 16) hx hb dX1_has_9 (by decide) (fun c_2 => ?_) (fun c_2 => ?_)
    ·
      refine lv_iconst (v := 0) hx hb dX1_has_16 (by decide) ?_
      have ef : f_X1_has sL i1 = 0 := by
        rw [f_X1_has, if_neg c_1, if_pos c_2]
      exact k_retz hx hb hr (by decide) hK hP hD hS hlocks dX1_has_17 (by rw [ef])
    ·
      refine lv_iconst (v := 1) hx hb dX1_has_12 (by decide) ?_
      refine lv_goto (tgt := 17) hx hb dX1_has_13 (by decide) ?_
      have ef : f_X1_has sL i1 = 1 := by
        rw [f_X1_has, if_neg c_1, if_neg c_2]
      exact k_retz hx hb hr (by decide) hK hP hD hS hlocks dX1_has_17 (by rw [ef])
theorem in_X1_read_X1 : ∀ w ∈ wsX10, w ∈ wsX1_read := fun _ h => List.mem_cons_of_mem _ (List.mem_append_right _ h)
def f_X1_read (sL : Nat → Nat → Int32) (i1 : Int32) (i2 : Int32) : Int32 :=
  (sL 1) ((i1 * 6) + i2).toNatClampNeg
set_option maxHeartbeats 4000000 in
set_option maxRecDepth 100000 in
theorem c_X1_read (l : Launch) (k : K_X) (al : Nat → Nat) (n : Nat) (sL : Nat → Nat → Int32) (i1 : Int32) (i2 : Int32) (h1 : vp_in (i1 * 6 + i2) (n * 6)) : k_C l yX1_read wsX1_read (k_rm 0 0) k [.ref (al 0), .int i1, .int i2] (w_L k al n sL) (k_qI k (f_X1_read sL i1 i2) (w_L k al n sL)) := by
  refine k_mk (cc := cX1_read) (maxL := 3) (ret := (some .int)) (by decide) rfl (Nat.le_of_ble_eq_true rfl) ?_
  intro p e s m below meth c A ls C0 hP hD hS hl
  obtain ⟨hx, hb, hr, hts, hown, hlocks, hml, hA, hK⟩ := id C0
  have hown : s.vm.findClass RX1 = some m.cls := hown
  have hl : lv_has ls 3 [(0, .ref (al 0)), (1, .int i1), (2, .int i2)] := hl
  refine lv_aload_n hx hb dX1_read_0 rfl (lv_at hl 0 rfl) ?_
  refine va_get (D := k.1) (ci := 1) (v := .ref (al 1)) (C := RX1) (T := TX1) (N := 3) hx hb hts in_X1_read_X1 hown hK hP 0 rfl rfl 1 (by decide) (k_w hts 1 rfl) (fun _ h9 => h9) rfl dX1_read_1 ?_
  refine lv_iload_n hx hb dX1_read_4 rfl (lv_at hl 1 rfl) ?_
  refine lv_bipush (v := 6) hx hb dX1_read_5 (by decide) ?_
  refine lv_imul hx hb dX1_read_7 ?_
  refine lv_iload_n hx hb dX1_read_8 rfl (lv_at hl 2 rfl) ?_
  refine lv_iadd hx hb dX1_read_9 ?_
  refine va_iald (f := sL 1) hx hb hK hP 1 0 rfl rfl (by assumption) dX1_read_10 ?_
  have ef : f_X1_read sL i1 i2 = (sL 1) ((i1 * 6) + i2).toNatClampNeg := by
    rw [f_X1_read]
  exact k_reti hx hb hr hK hP hD hS hlocks dX1_read_11 (by rw [ef])
