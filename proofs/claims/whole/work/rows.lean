section
-- ===== PART A: goes FIRST, ahead of the names: the tables' words, and 'selects' of the private methods out of them =====
/-- a private method of a class that the tables say can be made, by its rows of tables_1 -/
def lw_okq (q : MethodName × Nat) : Prop := (q.1.cls ≠ "java/lang/invoke/MethodHandle" ∧ q.1.cls ≠ "java/lang/invoke/VarHandle") ∧ Cond.instantiable q.1.cls q.2 ∈ tables_1 ∧ Cond.privateMethod q.1 ∈ tables_1 ∧ Cond.instanceMethod q.1 ∈ tables_1
theorem lw_p0 : lw_okq (⟨"HiringFairs$Fair", "hasAsked", "(II)Z"⟩, 8) := ⟨⟨by decide +kernel, by decide +kernel⟩, List.mem_of_getElem? (i := 65) (by decide +kernel), List.mem_of_getElem? (i := 300) (by decide +kernel), List.mem_of_getElem? (i := 301) (by decide +kernel)⟩
theorem lw_p1 : lw_okq (⟨"HiringFairs$Fair", "playMinute", "(IZ)Z"⟩, 8) := ⟨⟨by decide +kernel, by decide +kernel⟩, List.mem_of_getElem? (i := 65) (by decide +kernel), List.mem_of_getElem? (i := 319) (by decide +kernel), List.mem_of_getElem? (i := 320) (by decide +kernel)⟩
theorem lw_p2 : lw_okq (⟨"HiringFairs$Fair", "askBest", "(II)Z"⟩, 8) := ⟨⟨by decide +kernel, by decide +kernel⟩, List.mem_of_getElem? (i := 65) (by decide +kernel), List.mem_of_getElem? (i := 323) (by decide +kernel), List.mem_of_getElem? (i := 324) (by decide +kernel)⟩
theorem lw_p3 : lw_okq (⟨"HiringFairs$Fair", "takes", "(III)Z"⟩, 8) := ⟨⟨by decide +kernel, by decide +kernel⟩, List.mem_of_getElem? (i := 65) (by decide +kernel), List.mem_of_getElem? (i := 328) (by decide +kernel), List.mem_of_getElem? (i := 329) (by decide +kernel)⟩
theorem lw_p4 : lw_okq (⟨"HiringFairs$Fair", "bind", "(IIII)V"⟩, 8) := ⟨⟨by decide +kernel, by decide +kernel⟩, List.mem_of_getElem? (i := 65) (by decide +kernel), List.mem_of_getElem? (i := 337) (by decide +kernel), List.mem_of_getElem? (i := 338) (by decide +kernel)⟩
theorem lw_p5 : lw_okq (⟨"HiringFairs$Fair", "isTorn", "(II)Z"⟩, 8) := ⟨⟨by decide +kernel, by decide +kernel⟩, List.mem_of_getElem? (i := 65) (by decide +kernel), List.mem_of_getElem? (i := 369) (by decide +kernel), List.mem_of_getElem? (i := 370) (by decide +kernel)⟩
theorem lw_p6 : lw_okq (⟨"HiringFairs$Fair", "wouldRather", "(III)Z"⟩, 8) := ⟨⟨by decide +kernel, by decide +kernel⟩, List.mem_of_getElem? (i := 65) (by decide +kernel), List.mem_of_getElem? (i := 373) (by decide +kernel), List.mem_of_getElem? (i := 374) (by decide +kernel)⟩
theorem lw_p7 : lw_okq (⟨"HiringFairs", "isHeldAboveSkill", "(I)Z"⟩, 5) := ⟨⟨by decide +kernel, by decide +kernel⟩, List.mem_of_getElem? (i := 11) (by decide +kernel), List.mem_of_getElem? (i := 453) (by decide +kernel), List.mem_of_getElem? (i := 454) (by decide +kernel)⟩
theorem lw_p8 : lw_okq (⟨"HiringFairsModel", "noServant", "(I)Z"⟩, 28) := ⟨⟨by decide +kernel, by decide +kernel⟩, List.mem_of_getElem? (i := 483) (by decide +kernel), List.mem_of_getElem? (i := 593) (by decide +kernel), List.mem_of_getElem? (i := 594) (by decide +kernel)⟩
theorem lw_p9 : lw_okq (⟨"HiringFairsModel", "noMaster", "(I)Z"⟩, 28) := ⟨⟨by decide +kernel, by decide +kernel⟩, List.mem_of_getElem? (i := 483) (by decide +kernel), List.mem_of_getElem? (i := 597) (by decide +kernel), List.mem_of_getElem? (i := 598) (by decide +kernel)⟩
theorem lw_p10 : lw_okq (⟨"HiringFairsModel", "held", "(II)I"⟩, 28) := ⟨⟨by decide +kernel, by decide +kernel⟩, List.mem_of_getElem? (i := 483) (by decide +kernel), List.mem_of_getElem? (i := 605) (by decide +kernel), List.mem_of_getElem? (i := 606) (by decide +kernel)⟩
theorem lw_p11 : lw_okq (⟨"HiringFairsModel", "offerOf", "(II)I"⟩, 28) := ⟨⟨by decide +kernel, by decide +kernel⟩, List.mem_of_getElem? (i := 483) (by decide +kernel), List.mem_of_getElem? (i := 629) (by decide +kernel), List.mem_of_getElem? (i := 630) (by decide +kernel)⟩
theorem lw_p12 : lw_okq (⟨"HiringFairsModel", "nextOf", "(I[Z)I"⟩, 28) := ⟨⟨by decide +kernel, by decide +kernel⟩, List.mem_of_getElem? (i := 483) (by decide +kernel), List.mem_of_getElem? (i := 637) (by decide +kernel), List.mem_of_getElem? (i := 638) (by decide +kernel)⟩
theorem lw_p13 : lw_okq (⟨"HiringFairsModel", "ask", "(I)V"⟩, 28) := ⟨⟨by decide +kernel, by decide +kernel⟩, List.mem_of_getElem? (i := 483) (by decide +kernel), List.mem_of_getElem? (i := 646) (by decide +kernel), List.mem_of_getElem? (i := 647) (by decide +kernel)⟩
theorem lw_p14 : lw_okq (⟨"HiringFairsModel", "isTorn", "(II[I[I[I)Z"⟩, 28) := ⟨⟨by decide +kernel, by decide +kernel⟩, List.mem_of_getElem? (i := 483) (by decide +kernel), List.mem_of_getElem? (i := 663) (by decide +kernel), List.mem_of_getElem? (i := 664) (by decide +kernel)⟩
theorem lw_p15 : lw_okq (⟨"HiringFairsModel", "foretell", "(Z)V"⟩, 28) := ⟨⟨by decide +kernel, by decide +kernel⟩, List.mem_of_getElem? (i := 483) (by decide +kernel), List.mem_of_getElem? (i := 675) (by decide +kernel), List.mem_of_getElem? (i := 676) (by decide +kernel)⟩
def lw_privs_1 : List (MethodName × Nat) := [(⟨"HiringFairs$Fair", "hasAsked", "(II)Z"⟩, 8), (⟨"HiringFairs$Fair", "playMinute", "(IZ)Z"⟩, 8), (⟨"HiringFairs$Fair", "askBest", "(II)Z"⟩, 8), (⟨"HiringFairs$Fair", "takes", "(III)Z"⟩, 8), (⟨"HiringFairs$Fair", "bind", "(IIII)V"⟩, 8), (⟨"HiringFairs$Fair", "isTorn", "(II)Z"⟩, 8), (⟨"HiringFairs$Fair", "wouldRather", "(III)Z"⟩, 8), (⟨"HiringFairs", "isHeldAboveSkill", "(I)Z"⟩, 5), (⟨"HiringFairsModel", "noServant", "(I)Z"⟩, 28), (⟨"HiringFairsModel", "noMaster", "(I)Z"⟩, 28), (⟨"HiringFairsModel", "held", "(II)I"⟩, 28), (⟨"HiringFairsModel", "offerOf", "(II)I"⟩, 28), (⟨"HiringFairsModel", "nextOf", "(I[Z)I"⟩, 28), (⟨"HiringFairsModel", "ask", "(I)V"⟩, 28), (⟨"HiringFairsModel", "isTorn", "(II[I[I[I)Z"⟩, 28), (⟨"HiringFairsModel", "foretell", "(Z)V"⟩, 28)]
theorem lw_r1 : ∀ q ∈ lw_privs_1, lw_okq q := List.forall_mem_cons.mpr ⟨lw_p0, List.forall_mem_cons.mpr ⟨lw_p1, List.forall_mem_cons.mpr ⟨lw_p2, List.forall_mem_cons.mpr ⟨lw_p3, List.forall_mem_cons.mpr ⟨lw_p4, List.forall_mem_cons.mpr ⟨lw_p5, List.forall_mem_cons.mpr ⟨lw_p6, List.forall_mem_cons.mpr ⟨lw_p7, List.forall_mem_cons.mpr ⟨lw_p8, List.forall_mem_cons.mpr ⟨lw_p9, List.forall_mem_cons.mpr ⟨lw_p10, List.forall_mem_cons.mpr ⟨lw_p11, List.forall_mem_cons.mpr ⟨lw_p12, List.forall_mem_cons.mpr ⟨lw_p13, List.forall_mem_cons.mpr ⟨lw_p14, List.forall_mem_cons.mpr ⟨lw_p15, fun _ h => absurd h List.not_mem_nil⟩⟩⟩⟩⟩⟩⟩⟩⟩⟩⟩⟩⟩⟩⟩⟩
theorem lw_p16 : lw_okq (⟨"HiringFairsModel", "serves", "(II)Z"⟩, 28) := ⟨⟨by decide +kernel, by decide +kernel⟩, List.mem_of_getElem? (i := 483) (by decide +kernel), List.mem_of_getElem? (i := 692) (by decide +kernel), List.mem_of_getElem? (i := 693) (by decide +kernel)⟩
theorem lw_p17 : lw_okq (⟨"HiringFairsModel", "dueOf", "(II)I"⟩, 28) := ⟨⟨by decide +kernel, by decide +kernel⟩, List.mem_of_getElem? (i := 483) (by decide +kernel), List.mem_of_getElem? (i := 712) (by decide +kernel), List.mem_of_getElem? (i := 713) (by decide +kernel)⟩
def lw_privs_2 : List (MethodName × Nat) := [(⟨"HiringFairsModel", "serves", "(II)Z"⟩, 28), (⟨"HiringFairsModel", "dueOf", "(II)I"⟩, 28)]
theorem lw_r2 : ∀ q ∈ lw_privs_2, lw_okq q := List.forall_mem_cons.mpr ⟨lw_p16, List.forall_mem_cons.mpr ⟨lw_p17, fun _ h => absurd h List.not_mem_nil⟩⟩
def lw_privs : List (MethodName × Nat) := lw_privs_1 ++ (lw_privs_2)
def lw_tbl : List Cond := k2_sels lw_privs ++ tables_1
theorem lw_privs_ok : ∀ q ∈ lw_privs, lw_okq q := by
  show ∀ q ∈ lw_privs_1 ++ (lw_privs_2), lw_okq q
  exact List.forall_mem_append.mpr ⟨lw_r1, lw_r2⟩
end
section
/-! ===== BEGIN words of one list among another's, by their places ===== -/
theorem goodIn_r {big : List Cond} (ws : List Cond) (ps : List Nat) (hp : ws = ps.filterMap (fun i => big[i]?)) (h : ws.all goodWord = true) : GoodIn big ws := by
  intro w hw
  have h1 := List.all_eq_true.mp h w hw
  rw [hp] at hw
  obtain ⟨i, -, hi⟩ := List.mem_filterMap.mp hw
  have hm : w ∈ big := by first | exact List.mem_of_getElem? hi | exact List.getElem?_mem hi
  exact ⟨hm, good_of_word h1⟩
theorem goodIn_app {big a b : List Cond} (ha : GoodIn big a) (hb : GoodIn big b) : GoodIn big (a ++ b) := fun w h => (List.mem_append.mp h).elim (ha w) (hb w)
theorem goodIn_ca {big a b : List Cond} {c : Cond} (ha : GoodIn big (c :: a)) (hb : GoodIn big b) : GoodIn big (c :: (a ++ b)) := fun w h => (List.mem_cons.mp h).elim (fun e => ha w (List.mem_cons.mpr (Or.inl e))) (fun h => (List.mem_append.mp h).elim (fun h => ha w (List.mem_cons.mpr (Or.inr h))) (hb w))
theorem goodIn_sub {big ws : List Cond} (hm : ∀ w ∈ ws, w ∈ big) (h : ws.all goodWord = true) : GoodIn big ws := fun w hw => ⟨hm w hw, good_of_word (List.all_eq_true.mp h w hw)⟩
/-! ===== END ===== -/

/-! ===== BEGIN printed: names, fields, word lists, decode rows ===== -/
def RX0 : String := "HiringFairs$Fair"
def TX0 : u_T := fun k => match k with
  | 0 => ("HiringFairs$Fair", "people", "LHiringFairs$People;", true)
  | 1 => ("HiringFairs$Fair", "ledger", "LHiringFairs$Ledger;", true)
  | 2 => ("HiringFairs$Fair", "minutes", "I", false)
  | 3 => ("HiringFairs$Fair", "masterOf", "[I", true)
  | 4 => ("HiringFairs$Fair", "wage", "[I", true)
  | 5 => ("HiringFairs$Fair", "shillingMinute", "[I", true)
  | 6 => ("HiringFairs$Fair", "servantOf", "[I", true)
  | _ => ("HiringFairs$Fair", "asked", "[I", true)
def tyX0 : Nat → FieldType := fun k => match k with
  | 0 => .object "HiringFairs$People"
  | 1 => .object "HiringFairs$Ledger"
  | 2 => .int
  | 3 => .array .int
  | 4 => .array .int
  | 5 => .array .int
  | 6 => .array .int
  | _ => .array .int
abbrev wsX00 : List Cond := u_ws RX0 TX0 8
theorem nmX0 : ∀ a, a < 8 → ∀ b, b < 8 → a ≠ b → (TX0 a).2.1 ≠ (TX0 b).2.1 := by decide +kernel
theorem tyX0_ok : ∀ k, k < 8 → parseFieldDescriptor (TX0 k).2.2.1 = some (tyX0 k) := by decide +kernel
abbrev cX0_init : ByteArray := prog_2_method_1_code
def yX0_init : MethodName := ⟨RX0, "<init>", "(LHiringFairs$People;LHiringFairs$Ledger;)V"⟩
abbrev cX0_startAnew : ByteArray := prog_2_method_2_code
def yX0_startAnew : MethodName := ⟨RX0, "startAnew", "()V"⟩
abbrev cX0_goOn : ByteArray := prog_2_method_3_code
def yX0_goOn : MethodName := ⟨RX0, "goOn", "(IZ)V"⟩
abbrev cX0_playMinute : ByteArray := prog_2_method_4_code
def yX0_playMinute : MethodName := ⟨RX0, "playMinute", "(IZ)Z"⟩
abbrev cX0_askBest : ByteArray := prog_2_method_5_code
def yX0_askBest : MethodName := ⟨RX0, "askBest", "(II)Z"⟩
abbrev cX0_choiceOf : ByteArray := prog_2_method_6_code
def yX0_choiceOf : MethodName := ⟨RX0, "choiceOf", "(I)I"⟩
abbrev cX0_takes : ByteArray := prog_2_method_7_code
def yX0_takes : MethodName := ⟨RX0, "takes", "(III)Z"⟩
abbrev cX0_bind : ByteArray := prog_2_method_8_code
def yX0_bind : MethodName := ⟨RX0, "bind", "(IIII)V"⟩
abbrev cX0_isBound : ByteArray := prog_2_method_9_code
def yX0_isBound : MethodName := ⟨RX0, "isBound", "(I)Z"⟩
abbrev cX0_countAsked : ByteArray := prog_2_method_10_code
def yX0_countAsked : MethodName := ⟨RX0, "countAsked", "(I)I"⟩
abbrev cX0_hasAsked : ByteArray := prog_2_method_11_code
def yX0_hasAsked : MethodName := ⟨RX0, "hasAsked", "(II)Z"⟩
abbrev cX0_countBound : ByteArray := prog_2_method_12_code
def yX0_countBound : MethodName := ⟨RX0, "countBound", "()I"⟩
abbrev cX0_sumWages : ByteArray := prog_2_method_13_code
def yX0_sumWages : MethodName := ⟨RX0, "sumWages", "()I"⟩
abbrev cX0_countTorn : ByteArray := prog_2_method_14_code
def yX0_countTorn : MethodName := ⟨RX0, "countTorn", "()I"⟩
abbrev cX0_findTorn : ByteArray := prog_2_method_15_code
def yX0_findTorn : MethodName := ⟨RX0, "findTorn", "(I)I"⟩
abbrev cX0_isTorn : ByteArray := prog_2_method_16_code
def yX0_isTorn : MethodName := ⟨RX0, "isTorn", "(II)Z"⟩
abbrev cX0_wouldRather : ByteArray := prog_2_method_17_code
def yX0_wouldRather : MethodName := ⟨RX0, "wouldRather", "(III)Z"⟩
def RX1 : String := "HiringFairs$Ledger"
def TX1 : u_T := fun k => match k with
  | 0 => ("HiringFairs$Ledger", "room", "I", true)
  | 1 => ("HiringFairs$Ledger", "rows", "[I", true)
  | _ => ("HiringFairs$Ledger", "count", "I", false)
def tyX1 : Nat → FieldType := fun k => match k with
  | 0 => .int
  | 1 => .array .int
  | _ => .int
abbrev wsX10 : List Cond := u_ws RX1 TX1 3
theorem nmX1 : ∀ a, a < 3 → ∀ b, b < 3 → a ≠ b → (TX1 a).2.1 ≠ (TX1 b).2.1 := by decide +kernel
theorem tyX1_ok : ∀ k, k < 3 → parseFieldDescriptor (TX1 k).2.2.1 = some (tyX1 k) := by decide +kernel
abbrev cX1_init : ByteArray := prog_3_method_1_code
def yX1_init : MethodName := ⟨RX1, "<init>", "(I)V"⟩
abbrev cX1_write : ByteArray := prog_3_method_2_code
def yX1_write : MethodName := ⟨RX1, "write", "(IIIIII)V"⟩
abbrev cX1_has : ByteArray := prog_3_method_3_code
def yX1_has : MethodName := ⟨RX1, "has", "(I)Z"⟩
abbrev cX1_read : ByteArray := prog_3_method_4_code
def yX1_read : MethodName := ⟨RX1, "read", "(II)I"⟩
def RX2 : String := "HiringFairs$People"
def TX2 : u_T := fun k => match k with
  | 0 => ("HiringFairs$People", "servants", "I", false)
  | 1 => ("HiringFairs$People", "kind", "[I", true)
  | 2 => ("HiringFairs$People", "skill", "[I", true)
  | 3 => ("HiringFairs$People", "least", "[I", true)
  | 4 => ("HiringFairs$People", "masters", "I", false)
  | 5 => ("HiringFairs$People", "wantedKind", "[I", true)
  | 6 => ("HiringFairs$People", "most", "[I", true)
  | 7 => ("HiringFairs$People", "heard", "[[I", true)
  | _ => ("HiringFairs$People", "barred", "[I", true)
def tyX2 : Nat → FieldType := fun k => match k with
  | 0 => .int
  | 1 => .array .int
  | 2 => .array .int
  | 3 => .array .int
  | 4 => .int
  | 5 => .array .int
  | 6 => .array .int
  | 7 => .array (.array .int)
  | _ => .array .int
abbrev wsX20 : List Cond := u_ws RX2 TX2 9
theorem nmX2 : ∀ a, a < 9 → ∀ b, b < 9 → a ≠ b → (TX2 a).2.1 ≠ (TX2 b).2.1 := by decide +kernel
theorem tyX2_ok : ∀ k, k < 9 → parseFieldDescriptor (TX2 k).2.2.1 = some (tyX2 k) := by decide +kernel
abbrev cX2_init : ByteArray := prog_4_method_1_code
def yX2_init : MethodName := ⟨RX2, "<init>", "()V"⟩
abbrev cX2_addServant : ByteArray := prog_4_method_2_code
def yX2_addServant : MethodName := ⟨RX2, "addServant", "(III)I"⟩
abbrev cX2_addMaster : ByteArray := prog_4_method_3_code
def yX2_addMaster : MethodName := ⟨RX2, "addMaster", "(II)I"⟩
abbrev cX2_hasServant : ByteArray := prog_4_method_4_code
def yX2_hasServant : MethodName := ⟨RX2, "hasServant", "(I)Z"⟩
abbrev cX2_hasMaster : ByteArray := prog_4_method_5_code
def yX2_hasMaster : MethodName := ⟨RX2, "hasMaster", "(I)Z"⟩
abbrev cX2_hasBoth : ByteArray := prog_4_method_6_code
def yX2_hasBoth : MethodName := ⟨RX2, "hasBoth", "(II)Z"⟩
abbrev cX2_isBarred : ByteArray := prog_4_method_7_code
def yX2_isBarred : MethodName := ⟨RX2, "isBarred", "(II)Z"⟩
abbrev cX2_setBar : ByteArray := prog_4_method_8_code
def yX2_setBar : MethodName := ⟨RX2, "setBar", "(IIZ)V"⟩
abbrev cX2_tell : ByteArray := prog_4_method_9_code
def yX2_tell : MethodName := ⟨RX2, "tell", "(III)V"⟩
abbrev cX2_hasHeard : ByteArray := prog_4_method_10_code
def yX2_hasHeard : MethodName := ⟨RX2, "hasHeard", "(II)Z"⟩
abbrev cX2_heldFor : ByteArray := prog_4_method_11_code
def yX2_heldFor : MethodName := ⟨RX2, "heldFor", "(II)I"⟩
abbrev cX2_offerTo : ByteArray := prog_4_method_12_code
def yX2_offerTo : MethodName := ⟨RX2, "offerTo", "(II)I"⟩
abbrev cX2_likingAt : ByteArray := prog_4_method_13_code
def yX2_likingAt : MethodName := ⟨RX2, "likingAt", "(III)I"⟩
def RX3 : String := "HiringFairs$Year"
def TX3 : u_T := fun k => match k with
  | 0 => ("HiringFairs$Year", "fair", "LHiringFairs$Fair;", true)
  | 1 => ("HiringFairs$Year", "day", "I", false)
  | 2 => ("HiringFairs$Year", "end", "[I", true)
  | 3 => ("HiringFairs$Year", "warned", "[Z", true)
  | 4 => ("HiringFairs$Year", "forfeited", "[Z", true)
  | _ => ("HiringFairs$Year", "sickDays", "[J", true)
def tyX3 : Nat → FieldType := fun k => match k with
  | 0 => .object "HiringFairs$Fair"
  | 1 => .int
  | 2 => .array .int
  | 3 => .array .boolean
  | 4 => .array .boolean
  | _ => .array .long
abbrev wsX30 : List Cond := u_ws RX3 TX3 6
theorem nmX3 : ∀ a, a < 6 → ∀ b, b < 6 → a ≠ b → (TX3 a).2.1 ≠ (TX3 b).2.1 := by decide +kernel
theorem tyX3_ok : ∀ k, k < 6 → parseFieldDescriptor (TX3 k).2.2.1 = some (tyX3 k) := by decide +kernel
abbrev cX3_init : ByteArray := prog_5_method_1_code
def yX3_init : MethodName := ⟨RX3, "<init>", "(LHiringFairs$Fair;)V"⟩
abbrev cX3_begin : ByteArray := prog_5_method_2_code
def yX3_begin : MethodName := ⟨RX3, "begin", "()V"⟩
abbrev cX3_hasBegun : ByteArray := prog_5_method_3_code
def yX3_hasBegun : MethodName := ⟨RX3, "hasBegun", "()Z"⟩
abbrev cX3_servesOn : ByteArray := prog_5_method_4_code
def yX3_servesOn : MethodName := ⟨RX3, "servesOn", "(II)Z"⟩
abbrev cX3_servesNow : ByteArray := prog_5_method_5_code
def yX3_servesNow : MethodName := ⟨RX3, "servesNow", "(I)Z"⟩
abbrev cX3_endOf : ByteArray := prog_5_method_6_code
def yX3_endOf : MethodName := ⟨RX3, "endOf", "(I)I"⟩
abbrev cX3_fallSick : ByteArray := prog_5_method_7_code
def yX3_fallSick : MethodName := ⟨RX3, "fallSick", "(II)V"⟩
abbrev cX3_countSick : ByteArray := prog_5_method_8_code
def yX3_countSick : MethodName := ⟨RX3, "countSick", "(II)I"⟩
abbrev cX3_wordOf : ByteArray := prog_5_method_9_code
def yX3_wordOf : MethodName := ⟨RX3, "wordOf", "(II)I"⟩
abbrev cX3_dayBit : ByteArray := prog_5_method_10_code
def yX3_dayBit : MethodName := ⟨RX3, "dayBit", "(I)J"⟩
abbrev cX3_giveWarning : ByteArray := prog_5_method_11_code
def yX3_giveWarning : MethodName := ⟨RX3, "giveWarning", "(I)I"⟩
abbrev cX3_leave : ByteArray := prog_5_method_12_code
def yX3_leave : MethodName := ⟨RX3, "leave", "(I)I"⟩
abbrev cX3_wagesDue : ByteArray := prog_5_method_13_code
def yX3_wagesDue : MethodName := ⟨RX3, "wagesDue", "(II)I"⟩
def RX4 : String := "HiringFairs"
def TX4 : u_T := fun k => match k with
  | 0 => ("HiringFairs", "people", "LHiringFairs$People;", true)
  | 1 => ("HiringFairs", "fair", "LHiringFairs$Fair;", true)
  | 2 => ("HiringFairs", "trial", "LHiringFairs$Fair;", true)
  | 3 => ("HiringFairs", "year", "LHiringFairs$Year;", true)
  | _ => ("HiringFairs", "countyText", "I", false)
def tyX4 : Nat → FieldType := fun k => match k with
  | 0 => .object "HiringFairs$People"
  | 1 => .object "HiringFairs$Fair"
  | 2 => .object "HiringFairs$Fair"
  | 3 => .object "HiringFairs$Year"
  | _ => .int
abbrev wsX40 : List Cond := u_ws RX4 TX4 5
theorem nmX4 : ∀ a, a < 5 → ∀ b, b < 5 → a ≠ b → (TX4 a).2.1 ≠ (TX4 b).2.1 := by decide +kernel
theorem tyX4_ok : ∀ k, k < 5 → parseFieldDescriptor (TX4 k).2.2.1 = some (tyX4 k) := by decide +kernel
abbrev cX4_init : ByteArray := prog_1_method_1_code
def yX4_init : MethodName := ⟨RX4, "<init>", "()V"⟩
abbrev cX4_servant : ByteArray := prog_1_method_2_code
def yX4_servant : MethodName := ⟨RX4, "servant", "(III)I"⟩
abbrev cX4_master : ByteArray := prog_1_method_3_code
def yX4_master : MethodName := ⟨RX4, "master", "(II)I"⟩
abbrev cX4_bar : ByteArray := prog_1_method_4_code
def yX4_bar : MethodName := ⟨RX4, "bar", "(IIZ)I"⟩
abbrev cX4_hear : ByteArray := prog_1_method_5_code
def yX4_hear : MethodName := ⟨RX4, "hear", "(III)I"⟩
abbrev cX4_pass : ByteArray := prog_1_method_6_code
def yX4_pass : MethodName := ⟨RX4, "pass", "(III)I"⟩
abbrev cX4_about : ByteArray := prog_1_method_7_code
def yX4_about : MethodName := ⟨RX4, "about", "(II)I"⟩
abbrev cX4_house : ByteArray := prog_1_method_8_code
def yX4_house : MethodName := ⟨RX4, "house", "(II)I"⟩
abbrev cX4_holds : ByteArray := prog_1_method_9_code
def yX4_holds : MethodName := ⟨RX4, "holds", "(II)I"⟩
abbrev cX4_offer : ByteArray := prog_1_method_10_code
def yX4_offer : MethodName := ⟨RX4, "offer", "(II)I"⟩
abbrev cX4_next : ByteArray := prog_1_method_11_code
def yX4_next : MethodName := ⟨RX4, "next", "(I)I"⟩
abbrev cX4_go : ByteArray := prog_1_method_12_code
def yX4_go : MethodName := ⟨RX4, "go", "(I)I"⟩
abbrev cX4_bargains : ByteArray := prog_1_method_13_code
def yX4_bargains : MethodName := ⟨RX4, "bargains", "()I"⟩
abbrev cX4_bargain : ByteArray := prog_1_method_14_code
def yX4_bargain : MethodName := ⟨RX4, "bargain", "(II)I"⟩
abbrev cX4_torn : ByteArray := prog_1_method_15_code
def yX4_torn : MethodName := ⟨RX4, "torn", "()I"⟩
abbrev cX4_pair : ByteArray := prog_1_method_16_code
def yX4_pair : MethodName := ⟨RX4, "pair", "(I)I"⟩
abbrev cX4_foretold : ByteArray := prog_1_method_17_code
def yX4_foretold : MethodName := ⟨RX4, "foretold", "(II)I"⟩
abbrev cX4_text : ByteArray := prog_1_method_18_code
def yX4_text : MethodName := ⟨RX4, "text", "(I)I"⟩
abbrev cX4_days : ByteArray := prog_1_method_19_code
def yX4_days : MethodName := ⟨RX4, "days", "(I)I"⟩
abbrev cX4_sick : ByteArray := prog_1_method_20_code
def yX4_sick : MethodName := ⟨RX4, "sick", "(II)I"⟩
abbrev cX4_warn : ByteArray := prog_1_method_21_code
def yX4_warn : MethodName := ⟨RX4, "warn", "(I)I"⟩
abbrev cX4_run : ByteArray := prog_1_method_22_code
def yX4_run : MethodName := ⟨RX4, "run", "(I)I"⟩
abbrev cX4_send : ByteArray := prog_1_method_23_code
def yX4_send : MethodName := ⟨RX4, "send", "(I)I"⟩
abbrev cX4_due : ByteArray := prog_1_method_24_code
def yX4_due : MethodName := ⟨RX4, "due", "(II)I"⟩
abbrev cX4_owes : ByteArray := prog_1_method_25_code
def yX4_owes : MethodName := ⟨RX4, "owes", "(II)I"⟩
abbrev cX4_hands : ByteArray := prog_1_method_26_code
def yX4_hands : MethodName := ⟨RX4, "hands", "(II)I"⟩
abbrev cX4_total : ByteArray := prog_1_method_27_code
def yX4_total : MethodName := ⟨RX4, "total", "(I)I"⟩
abbrev cX4_isHeldAboveSkill : ByteArray := prog_1_method_28_code
def yX4_isHeldAboveSkill : MethodName := ⟨RX4, "isHeldAboveSkill", "(I)Z"⟩
abbrev cX4_isWithin : ByteArray := prog_1_method_29_code
def yX4_isWithin : MethodName := ⟨RX4, "isWithin", "(III)Z"⟩
abbrev cX4_isKind : ByteArray := prog_1_method_30_code
def yX4_isKind : MethodName := ⟨RX4, "isKind", "(I)Z"⟩
abbrev cX4_isDay : ByteArray := prog_1_method_31_code
def yX4_isDay : MethodName := ⟨RX4, "isDay", "(I)Z"⟩
def RX5 : String := "HiringFairsModel"
def TX5 : u_T := fun k => match k with
  | 0 => ("HiringFairsModel", "thrown", "I", false)
  | 1 => ("HiringFairsModel", "servants", "I", false)
  | 2 => ("HiringFairsModel", "kind", "[I", true)
  | 3 => ("HiringFairsModel", "skill", "[I", true)
  | 4 => ("HiringFairsModel", "least", "[I", true)
  | 5 => ("HiringFairsModel", "masters", "I", false)
  | 6 => ("HiringFairsModel", "wants", "[I", true)
  | 7 => ("HiringFairsModel", "most", "[I", true)
  | 8 => ("HiringFairsModel", "heard", "[I", true)
  | 9 => ("HiringFairsModel", "bars", "[Z", true)
  | 10 => ("HiringFairsModel", "asked", "[Z", true)
  | 11 => ("HiringFairsModel", "boundTo", "[I", true)
  | 12 => ("HiringFairsModel", "wage", "[I", true)
  | 13 => ("HiringFairsModel", "shilling", "[I", true)
  | 14 => ("HiringFairsModel", "has", "[I", true)
  | 15 => ("HiringFairsModel", "minute", "I", false)
  | 16 => ("HiringFairsModel", "bargains", "I", false)
  | 17 => ("HiringFairsModel", "told", "[I", true)
  | 18 => ("HiringFairsModel", "text", "I", false)
  | 19 => ("HiringFairsModel", "day", "I", false)
  | 20 => ("HiringFairsModel", "end", "[I", true)
  | 21 => ("HiringFairsModel", "isWarned", "[Z", true)
  | 22 => ("HiringFairsModel", "isUnpaid", "[Z", true)
  | 23 => ("HiringFairsModel", "isSick", "[Z", true)
  | 24 => ("HiringFairsModel", "thenAsked", "[Z", true)
  | 25 => ("HiringFairsModel", "thenBound", "[I", true)
  | 26 => ("HiringFairsModel", "thenWage", "[I", true)
  | _ => ("HiringFairsModel", "thenHas", "[I", true)
def tyX5 : Nat → FieldType := fun k => match k with
  | 0 => .int
  | 1 => .int
  | 2 => .array .int
  | 3 => .array .int
  | 4 => .array .int
  | 5 => .int
  | 6 => .array .int
  | 7 => .array .int
  | 8 => .array .int
  | 9 => .array .boolean
  | 10 => .array .boolean
  | 11 => .array .int
  | 12 => .array .int
  | 13 => .array .int
  | 14 => .array .int
  | 15 => .int
  | 16 => .int
  | 17 => .array .int
  | 18 => .int
  | 19 => .int
  | 20 => .array .int
  | 21 => .array .boolean
  | 22 => .array .boolean
  | 23 => .array .boolean
  | 24 => .array .boolean
  | 25 => .array .int
  | 26 => .array .int
  | _ => .array .int
abbrev wsX50 : List Cond := u_ws RX5 TX5 28
theorem nmX5 : ∀ a, a < 28 → ∀ b, b < 28 → a ≠ b → (TX5 a).2.1 ≠ (TX5 b).2.1 := by decide +kernel
theorem tyX5_ok : ∀ k, k < 28 → parseFieldDescriptor (TX5 k).2.2.1 = some (tyX5 k) := by decide +kernel
abbrev cX5_init : ByteArray := prog_7_method_1_code
def yX5_init : MethodName := ⟨RX5, "<init>", "()V"⟩
abbrev cX5_in : ByteArray := prog_7_method_3_code
def yX5_in : MethodName := ⟨RX5, "in", "(JJJ)Z"⟩
abbrev cX5_noServant : ByteArray := prog_7_method_4_code
def yX5_noServant : MethodName := ⟨RX5, "noServant", "(I)Z"⟩
abbrev cX5_noMaster : ByteArray := prog_7_method_5_code
def yX5_noMaster : MethodName := ⟨RX5, "noMaster", "(I)Z"⟩
abbrev cX5_held : ByteArray := prog_7_method_6_code
def yX5_held : MethodName := ⟨RX5, "held", "(II)I"⟩
abbrev cX5_offerOf : ByteArray := prog_7_method_7_code
def yX5_offerOf : MethodName := ⟨RX5, "offerOf", "(II)I"⟩
abbrev cX5_nextOf : ByteArray := prog_7_method_8_code
def yX5_nextOf : MethodName := ⟨RX5, "nextOf", "(I[Z)I"⟩
abbrev cX5_isTorn : ByteArray := prog_7_method_9_code
def yX5_isTorn : MethodName := ⟨RX5, "isTorn", "(II[I[I[I)Z"⟩
abbrev cX5_servant : ByteArray := prog_7_method_10_code
def yX5_servant : MethodName := ⟨RX5, "servant", "(III)I"⟩
abbrev cX5_master : ByteArray := prog_7_method_11_code
def yX5_master : MethodName := ⟨RX5, "master", "(II)I"⟩
abbrev cX5_bar : ByteArray := prog_7_method_12_code
def yX5_bar : MethodName := ⟨RX5, "bar", "(IIZ)I"⟩
abbrev cX5_hear : ByteArray := prog_7_method_13_code
def yX5_hear : MethodName := ⟨RX5, "hear", "(III)I"⟩
abbrev cX5_pass : ByteArray := prog_7_method_14_code
def yX5_pass : MethodName := ⟨RX5, "pass", "(III)I"⟩
abbrev cX5_about : ByteArray := prog_7_method_15_code
def yX5_about : MethodName := ⟨RX5, "about", "(II)I"⟩
abbrev cX5_house : ByteArray := prog_7_method_16_code
def yX5_house : MethodName := ⟨RX5, "house", "(II)I"⟩
abbrev cX5_holds : ByteArray := prog_7_method_17_code
def yX5_holds : MethodName := ⟨RX5, "holds", "(II)I"⟩
abbrev cX5_offer : ByteArray := prog_7_method_18_code
def yX5_offer : MethodName := ⟨RX5, "offer", "(II)I"⟩
abbrev cX5_next : ByteArray := prog_7_method_19_code
def yX5_next : MethodName := ⟨RX5, "next", "(I)I"⟩
abbrev cX5_ask : ByteArray := prog_7_method_20_code
def yX5_ask : MethodName := ⟨RX5, "ask", "(I)V"⟩
abbrev cX5_go : ByteArray := prog_7_method_21_code
def yX5_go : MethodName := ⟨RX5, "go", "(I)I"⟩
abbrev cX5_bargains : ByteArray := prog_7_method_22_code
def yX5_bargains : MethodName := ⟨RX5, "bargains", "()I"⟩
abbrev cX5_bargain : ByteArray := prog_7_method_23_code
def yX5_bargain : MethodName := ⟨RX5, "bargain", "(II)I"⟩
abbrev cX5_torn : ByteArray := prog_7_method_24_code
def yX5_torn : MethodName := ⟨RX5, "torn", "()I"⟩
abbrev cX5_pair : ByteArray := prog_7_method_25_code
def yX5_pair : MethodName := ⟨RX5, "pair", "(I)I"⟩
abbrev cX5_foretell : ByteArray := prog_7_method_26_code
def yX5_foretell : MethodName := ⟨RX5, "foretell", "(Z)V"⟩
abbrev cX5_foretold : ByteArray := prog_7_method_27_code
def yX5_foretold : MethodName := ⟨RX5, "foretold", "(II)I"⟩
abbrev cX5_text : ByteArray := prog_7_method_28_code
def yX5_text : MethodName := ⟨RX5, "text", "(I)I"⟩
abbrev cX5_days : ByteArray := prog_7_method_29_code
def yX5_days : MethodName := ⟨RX5, "days", "(I)I"⟩
abbrev cX5_serves : ByteArray := prog_7_method_30_code
def yX5_serves : MethodName := ⟨RX5, "serves", "(II)Z"⟩
abbrev cX5_sick : ByteArray := prog_7_method_31_code
def yX5_sick : MethodName := ⟨RX5, "sick", "(II)I"⟩
abbrev cX5_warn : ByteArray := prog_7_method_32_code
def yX5_warn : MethodName := ⟨RX5, "warn", "(I)I"⟩
abbrev cX5_run : ByteArray := prog_7_method_33_code
def yX5_run : MethodName := ⟨RX5, "run", "(I)I"⟩
abbrev cX5_send : ByteArray := prog_7_method_34_code
def yX5_send : MethodName := ⟨RX5, "send", "(I)I"⟩
abbrev cX5_dueOf : ByteArray := prog_7_method_35_code
def yX5_dueOf : MethodName := ⟨RX5, "dueOf", "(II)I"⟩
abbrev cX5_due : ByteArray := prog_7_method_36_code
def yX5_due : MethodName := ⟨RX5, "due", "(II)I"⟩
abbrev cX5_owes : ByteArray := prog_7_method_37_code
def yX5_owes : MethodName := ⟨RX5, "owes", "(II)I"⟩
abbrev cX5_hands : ByteArray := prog_7_method_38_code
def yX5_hands : MethodName := ⟨RX5, "hands", "(II)I"⟩
abbrev cX5_total : ByteArray := prog_7_method_39_code
def yX5_total : MethodName := ⟨RX5, "total", "(I)I"⟩
def RJ6 : String := "java/lang/Integer"
def TJ6 : u_T := fun k => match k with
  | _ => ("", "", "", false)
def tyJ6 : Nat → FieldType := fun k => match k with
  | _ => .int
abbrev wsJ60 : List Cond := u_ws RJ6 TJ6 0
theorem nmJ6 : ∀ a, a < 0 → ∀ b, b < 0 → a ≠ b → (TJ6 a).2.1 ≠ (TJ6 b).2.1 := by decide +kernel
theorem tyJ6_ok : ∀ k, k < 0 → parseFieldDescriptor (TJ6 k).2.2.1 = some (tyJ6 k) := by decide +kernel
abbrev cJ6_bitCount_0f7a4 : ByteArray := prog_8_method_49_code
def yJ6_bitCount_0f7a4 : MethodName := ⟨RJ6, "bitCount", "(I)I"⟩
def RJ9 : String := "java/lang/Math"
def TJ9 : u_T := fun k => match k with
  | _ => ("", "", "", false)
def tyJ9 : Nat → FieldType := fun k => match k with
  | _ => .int
abbrev wsJ90 : List Cond := u_ws RJ9 TJ9 0
theorem nmJ9 : ∀ a, a < 0 → ∀ b, b < 0 → a ≠ b → (TJ9 a).2.1 ≠ (TJ9 b).2.1 := by decide +kernel
theorem tyJ9_ok : ∀ k, k < 0 → parseFieldDescriptor (TJ9 k).2.2.1 = some (tyJ9 k) := by decide +kernel
abbrev cJ9_max_7cf53 : ByteArray := prog_9_method_65_code
def yJ9_max_7cf53 : MethodName := ⟨RJ9, "max", "(II)I"⟩
abbrev cJ9_min_7cf53 : ByteArray := prog_9_method_69_code
def yJ9_min_7cf53 : MethodName := ⟨RJ9, "min", "(II)I"⟩
def RJ7 : String := "java/util/Arrays"
def TJ7 : u_T := fun k => match k with
  | _ => ("", "", "", false)
def tyJ7 : Nat → FieldType := fun k => match k with
  | _ => .int
abbrev wsJ70 : List Cond := u_ws RJ7 TJ7 0
theorem nmJ7 : ∀ a, a < 0 → ∀ b, b < 0 → a ≠ b → (TJ7 a).2.1 ≠ (TJ7 b).2.1 := by decide +kernel
theorem tyJ7_ok : ∀ k, k < 0 → parseFieldDescriptor (TJ7 k).2.2.1 = some (tyJ7 k) := by decide +kernel
abbrev cJ7_fill_53178 : ByteArray := prog_10_method_103_code
def yJ7_fill_53178 : MethodName := ⟨RJ7, "fill", "([II)V"⟩
def RL : String := "HiringFairsLaw"
abbrev cL_law : ByteArray := code
def yL_law : MethodName := ⟨RL, "law", "([I)Z"⟩
def wsJ7_fill_53178 : List Cond := .code yJ7_fill_53178 cJ7_fill_53178 4 none :: ([])
def wsX0_startAnew : List Cond := .code yX0_startAnew cX0_startAnew 1 none :: ([.fieldLink RX0 38 "HiringFairs$Fair" "minutes" "I", .fieldLink RX0 15 "HiringFairs$Fair" "ledger" "LHiringFairs$Ledger;", .fieldLink RX0 42 "HiringFairs$Ledger" "count" "I", .fieldLink RX0 19 "HiringFairs$Fair" "masterOf" "[I", .fieldLink RX0 23 "HiringFairs$Fair" "wage" "[I", .fieldLink RX0 26 "HiringFairs$Fair" "shillingMinute" "[I", .fieldLink RX0 29 "HiringFairs$Fair" "servantOf" "[I", .fieldLink RX0 32 "HiringFairs$Fair" "asked" "[I", .methodLink RX0 47 yJ7_fill_53178, .static yJ7_fill_53178, .initialized RJ7, .code yJ7_fill_53178 cJ7_fill_53178 4 none] ++ wsX00 ++ wsX10)
def wsX0_init : List Cond := .code yX0_init cX0_init 3 none :: ([.methodLink RX0 3 objectInit, .instanceMethod objectInit, .code objectInit ⟨#[0xb1]⟩ 1 none, .fieldLink RX0 9 "HiringFairs$Fair" "people" "LHiringFairs$People;", .fieldLink RX0 15 "HiringFairs$Fair" "ledger" "LHiringFairs$Ledger;", .arrayClass .int, .fieldLink RX0 19 "HiringFairs$Fair" "masterOf" "[I", .fieldLink RX0 23 "HiringFairs$Fair" "wage" "[I", .fieldLink RX0 26 "HiringFairs$Fair" "shillingMinute" "[I", .fieldLink RX0 29 "HiringFairs$Fair" "servantOf" "[I", .fieldLink RX0 32 "HiringFairs$Fair" "asked" "[I", .methodLink RX0 35 yX0_startAnew, .instanceMethod yX0_startAnew, .selects RX0 yX0_startAnew yX0_startAnew, .initialized RX0, .code yX0_startAnew cX0_startAnew 1 none, .fieldLink RX0 38 "HiringFairs$Fair" "minutes" "I", .fieldLink RX0 42 "HiringFairs$Ledger" "count" "I", .methodLink RX0 47 yJ7_fill_53178, .static yJ7_fill_53178, .initialized RJ7, .code yJ7_fill_53178 cJ7_fill_53178 4 none] ++ wsX00 ++ wsX10)
def wsX2_isBarred : List Cond := .code yX2_isBarred cX2_isBarred 3 (some .boolean) :: ([.fieldLink RX2 32 "HiringFairs$People" "barred" "[I"] ++ wsX20)
def wsX2_heldFor : List Cond := .code yX2_heldFor cX2_heldFor 4 (some .int) :: ([.fieldLink RX2 29 "HiringFairs$People" "heard" "[[I"] ++ wsX20)
def wsX2_offerTo : List Cond := .code yX2_offerTo cX2_offerTo 4 (some .int) :: ([.fieldLink RX2 21 "HiringFairs$People" "wantedKind" "[I", .fieldLink RX2 9 "HiringFairs$People" "kind" "[I", .fieldLink RX2 24 "HiringFairs$People" "most" "[I", .fieldLink RX2 18 "HiringFairs$People" "least" "[I", .methodLink RX2 49 yX2_isBarred, .instanceMethod yX2_isBarred, .selects RX2 yX2_isBarred yX2_isBarred, .initialized RX2, .code yX2_isBarred cX2_isBarred 3 (some .boolean), .fieldLink RX2 32 "HiringFairs$People" "barred" "[I", .methodLink RX2 53 yX2_heldFor, .instanceMethod yX2_heldFor, .selects RX2 yX2_heldFor yX2_heldFor, .code yX2_heldFor cX2_heldFor 4 (some .int), .fieldLink RX2 29 "HiringFairs$People" "heard" "[[I"] ++ wsX20)
def wsX0_hasAsked : List Cond := .code yX0_hasAsked cX0_hasAsked 3 (some .boolean) :: ([.fieldLink RX0 32 "HiringFairs$Fair" "asked" "[I"] ++ wsX00)
def wsX2_likingAt : List Cond := .code yX2_likingAt cX2_likingAt 4 (some .int) :: ([.methodLink RX2 53 yX2_heldFor, .instanceMethod yX2_heldFor, .selects RX2 yX2_heldFor yX2_heldFor, .initialized RX2, .code yX2_heldFor cX2_heldFor 4 (some .int), .fieldLink RX2 29 "HiringFairs$People" "heard" "[[I"] ++ wsX20)
def wsX0_choiceOf_r1 : List Cond := [Cond.fieldLink RX0 9 "HiringFairs$Fair" "people" "LHiringFairs$People;", Cond.fieldLink RX0 91 "HiringFairs$People" "servants" "I", Cond.methodLink RX0 76 yX2_offerTo, Cond.instanceMethod yX2_offerTo, Cond.selects RX2 yX2_offerTo yX2_offerTo, Cond.initialized RX2, Cond.code yX2_offerTo cX2_offerTo 4 (some .int), Cond.fieldLink RX2 21 "HiringFairs$People" "wantedKind" "[I", Cond.fieldLink RX2 9 "HiringFairs$People" "kind" "[I", Cond.fieldLink RX2 24 "HiringFairs$People" "most" "[I", Cond.fieldLink RX2 18 "HiringFairs$People" "least" "[I", Cond.methodLink RX2 49 yX2_isBarred, Cond.instanceMethod yX2_isBarred, Cond.selects RX2 yX2_isBarred yX2_isBarred, Cond.code yX2_isBarred cX2_isBarred 3 (some .boolean), Cond.fieldLink RX2 32 "HiringFairs$People" "barred" "[I", Cond.methodLink RX2 53 yX2_heldFor, Cond.instanceMethod yX2_heldFor, Cond.selects RX2 yX2_heldFor yX2_heldFor, Cond.code yX2_heldFor cX2_heldFor 4 (some .int), Cond.fieldLink RX2 29 "HiringFairs$People" "heard" "[[I", Cond.methodLink RX0 94 yX0_hasAsked, Cond.instanceMethod yX0_hasAsked, Cond.selects RX0 yX0_hasAsked yX0_hasAsked]
def wsX0_choiceOf_r2 : List Cond := [Cond.initialized RX0, Cond.code yX0_hasAsked cX0_hasAsked 3 (some .boolean), Cond.fieldLink RX0 32 "HiringFairs$Fair" "asked" "[I", Cond.methodLink RX0 97 yX2_likingAt, Cond.instanceMethod yX2_likingAt, Cond.selects RX2 yX2_likingAt yX2_likingAt, Cond.code yX2_likingAt cX2_likingAt 4 (some .int)]
def wsX0_choiceOf : List Cond := .code yX0_choiceOf cX0_choiceOf 7 (some .int) :: ((wsX0_choiceOf_r1 ++ wsX0_choiceOf_r2) ++ wsX00 ++ wsX20)
def wsX0_isBound : List Cond := .code yX0_isBound cX0_isBound 2 (some .boolean) :: ([.fieldLink RX0 19 "HiringFairs$Fair" "masterOf" "[I"] ++ wsX00)
def wsX0_takes : List Cond := .code yX0_takes cX0_takes 4 (some .boolean) :: ([.fieldLink RX0 23 "HiringFairs$Fair" "wage" "[I", .methodLink RX0 101 yX0_isBound, .instanceMethod yX0_isBound, .selects RX0 yX0_isBound yX0_isBound, .initialized RX0, .code yX0_isBound cX0_isBound 2 (some .boolean), .fieldLink RX0 19 "HiringFairs$Fair" "masterOf" "[I"] ++ wsX00)
def wsX1_write : List Cond := .code yX1_write cX1_write 8 none :: ([.fieldLink RX1 23 "HiringFairs$Ledger" "count" "I", .fieldLink RX1 13 "HiringFairs$Ledger" "room" "I", .fieldLink RX1 19 "HiringFairs$Ledger" "rows" "[I"] ++ wsX10)
def wsX0_bind : List Cond := .code yX0_bind cX0_bind 6 none :: ([.fieldLink RX0 19 "HiringFairs$Fair" "masterOf" "[I", .fieldLink RX0 29 "HiringFairs$Fair" "servantOf" "[I", .fieldLink RX0 23 "HiringFairs$Fair" "wage" "[I", .fieldLink RX0 26 "HiringFairs$Fair" "shillingMinute" "[I"] ++ wsX00)
def wsX0_askBest_r1 : List Cond := [Cond.fieldLink RX0 9 "HiringFairs$Fair" "people" "LHiringFairs$People;", Cond.fieldLink RX0 19 "HiringFairs$Fair" "masterOf" "[I", Cond.fieldLink RX0 32 "HiringFairs$Fair" "asked" "[I", Cond.fieldLink RX0 15 "HiringFairs$Fair" "ledger" "LHiringFairs$Ledger;", Cond.methodLink RX0 72 yX0_choiceOf, Cond.instanceMethod yX0_choiceOf, Cond.selects RX0 yX0_choiceOf yX0_choiceOf, Cond.initialized RX0, Cond.code yX0_choiceOf cX0_choiceOf 7 (some .int), Cond.fieldLink RX0 91 "HiringFairs$People" "servants" "I", Cond.methodLink RX0 76 yX2_offerTo, Cond.instanceMethod yX2_offerTo, Cond.selects RX2 yX2_offerTo yX2_offerTo, Cond.initialized RX2, Cond.code yX2_offerTo cX2_offerTo 4 (some .int), Cond.fieldLink RX2 21 "HiringFairs$People" "wantedKind" "[I", Cond.fieldLink RX2 9 "HiringFairs$People" "kind" "[I", Cond.fieldLink RX2 24 "HiringFairs$People" "most" "[I", Cond.fieldLink RX2 18 "HiringFairs$People" "least" "[I", Cond.methodLink RX2 49 yX2_isBarred, Cond.instanceMethod yX2_isBarred, Cond.selects RX2 yX2_isBarred yX2_isBarred, Cond.code yX2_isBarred cX2_isBarred 3 (some .boolean), Cond.fieldLink RX2 32 "HiringFairs$People" "barred" "[I"]
def wsX0_askBest_r2 : List Cond := [Cond.methodLink RX2 53 yX2_heldFor, Cond.instanceMethod yX2_heldFor, Cond.selects RX2 yX2_heldFor yX2_heldFor, Cond.code yX2_heldFor cX2_heldFor 4 (some .int), Cond.fieldLink RX2 29 "HiringFairs$People" "heard" "[[I", Cond.methodLink RX0 94 yX0_hasAsked, Cond.instanceMethod yX0_hasAsked, Cond.selects RX0 yX0_hasAsked yX0_hasAsked, Cond.code yX0_hasAsked cX0_hasAsked 3 (some .boolean), Cond.methodLink RX0 97 yX2_likingAt, Cond.instanceMethod yX2_likingAt, Cond.selects RX2 yX2_likingAt yX2_likingAt, Cond.code yX2_likingAt cX2_likingAt 4 (some .int), Cond.methodLink RX0 79 yX0_takes, Cond.instanceMethod yX0_takes, Cond.selects RX0 yX0_takes yX0_takes, Cond.code yX0_takes cX0_takes 4 (some .boolean), Cond.fieldLink RX0 23 "HiringFairs$Fair" "wage" "[I", Cond.methodLink RX0 101 yX0_isBound, Cond.instanceMethod yX0_isBound, Cond.selects RX0 yX0_isBound yX0_isBound, Cond.code yX0_isBound cX0_isBound 2 (some .boolean), Cond.methodLink RX0 83 yX1_write, Cond.instanceMethod yX1_write]
def wsX0_askBest_r3 : List Cond := [Cond.selects RX1 yX1_write yX1_write, Cond.initialized RX1, Cond.code yX1_write cX1_write 8 none, Cond.fieldLink RX1 23 "HiringFairs$Ledger" "count" "I", Cond.fieldLink RX1 13 "HiringFairs$Ledger" "room" "I", Cond.fieldLink RX1 19 "HiringFairs$Ledger" "rows" "[I", Cond.methodLink RX0 87 yX0_bind, Cond.instanceMethod yX0_bind, Cond.selects RX0 yX0_bind yX0_bind, Cond.code yX0_bind cX0_bind 6 none, Cond.fieldLink RX0 29 "HiringFairs$Fair" "servantOf" "[I", Cond.fieldLink RX0 26 "HiringFairs$Fair" "shillingMinute" "[I"]
def wsX0_askBest : List Cond := .code yX0_askBest cX0_askBest 7 (some .boolean) :: ((wsX0_askBest_r1 ++ (wsX0_askBest_r2 ++ wsX0_askBest_r3)) ++ wsX00 ++ wsX20 ++ wsX10)
def wsX0_playMinute_r1 : List Cond := [Cond.fieldLink RX0 9 "HiringFairs$Fair" "people" "LHiringFairs$People;", Cond.fieldLink RX0 63 "HiringFairs$People" "masters" "I", Cond.fieldLink RX0 29 "HiringFairs$Fair" "servantOf" "[I", Cond.methodLink RX0 68 yX0_askBest, Cond.instanceMethod yX0_askBest, Cond.selects RX0 yX0_askBest yX0_askBest, Cond.initialized RX0, Cond.code yX0_askBest cX0_askBest 7 (some .boolean), Cond.fieldLink RX0 19 "HiringFairs$Fair" "masterOf" "[I", Cond.fieldLink RX0 32 "HiringFairs$Fair" "asked" "[I", Cond.fieldLink RX0 15 "HiringFairs$Fair" "ledger" "LHiringFairs$Ledger;", Cond.methodLink RX0 72 yX0_choiceOf, Cond.instanceMethod yX0_choiceOf, Cond.selects RX0 yX0_choiceOf yX0_choiceOf, Cond.code yX0_choiceOf cX0_choiceOf 7 (some .int), Cond.fieldLink RX0 91 "HiringFairs$People" "servants" "I", Cond.methodLink RX0 76 yX2_offerTo, Cond.instanceMethod yX2_offerTo, Cond.selects RX2 yX2_offerTo yX2_offerTo, Cond.initialized RX2, Cond.code yX2_offerTo cX2_offerTo 4 (some .int), Cond.fieldLink RX2 21 "HiringFairs$People" "wantedKind" "[I", Cond.fieldLink RX2 9 "HiringFairs$People" "kind" "[I", Cond.fieldLink RX2 24 "HiringFairs$People" "most" "[I"]
def wsX0_playMinute_r2 : List Cond := [Cond.fieldLink RX2 18 "HiringFairs$People" "least" "[I", Cond.methodLink RX2 49 yX2_isBarred, Cond.instanceMethod yX2_isBarred, Cond.selects RX2 yX2_isBarred yX2_isBarred, Cond.code yX2_isBarred cX2_isBarred 3 (some .boolean), Cond.fieldLink RX2 32 "HiringFairs$People" "barred" "[I", Cond.methodLink RX2 53 yX2_heldFor, Cond.instanceMethod yX2_heldFor, Cond.selects RX2 yX2_heldFor yX2_heldFor, Cond.code yX2_heldFor cX2_heldFor 4 (some .int), Cond.fieldLink RX2 29 "HiringFairs$People" "heard" "[[I", Cond.methodLink RX0 94 yX0_hasAsked, Cond.instanceMethod yX0_hasAsked, Cond.selects RX0 yX0_hasAsked yX0_hasAsked, Cond.code yX0_hasAsked cX0_hasAsked 3 (some .boolean), Cond.methodLink RX0 97 yX2_likingAt, Cond.instanceMethod yX2_likingAt, Cond.selects RX2 yX2_likingAt yX2_likingAt, Cond.code yX2_likingAt cX2_likingAt 4 (some .int), Cond.methodLink RX0 79 yX0_takes, Cond.instanceMethod yX0_takes, Cond.selects RX0 yX0_takes yX0_takes, Cond.code yX0_takes cX0_takes 4 (some .boolean), Cond.fieldLink RX0 23 "HiringFairs$Fair" "wage" "[I"]
def wsX0_playMinute_r3 : List Cond := [Cond.methodLink RX0 101 yX0_isBound, Cond.instanceMethod yX0_isBound, Cond.selects RX0 yX0_isBound yX0_isBound, Cond.code yX0_isBound cX0_isBound 2 (some .boolean), Cond.methodLink RX0 83 yX1_write, Cond.instanceMethod yX1_write, Cond.selects RX1 yX1_write yX1_write, Cond.initialized RX1, Cond.code yX1_write cX1_write 8 none, Cond.fieldLink RX1 23 "HiringFairs$Ledger" "count" "I", Cond.fieldLink RX1 13 "HiringFairs$Ledger" "room" "I", Cond.fieldLink RX1 19 "HiringFairs$Ledger" "rows" "[I", Cond.methodLink RX0 87 yX0_bind, Cond.instanceMethod yX0_bind, Cond.selects RX0 yX0_bind yX0_bind, Cond.code yX0_bind cX0_bind 6 none, Cond.fieldLink RX0 26 "HiringFairs$Fair" "shillingMinute" "[I"]
def wsX0_playMinute : List Cond := .code yX0_playMinute cX0_playMinute 6 (some .boolean) :: ((wsX0_playMinute_r1 ++ (wsX0_playMinute_r2 ++ wsX0_playMinute_r3)) ++ wsX00 ++ wsX20 ++ wsX10)
def wsX0_goOn_r1 : List Cond := [Cond.fieldLink RX0 38 "HiringFairs$Fair" "minutes" "I", Cond.methodLink RX0 53 Lib.Math.min.name, Cond.static Lib.Math.min.name, Cond.initialized "java/lang/Math", Cond.code Lib.Math.min.name Lib.Math.min.code 2 (some .int), Cond.methodLink RX0 59 yX0_playMinute, Cond.instanceMethod yX0_playMinute, Cond.selects RX0 yX0_playMinute yX0_playMinute, Cond.initialized RX0, Cond.code yX0_playMinute cX0_playMinute 6 (some .boolean), Cond.fieldLink RX0 9 "HiringFairs$Fair" "people" "LHiringFairs$People;", Cond.fieldLink RX0 63 "HiringFairs$People" "masters" "I", Cond.fieldLink RX0 29 "HiringFairs$Fair" "servantOf" "[I", Cond.methodLink RX0 68 yX0_askBest, Cond.instanceMethod yX0_askBest, Cond.selects RX0 yX0_askBest yX0_askBest, Cond.code yX0_askBest cX0_askBest 7 (some .boolean), Cond.fieldLink RX0 19 "HiringFairs$Fair" "masterOf" "[I", Cond.fieldLink RX0 32 "HiringFairs$Fair" "asked" "[I", Cond.fieldLink RX0 15 "HiringFairs$Fair" "ledger" "LHiringFairs$Ledger;", Cond.methodLink RX0 72 yX0_choiceOf, Cond.instanceMethod yX0_choiceOf, Cond.selects RX0 yX0_choiceOf yX0_choiceOf, Cond.code yX0_choiceOf cX0_choiceOf 7 (some .int)]
def wsX0_goOn_r2 : List Cond := [Cond.fieldLink RX0 91 "HiringFairs$People" "servants" "I", Cond.methodLink RX0 76 yX2_offerTo, Cond.instanceMethod yX2_offerTo, Cond.selects RX2 yX2_offerTo yX2_offerTo, Cond.initialized RX2, Cond.code yX2_offerTo cX2_offerTo 4 (some .int), Cond.fieldLink RX2 21 "HiringFairs$People" "wantedKind" "[I", Cond.fieldLink RX2 9 "HiringFairs$People" "kind" "[I", Cond.fieldLink RX2 24 "HiringFairs$People" "most" "[I", Cond.fieldLink RX2 18 "HiringFairs$People" "least" "[I", Cond.methodLink RX2 49 yX2_isBarred, Cond.instanceMethod yX2_isBarred, Cond.selects RX2 yX2_isBarred yX2_isBarred, Cond.code yX2_isBarred cX2_isBarred 3 (some .boolean), Cond.fieldLink RX2 32 "HiringFairs$People" "barred" "[I", Cond.methodLink RX2 53 yX2_heldFor, Cond.instanceMethod yX2_heldFor, Cond.selects RX2 yX2_heldFor yX2_heldFor, Cond.code yX2_heldFor cX2_heldFor 4 (some .int), Cond.fieldLink RX2 29 "HiringFairs$People" "heard" "[[I", Cond.methodLink RX0 94 yX0_hasAsked, Cond.instanceMethod yX0_hasAsked, Cond.selects RX0 yX0_hasAsked yX0_hasAsked, Cond.code yX0_hasAsked cX0_hasAsked 3 (some .boolean)]
def wsX0_goOn_r3 : List Cond := [Cond.methodLink RX0 97 yX2_likingAt, Cond.instanceMethod yX2_likingAt, Cond.selects RX2 yX2_likingAt yX2_likingAt, Cond.code yX2_likingAt cX2_likingAt 4 (some .int), Cond.methodLink RX0 79 yX0_takes, Cond.instanceMethod yX0_takes, Cond.selects RX0 yX0_takes yX0_takes, Cond.code yX0_takes cX0_takes 4 (some .boolean), Cond.fieldLink RX0 23 "HiringFairs$Fair" "wage" "[I", Cond.methodLink RX0 101 yX0_isBound, Cond.instanceMethod yX0_isBound, Cond.selects RX0 yX0_isBound yX0_isBound, Cond.code yX0_isBound cX0_isBound 2 (some .boolean), Cond.methodLink RX0 83 yX1_write, Cond.instanceMethod yX1_write, Cond.selects RX1 yX1_write yX1_write, Cond.initialized RX1, Cond.code yX1_write cX1_write 8 none, Cond.fieldLink RX1 23 "HiringFairs$Ledger" "count" "I", Cond.fieldLink RX1 13 "HiringFairs$Ledger" "room" "I", Cond.fieldLink RX1 19 "HiringFairs$Ledger" "rows" "[I", Cond.methodLink RX0 87 yX0_bind, Cond.instanceMethod yX0_bind, Cond.selects RX0 yX0_bind yX0_bind]
def wsX0_goOn_r4 : List Cond := [Cond.code yX0_bind cX0_bind 6 none, Cond.fieldLink RX0 26 "HiringFairs$Fair" "shillingMinute" "[I"]
def wsX0_goOn : List Cond := .code yX0_goOn cX0_goOn 6 none :: ((wsX0_goOn_r1 ++ (wsX0_goOn_r2 ++ (wsX0_goOn_r3 ++ wsX0_goOn_r4))) ++ wsX00 ++ wsX20 ++ wsX10)
def wsJ6_bitCount_0f7a4 : List Cond := .code yJ6_bitCount_0f7a4 cJ6_bitCount_0f7a4 1 (some .int) :: ([.constant RJ6 265 (1431655765), .constant RJ6 266 (858993459), .constant RJ6 267 (252645135)])
def wsX0_countAsked : List Cond := .code yX0_countAsked cX0_countAsked 2 (some .int) :: ([.fieldLink RX0 32 "HiringFairs$Fair" "asked" "[I", .methodLink RX0 105 yJ6_bitCount_0f7a4, .static yJ6_bitCount_0f7a4, .initialized RJ6, .code yJ6_bitCount_0f7a4 cJ6_bitCount_0f7a4 1 (some .int), .constant RJ6 265 (1431655765), .constant RJ6 266 (858993459), .constant RJ6 267 (252645135)] ++ wsX00)
def wsX0_countBound : List Cond := .code yX0_countBound cX0_countBound 3 (some .int) :: ([.fieldLink RX0 9 "HiringFairs$Fair" "people" "LHiringFairs$People;", .fieldLink RX0 91 "HiringFairs$People" "servants" "I", .methodLink RX0 101 yX0_isBound, .instanceMethod yX0_isBound, .selects RX0 yX0_isBound yX0_isBound, .initialized RX0, .code yX0_isBound cX0_isBound 2 (some .boolean), .fieldLink RX0 19 "HiringFairs$Fair" "masterOf" "[I"] ++ wsX00 ++ wsX20)
def wsX0_sumWages : List Cond := .code yX0_sumWages cX0_sumWages 3 (some .int) :: ([.fieldLink RX0 9 "HiringFairs$Fair" "people" "LHiringFairs$People;", .fieldLink RX0 91 "HiringFairs$People" "servants" "I", .fieldLink RX0 23 "HiringFairs$Fair" "wage" "[I", .methodLink RX0 101 yX0_isBound, .instanceMethod yX0_isBound, .selects RX0 yX0_isBound yX0_isBound, .initialized RX0, .code yX0_isBound cX0_isBound 2 (some .boolean), .fieldLink RX0 19 "HiringFairs$Fair" "masterOf" "[I"] ++ wsX00 ++ wsX20)
def wsX0_wouldRather : List Cond := .code yX0_wouldRather cX0_wouldRather 5 (some .boolean) :: ([.fieldLink RX0 29 "HiringFairs$Fair" "servantOf" "[I", .fieldLink RX0 9 "HiringFairs$Fair" "people" "LHiringFairs$People;", .fieldLink RX0 23 "HiringFairs$Fair" "wage" "[I", .methodLink RX0 97 yX2_likingAt, .instanceMethod yX2_likingAt, .selects RX2 yX2_likingAt yX2_likingAt, .initialized RX2, .code yX2_likingAt cX2_likingAt 4 (some .int), .methodLink RX2 53 yX2_heldFor, .instanceMethod yX2_heldFor, .selects RX2 yX2_heldFor yX2_heldFor, .code yX2_heldFor cX2_heldFor 4 (some .int), .fieldLink RX2 29 "HiringFairs$People" "heard" "[[I"] ++ wsX00 ++ wsX20)
def wsX0_isTorn_r1 : List Cond := [Cond.fieldLink RX0 9 "HiringFairs$Fair" "people" "LHiringFairs$People;", Cond.fieldLink RX0 19 "HiringFairs$Fair" "masterOf" "[I", Cond.fieldLink RX0 23 "HiringFairs$Fair" "wage" "[I", Cond.methodLink RX0 76 yX2_offerTo, Cond.instanceMethod yX2_offerTo, Cond.selects RX2 yX2_offerTo yX2_offerTo, Cond.initialized RX2, Cond.code yX2_offerTo cX2_offerTo 4 (some .int), Cond.fieldLink RX2 21 "HiringFairs$People" "wantedKind" "[I", Cond.fieldLink RX2 9 "HiringFairs$People" "kind" "[I", Cond.fieldLink RX2 24 "HiringFairs$People" "most" "[I", Cond.fieldLink RX2 18 "HiringFairs$People" "least" "[I", Cond.methodLink RX2 49 yX2_isBarred, Cond.instanceMethod yX2_isBarred, Cond.selects RX2 yX2_isBarred yX2_isBarred, Cond.code yX2_isBarred cX2_isBarred 3 (some .boolean), Cond.fieldLink RX2 32 "HiringFairs$People" "barred" "[I", Cond.methodLink RX2 53 yX2_heldFor, Cond.instanceMethod yX2_heldFor, Cond.selects RX2 yX2_heldFor yX2_heldFor, Cond.code yX2_heldFor cX2_heldFor 4 (some .int), Cond.fieldLink RX2 29 "HiringFairs$People" "heard" "[[I", Cond.methodLink RX0 101 yX0_isBound, Cond.instanceMethod yX0_isBound]
def wsX0_isTorn_r2 : List Cond := [Cond.selects RX0 yX0_isBound yX0_isBound, Cond.initialized RX0, Cond.code yX0_isBound cX0_isBound 2 (some .boolean), Cond.methodLink RX0 113 yX0_wouldRather, Cond.instanceMethod yX0_wouldRather, Cond.selects RX0 yX0_wouldRather yX0_wouldRather, Cond.code yX0_wouldRather cX0_wouldRather 5 (some .boolean), Cond.fieldLink RX0 29 "HiringFairs$Fair" "servantOf" "[I", Cond.methodLink RX0 97 yX2_likingAt, Cond.instanceMethod yX2_likingAt, Cond.selects RX2 yX2_likingAt yX2_likingAt, Cond.code yX2_likingAt cX2_likingAt 4 (some .int)]
def wsX0_isTorn : List Cond := .code yX0_isTorn cX0_isTorn 5 (some .boolean) :: ((wsX0_isTorn_r1 ++ wsX0_isTorn_r2) ++ wsX00 ++ wsX20)
def wsX0_countTorn_r1 : List Cond := [Cond.fieldLink RX0 9 "HiringFairs$Fair" "people" "LHiringFairs$People;", Cond.fieldLink RX0 91 "HiringFairs$People" "servants" "I", Cond.fieldLink RX0 63 "HiringFairs$People" "masters" "I", Cond.methodLink RX0 110 yX0_isTorn, Cond.instanceMethod yX0_isTorn, Cond.selects RX0 yX0_isTorn yX0_isTorn, Cond.initialized RX0, Cond.code yX0_isTorn cX0_isTorn 5 (some .boolean), Cond.fieldLink RX0 19 "HiringFairs$Fair" "masterOf" "[I", Cond.fieldLink RX0 23 "HiringFairs$Fair" "wage" "[I", Cond.methodLink RX0 76 yX2_offerTo, Cond.instanceMethod yX2_offerTo, Cond.selects RX2 yX2_offerTo yX2_offerTo, Cond.initialized RX2, Cond.code yX2_offerTo cX2_offerTo 4 (some .int), Cond.fieldLink RX2 21 "HiringFairs$People" "wantedKind" "[I", Cond.fieldLink RX2 9 "HiringFairs$People" "kind" "[I", Cond.fieldLink RX2 24 "HiringFairs$People" "most" "[I", Cond.fieldLink RX2 18 "HiringFairs$People" "least" "[I", Cond.methodLink RX2 49 yX2_isBarred, Cond.instanceMethod yX2_isBarred, Cond.selects RX2 yX2_isBarred yX2_isBarred, Cond.code yX2_isBarred cX2_isBarred 3 (some .boolean), Cond.fieldLink RX2 32 "HiringFairs$People" "barred" "[I"]
def wsX0_countTorn_r2 : List Cond := [Cond.methodLink RX2 53 yX2_heldFor, Cond.instanceMethod yX2_heldFor, Cond.selects RX2 yX2_heldFor yX2_heldFor, Cond.code yX2_heldFor cX2_heldFor 4 (some .int), Cond.fieldLink RX2 29 "HiringFairs$People" "heard" "[[I", Cond.methodLink RX0 101 yX0_isBound, Cond.instanceMethod yX0_isBound, Cond.selects RX0 yX0_isBound yX0_isBound, Cond.code yX0_isBound cX0_isBound 2 (some .boolean), Cond.methodLink RX0 113 yX0_wouldRather, Cond.instanceMethod yX0_wouldRather, Cond.selects RX0 yX0_wouldRather yX0_wouldRather, Cond.code yX0_wouldRather cX0_wouldRather 5 (some .boolean), Cond.fieldLink RX0 29 "HiringFairs$Fair" "servantOf" "[I", Cond.methodLink RX0 97 yX2_likingAt, Cond.instanceMethod yX2_likingAt, Cond.selects RX2 yX2_likingAt yX2_likingAt, Cond.code yX2_likingAt cX2_likingAt 4 (some .int)]
def wsX0_countTorn : List Cond := .code yX0_countTorn cX0_countTorn 4 (some .int) :: ((wsX0_countTorn_r1 ++ wsX0_countTorn_r2) ++ wsX00 ++ wsX20)
def wsX0_findTorn_r1 : List Cond := [Cond.fieldLink RX0 9 "HiringFairs$Fair" "people" "LHiringFairs$People;", Cond.fieldLink RX0 91 "HiringFairs$People" "servants" "I", Cond.fieldLink RX0 63 "HiringFairs$People" "masters" "I", Cond.methodLink RX0 110 yX0_isTorn, Cond.instanceMethod yX0_isTorn, Cond.selects RX0 yX0_isTorn yX0_isTorn, Cond.initialized RX0, Cond.code yX0_isTorn cX0_isTorn 5 (some .boolean), Cond.fieldLink RX0 19 "HiringFairs$Fair" "masterOf" "[I", Cond.fieldLink RX0 23 "HiringFairs$Fair" "wage" "[I", Cond.methodLink RX0 76 yX2_offerTo, Cond.instanceMethod yX2_offerTo, Cond.selects RX2 yX2_offerTo yX2_offerTo, Cond.initialized RX2, Cond.code yX2_offerTo cX2_offerTo 4 (some .int), Cond.fieldLink RX2 21 "HiringFairs$People" "wantedKind" "[I", Cond.fieldLink RX2 9 "HiringFairs$People" "kind" "[I", Cond.fieldLink RX2 24 "HiringFairs$People" "most" "[I", Cond.fieldLink RX2 18 "HiringFairs$People" "least" "[I", Cond.methodLink RX2 49 yX2_isBarred, Cond.instanceMethod yX2_isBarred, Cond.selects RX2 yX2_isBarred yX2_isBarred, Cond.code yX2_isBarred cX2_isBarred 3 (some .boolean), Cond.fieldLink RX2 32 "HiringFairs$People" "barred" "[I"]
def wsX0_findTorn_r2 : List Cond := [Cond.methodLink RX2 53 yX2_heldFor, Cond.instanceMethod yX2_heldFor, Cond.selects RX2 yX2_heldFor yX2_heldFor, Cond.code yX2_heldFor cX2_heldFor 4 (some .int), Cond.fieldLink RX2 29 "HiringFairs$People" "heard" "[[I", Cond.methodLink RX0 101 yX0_isBound, Cond.instanceMethod yX0_isBound, Cond.selects RX0 yX0_isBound yX0_isBound, Cond.code yX0_isBound cX0_isBound 2 (some .boolean), Cond.methodLink RX0 113 yX0_wouldRather, Cond.instanceMethod yX0_wouldRather, Cond.selects RX0 yX0_wouldRather yX0_wouldRather, Cond.code yX0_wouldRather cX0_wouldRather 5 (some .boolean), Cond.fieldLink RX0 29 "HiringFairs$Fair" "servantOf" "[I", Cond.methodLink RX0 97 yX2_likingAt, Cond.instanceMethod yX2_likingAt, Cond.selects RX2 yX2_likingAt yX2_likingAt, Cond.code yX2_likingAt cX2_likingAt 4 (some .int)]
def wsX0_findTorn : List Cond := .code yX0_findTorn cX0_findTorn 5 (some .int) :: ((wsX0_findTorn_r1 ++ wsX0_findTorn_r2) ++ wsX00 ++ wsX20)
def wsX1_init : List Cond := .code yX1_init cX1_init 2 none :: ([.methodLink RX1 1 objectInit, .instanceMethod objectInit, .code objectInit ⟨#[0xb1]⟩ 1 none, .methodLink RX1 7 Lib.Math.max.name, .static Lib.Math.max.name, .initialized "java/lang/Math", .code Lib.Math.max.name Lib.Math.max.code 2 (some .int), .fieldLink RX1 13 "HiringFairs$Ledger" "room" "I", .arrayClass .int, .fieldLink RX1 19 "HiringFairs$Ledger" "rows" "[I"] ++ wsX10)
def wsX1_has : List Cond := .code yX1_has cX1_has 2 (some .boolean) :: ([.fieldLink RX1 23 "HiringFairs$Ledger" "count" "I"] ++ wsX10)
def wsX1_read : List Cond := .code yX1_read cX1_read 3 (some .int) :: ([.fieldLink RX1 19 "HiringFairs$Ledger" "rows" "[I"] ++ wsX10)
def wsX2_init : List Cond := .code yX2_init cX2_init 1 none :: ([.methodLink RX2 3 objectInit, .instanceMethod objectInit, .code objectInit ⟨#[0xb1]⟩ 1 none, .arrayClass .int, .fieldLink RX2 9 "HiringFairs$People" "kind" "[I", .fieldLink RX2 15 "HiringFairs$People" "skill" "[I", .fieldLink RX2 18 "HiringFairs$People" "least" "[I", .fieldLink RX2 21 "HiringFairs$People" "wantedKind" "[I", .fieldLink RX2 24 "HiringFairs$People" "most" "[I", .classLink RX2 27 "[[I", .fieldLink RX2 29 "HiringFairs$People" "heard" "[[I", .fieldLink RX2 32 "HiringFairs$People" "barred" "[I"] ++ wsX20)
def wsX2_addServant : List Cond := .code yX2_addServant cX2_addServant 4 (some .int) :: ([.fieldLink RX2 35 "HiringFairs$People" "servants" "I", .fieldLink RX2 9 "HiringFairs$People" "kind" "[I", .fieldLink RX2 15 "HiringFairs$People" "skill" "[I", .fieldLink RX2 18 "HiringFairs$People" "least" "[I"] ++ wsX20)
def wsX2_addMaster : List Cond := .code yX2_addMaster cX2_addMaster 3 (some .int) :: ([.fieldLink RX2 39 "HiringFairs$People" "masters" "I", .fieldLink RX2 21 "HiringFairs$People" "wantedKind" "[I", .fieldLink RX2 24 "HiringFairs$People" "most" "[I"] ++ wsX20)
def wsX2_hasServant : List Cond := .code yX2_hasServant cX2_hasServant 2 (some .boolean) :: ([.fieldLink RX2 35 "HiringFairs$People" "servants" "I"] ++ wsX20)
def wsX2_hasMaster : List Cond := .code yX2_hasMaster cX2_hasMaster 2 (some .boolean) :: ([.fieldLink RX2 39 "HiringFairs$People" "masters" "I"] ++ wsX20)
def wsX2_hasBoth : List Cond := .code yX2_hasBoth cX2_hasBoth 3 (some .boolean) :: ([.methodLink RX2 42 yX2_hasMaster, .instanceMethod yX2_hasMaster, .selects RX2 yX2_hasMaster yX2_hasMaster, .initialized RX2, .code yX2_hasMaster cX2_hasMaster 2 (some .boolean), .fieldLink RX2 39 "HiringFairs$People" "masters" "I", .methodLink RX2 46 yX2_hasServant, .instanceMethod yX2_hasServant, .selects RX2 yX2_hasServant yX2_hasServant, .code yX2_hasServant cX2_hasServant 2 (some .boolean), .fieldLink RX2 35 "HiringFairs$People" "servants" "I"] ++ wsX20)
def wsX2_setBar : List Cond := .code yX2_setBar cX2_setBar 4 none :: ([.fieldLink RX2 32 "HiringFairs$People" "barred" "[I"] ++ wsX20)
def wsX2_tell : List Cond := .code yX2_tell cX2_tell 4 none :: ([.fieldLink RX2 29 "HiringFairs$People" "heard" "[[I"] ++ wsX20)
def wsX2_hasHeard : List Cond := .code yX2_hasHeard cX2_hasHeard 3 (some .boolean) :: ([.fieldLink RX2 29 "HiringFairs$People" "heard" "[[I"] ++ wsX20)
def wsX3_init : List Cond := .code yX3_init cX3_init 2 none :: ([.methodLink RX3 3 objectInit, .instanceMethod objectInit, .code objectInit ⟨#[0xb1]⟩ 1 none, .fieldLink RX3 9 "HiringFairs$Year" "fair" "LHiringFairs$Fair;", .fieldLink RX3 15 "HiringFairs$Year" "day" "I", .arrayClass .int, .fieldLink RX3 19 "HiringFairs$Year" "end" "[I", .arrayClass .boolean, .fieldLink RX3 29 "HiringFairs$Year" "warned" "[Z", .fieldLink RX3 33 "HiringFairs$Year" "forfeited" "[Z", .arrayClass .long, .fieldLink RX3 36 "HiringFairs$Year" "sickDays" "[J", .methodLink RX3 23 yJ7_fill_53178, .static yJ7_fill_53178, .initialized RJ7, .code yJ7_fill_53178 cJ7_fill_53178 4 none] ++ wsX30)
def wsX3_begin : List Cond := .code yX3_begin cX3_begin 1 none :: ([.fieldLink RX3 15 "HiringFairs$Year" "day" "I"] ++ wsX30)
def wsX3_hasBegun : List Cond := .code yX3_hasBegun cX3_hasBegun 1 (some .boolean) :: ([.fieldLink RX3 15 "HiringFairs$Year" "day" "I"] ++ wsX30)
def wsX3_servesOn : List Cond := .code yX3_servesOn cX3_servesOn 3 (some .boolean) :: ([.fieldLink RX3 9 "HiringFairs$Year" "fair" "LHiringFairs$Fair;", .fieldLink RX3 19 "HiringFairs$Year" "end" "[I", .methodLink RX3 40 yX0_isBound, .instanceMethod yX0_isBound, .selects RX0 yX0_isBound yX0_isBound, .initialized RX0, .code yX0_isBound cX0_isBound 2 (some .boolean), .fieldLink RX0 19 "HiringFairs$Fair" "masterOf" "[I"] ++ wsX30 ++ wsX00)
def wsX3_servesNow : List Cond := .code yX3_servesNow cX3_servesNow 2 (some .boolean) :: ([.fieldLink RX3 15 "HiringFairs$Year" "day" "I", .methodLink RX3 46 yX3_hasBegun, .instanceMethod yX3_hasBegun, .selects RX3 yX3_hasBegun yX3_hasBegun, .initialized RX3, .code yX3_hasBegun cX3_hasBegun 1 (some .boolean), .methodLink RX3 50 yX3_servesOn, .instanceMethod yX3_servesOn, .selects RX3 yX3_servesOn yX3_servesOn, .code yX3_servesOn cX3_servesOn 3 (some .boolean), .fieldLink RX3 9 "HiringFairs$Year" "fair" "LHiringFairs$Fair;", .fieldLink RX3 19 "HiringFairs$Year" "end" "[I", .methodLink RX3 40 yX0_isBound, .instanceMethod yX0_isBound, .selects RX0 yX0_isBound yX0_isBound, .initialized RX0, .code yX0_isBound cX0_isBound 2 (some .boolean), .fieldLink RX0 19 "HiringFairs$Fair" "masterOf" "[I"] ++ wsX30 ++ wsX00)
def wsX3_endOf : List Cond := .code yX3_endOf cX3_endOf 2 (some .int) :: ([.fieldLink RX3 9 "HiringFairs$Year" "fair" "LHiringFairs$Fair;", .fieldLink RX3 19 "HiringFairs$Year" "end" "[I", .methodLink RX3 46 yX3_hasBegun, .instanceMethod yX3_hasBegun, .selects RX3 yX3_hasBegun yX3_hasBegun, .initialized RX3, .code yX3_hasBegun cX3_hasBegun 1 (some .boolean), .fieldLink RX3 15 "HiringFairs$Year" "day" "I", .methodLink RX3 40 yX0_isBound, .instanceMethod yX0_isBound, .selects RX0 yX0_isBound yX0_isBound, .initialized RX0, .code yX0_isBound cX0_isBound 2 (some .boolean), .fieldLink RX0 19 "HiringFairs$Fair" "masterOf" "[I"] ++ wsX30 ++ wsX00)
def wsX3_wordOf : List Cond := .code yX3_wordOf cX3_wordOf 2 (some .int) :: ([])
def wsX3_dayBit : List Cond := .code yX3_dayBit cX3_dayBit 1 (some .long) :: ([])
def wsX3_fallSick : List Cond := .code yX3_fallSick cX3_fallSick 5 none :: ([.fieldLink RX3 15 "HiringFairs$Year" "day" "I", .methodLink RX3 54 Lib.Math.min.name, .static Lib.Math.min.name, .initialized "java/lang/Math", .code Lib.Math.min.name Lib.Math.min.code 2 (some .int), .fieldLink RX3 36 "HiringFairs$Year" "sickDays" "[J", .methodLink RX3 60 yX3_wordOf, .static yX3_wordOf, .initialized RX3, .code yX3_wordOf cX3_wordOf 2 (some .int), .methodLink RX3 63 yX3_dayBit, .static yX3_dayBit, .code yX3_dayBit cX3_dayBit 1 (some .long)] ++ wsX30)
def wsX3_countSick : List Cond := .code yX3_countSick cX3_countSick 5 (some .int) :: ([.fieldLink RX3 36 "HiringFairs$Year" "sickDays" "[J", .methodLink RX3 60 yX3_wordOf, .static yX3_wordOf, .initialized RX3, .code yX3_wordOf cX3_wordOf 2 (some .int), .methodLink RX3 63 yX3_dayBit, .static yX3_dayBit, .code yX3_dayBit cX3_dayBit 1 (some .long)] ++ wsX30)
def wsX3_giveWarning : List Cond := .code yX3_giveWarning cX3_giveWarning 2 (some .int) :: ([.fieldLink RX3 29 "HiringFairs$Year" "warned" "[Z", .fieldLink RX3 19 "HiringFairs$Year" "end" "[I", .fieldLink RX3 15 "HiringFairs$Year" "day" "I", .methodLink RX3 54 Lib.Math.min.name, .static Lib.Math.min.name, .initialized "java/lang/Math", .code Lib.Math.min.name Lib.Math.min.code 2 (some .int)] ++ wsX30)
def wsX3_leave : List Cond := .code yX3_leave cX3_leave 2 (some .int) :: ([.fieldLink RX3 19 "HiringFairs$Year" "end" "[I", .fieldLink RX3 15 "HiringFairs$Year" "day" "I"] ++ wsX30)
def wsX3_wagesDue : List Cond := .code yX3_wagesDue cX3_wagesDue 5 (some .int) :: ([.fieldLink RX3 33 "HiringFairs$Year" "forfeited" "[Z", .fieldLink RX3 19 "HiringFairs$Year" "end" "[I", .methodLink RX3 54 Lib.Math.min.name, .static Lib.Math.min.name, .initialized "java/lang/Math", .code Lib.Math.min.name Lib.Math.min.code 2 (some .int), .fieldLink RX3 9 "HiringFairs$Year" "fair" "LHiringFairs$Fair;", .fieldLink RX3 70 "HiringFairs$Fair" "wage" "[I", .methodLink RX3 67 yX3_countSick, .instanceMethod yX3_countSick, .selects RX3 yX3_countSick yX3_countSick, .initialized RX3, .code yX3_countSick cX3_countSick 5 (some .int), .fieldLink RX3 36 "HiringFairs$Year" "sickDays" "[J", .methodLink RX3 60 yX3_wordOf, .static yX3_wordOf, .code yX3_wordOf cX3_wordOf 2 (some .int), .methodLink RX3 63 yX3_dayBit, .static yX3_dayBit, .code yX3_dayBit cX3_dayBit 1 (some .long)] ++ wsX30 ++ wsX00)
def wsX4_init_r1 : List Cond := [Cond.methodLink RX4 3 objectInit, Cond.instanceMethod objectInit, Cond.code objectInit ⟨#[0xb1]⟩ 1 none, Cond.classLink RX4 9 RX2, Cond.instantiable RX2 9, Cond.initialized RX2, Cond.fieldLink RX4 12 "HiringFairs" "people" "LHiringFairs$People;", Cond.classLink RX4 16 RX0, Cond.instantiable RX0 8, Cond.initialized RX0, Cond.classLink RX4 18 RX1, Cond.instantiable RX1 3, Cond.initialized RX1, Cond.fieldLink RX4 26 "HiringFairs" "fair" "LHiringFairs$Fair;", Cond.fieldLink RX4 30 "HiringFairs" "trial" "LHiringFairs$Fair;", Cond.classLink RX4 33 RX3, Cond.instantiable RX3 6, Cond.initialized RX3, Cond.fieldLink RX4 38 "HiringFairs" "year" "LHiringFairs$Year;", Cond.fieldLink RX4 42 "HiringFairs" "countyText" "I", Cond.methodLink RX4 11 yX2_init, Cond.instanceMethod yX2_init, Cond.code yX2_init cX2_init 1 none, Cond.methodLink RX2 3 objectInit]
def wsX4_init_r2 : List Cond := [Cond.arrayClass .int, Cond.fieldLink RX2 9 "HiringFairs$People" "kind" "[I", Cond.fieldLink RX2 15 "HiringFairs$People" "skill" "[I", Cond.fieldLink RX2 18 "HiringFairs$People" "least" "[I", Cond.fieldLink RX2 21 "HiringFairs$People" "wantedKind" "[I", Cond.fieldLink RX2 24 "HiringFairs$People" "most" "[I", Cond.classLink RX2 27 "[[I", Cond.fieldLink RX2 29 "HiringFairs$People" "heard" "[[I", Cond.fieldLink RX2 32 "HiringFairs$People" "barred" "[I", Cond.methodLink RX4 20 yX1_init, Cond.instanceMethod yX1_init, Cond.code yX1_init cX1_init 2 none, Cond.methodLink RX1 1 objectInit, Cond.methodLink RX1 7 Lib.Math.max.name, Cond.static Lib.Math.max.name, Cond.initialized "java/lang/Math", Cond.code Lib.Math.max.name Lib.Math.max.code 2 (some .int), Cond.fieldLink RX1 13 "HiringFairs$Ledger" "room" "I", Cond.fieldLink RX1 19 "HiringFairs$Ledger" "rows" "[I", Cond.methodLink RX4 23 yX0_init, Cond.instanceMethod yX0_init, Cond.code yX0_init cX0_init 3 none, Cond.methodLink RX0 3 objectInit, Cond.fieldLink RX0 9 "HiringFairs$Fair" "people" "LHiringFairs$People;"]
def wsX4_init_r3 : List Cond := [Cond.fieldLink RX0 15 "HiringFairs$Fair" "ledger" "LHiringFairs$Ledger;", Cond.fieldLink RX0 19 "HiringFairs$Fair" "masterOf" "[I", Cond.fieldLink RX0 23 "HiringFairs$Fair" "wage" "[I", Cond.fieldLink RX0 26 "HiringFairs$Fair" "shillingMinute" "[I", Cond.fieldLink RX0 29 "HiringFairs$Fair" "servantOf" "[I", Cond.fieldLink RX0 32 "HiringFairs$Fair" "asked" "[I", Cond.methodLink RX0 35 yX0_startAnew, Cond.instanceMethod yX0_startAnew, Cond.selects RX0 yX0_startAnew yX0_startAnew, Cond.code yX0_startAnew cX0_startAnew 1 none, Cond.fieldLink RX0 38 "HiringFairs$Fair" "minutes" "I", Cond.fieldLink RX0 42 "HiringFairs$Ledger" "count" "I", Cond.methodLink RX0 47 yJ7_fill_53178, Cond.static yJ7_fill_53178, Cond.initialized RJ7, Cond.code yJ7_fill_53178 cJ7_fill_53178 4 none, Cond.methodLink RX4 35 yX3_init, Cond.instanceMethod yX3_init, Cond.code yX3_init cX3_init 2 none, Cond.methodLink RX3 3 objectInit, Cond.fieldLink RX3 9 "HiringFairs$Year" "fair" "LHiringFairs$Fair;", Cond.fieldLink RX3 15 "HiringFairs$Year" "day" "I", Cond.fieldLink RX3 19 "HiringFairs$Year" "end" "[I", Cond.arrayClass .boolean]
def wsX4_init_r4 : List Cond := [Cond.fieldLink RX3 29 "HiringFairs$Year" "warned" "[Z", Cond.fieldLink RX3 33 "HiringFairs$Year" "forfeited" "[Z", Cond.arrayClass .long, Cond.fieldLink RX3 36 "HiringFairs$Year" "sickDays" "[J", Cond.methodLink RX3 23 yJ7_fill_53178]
def wsX4_init : List Cond := .code yX4_init cX4_init 1 none :: ((wsX4_init_r1 ++ (wsX4_init_r2 ++ (wsX4_init_r3 ++ wsX4_init_r4))) ++ wsX20 ++ wsX40 ++ wsX00 ++ wsX10 ++ wsX30)
def wsX4_isWithin : List Cond := .code yX4_isWithin cX4_isWithin 3 (some .boolean) :: ([])
def wsX4_isKind : List Cond := .code yX4_isKind cX4_isKind 1 (some .boolean) :: ([.methodLink RX4 50 yX4_isWithin, .static yX4_isWithin, .initialized RX4, .code yX4_isWithin cX4_isWithin 3 (some .boolean)])
def wsX4_servant : List Cond := .code yX4_servant cX4_servant 4 (some .int) :: ([.fieldLink RX4 38 "HiringFairs" "year" "LHiringFairs$Year;", .fieldLink RX4 12 "HiringFairs" "people" "LHiringFairs$People;", .methodLink RX4 46 yX4_isKind, .static yX4_isKind, .initialized RX4, .code yX4_isKind cX4_isKind 1 (some .boolean), .methodLink RX4 50 yX4_isWithin, .static yX4_isWithin, .code yX4_isWithin cX4_isWithin 3 (some .boolean), .methodLink RX4 54 yX3_hasBegun, .instanceMethod yX3_hasBegun, .selects RX3 yX3_hasBegun yX3_hasBegun, .initialized RX3, .code yX3_hasBegun cX3_hasBegun 1 (some .boolean), .fieldLink RX3 15 "HiringFairs$Year" "day" "I", .methodLink RX4 58 yX2_addServant, .instanceMethod yX2_addServant, .selects RX2 yX2_addServant yX2_addServant, .initialized RX2, .code yX2_addServant cX2_addServant 4 (some .int), .fieldLink RX2 35 "HiringFairs$People" "servants" "I", .fieldLink RX2 9 "HiringFairs$People" "kind" "[I", .fieldLink RX2 15 "HiringFairs$People" "skill" "[I", .fieldLink RX2 18 "HiringFairs$People" "least" "[I"] ++ wsX40 ++ wsX30 ++ wsX20)
def wsX4_master : List Cond := .code yX4_master cX4_master 3 (some .int) :: ([.fieldLink RX4 38 "HiringFairs" "year" "LHiringFairs$Year;", .fieldLink RX4 12 "HiringFairs" "people" "LHiringFairs$People;", .methodLink RX4 46 yX4_isKind, .static yX4_isKind, .initialized RX4, .code yX4_isKind cX4_isKind 1 (some .boolean), .methodLink RX4 50 yX4_isWithin, .static yX4_isWithin, .code yX4_isWithin cX4_isWithin 3 (some .boolean), .methodLink RX4 54 yX3_hasBegun, .instanceMethod yX3_hasBegun, .selects RX3 yX3_hasBegun yX3_hasBegun, .initialized RX3, .code yX3_hasBegun cX3_hasBegun 1 (some .boolean), .fieldLink RX3 15 "HiringFairs$Year" "day" "I", .methodLink RX4 62 yX2_addMaster, .instanceMethod yX2_addMaster, .selects RX2 yX2_addMaster yX2_addMaster, .initialized RX2, .code yX2_addMaster cX2_addMaster 3 (some .int), .fieldLink RX2 39 "HiringFairs$People" "masters" "I", .fieldLink RX2 21 "HiringFairs$People" "wantedKind" "[I", .fieldLink RX2 24 "HiringFairs$People" "most" "[I"] ++ wsX40 ++ wsX30 ++ wsX20)
def wsX4_bar_r1 : List Cond := [Cond.fieldLink RX4 12 "HiringFairs" "people" "LHiringFairs$People;", Cond.methodLink RX4 66 yX2_hasBoth, Cond.instanceMethod yX2_hasBoth, Cond.selects RX2 yX2_hasBoth yX2_hasBoth, Cond.initialized RX2, Cond.code yX2_hasBoth cX2_hasBoth 3 (some .boolean), Cond.methodLink RX2 42 yX2_hasMaster, Cond.instanceMethod yX2_hasMaster, Cond.selects RX2 yX2_hasMaster yX2_hasMaster, Cond.code yX2_hasMaster cX2_hasMaster 2 (some .boolean), Cond.fieldLink RX2 39 "HiringFairs$People" "masters" "I", Cond.methodLink RX2 46 yX2_hasServant, Cond.instanceMethod yX2_hasServant, Cond.selects RX2 yX2_hasServant yX2_hasServant, Cond.code yX2_hasServant cX2_hasServant 2 (some .boolean), Cond.fieldLink RX2 35 "HiringFairs$People" "servants" "I", Cond.methodLink RX4 70 yX2_isBarred, Cond.instanceMethod yX2_isBarred, Cond.selects RX2 yX2_isBarred yX2_isBarred, Cond.code yX2_isBarred cX2_isBarred 3 (some .boolean), Cond.fieldLink RX2 32 "HiringFairs$People" "barred" "[I", Cond.methodLink RX4 73 yX2_setBar, Cond.instanceMethod yX2_setBar, Cond.selects RX2 yX2_setBar yX2_setBar]
def wsX4_bar_r2 : List Cond := [Cond.code yX2_setBar cX2_setBar 4 none]
def wsX4_bar : List Cond := .code yX4_bar cX4_bar 5 (some .int) :: ((wsX4_bar_r1 ++ wsX4_bar_r2) ++ wsX40 ++ wsX20)
def wsX4_hear_r1 : List Cond := [Cond.fieldLink RX4 12 "HiringFairs" "people" "LHiringFairs$People;", Cond.methodLink RX4 66 yX2_hasBoth, Cond.instanceMethod yX2_hasBoth, Cond.selects RX2 yX2_hasBoth yX2_hasBoth, Cond.initialized RX2, Cond.code yX2_hasBoth cX2_hasBoth 3 (some .boolean), Cond.methodLink RX2 42 yX2_hasMaster, Cond.instanceMethod yX2_hasMaster, Cond.selects RX2 yX2_hasMaster yX2_hasMaster, Cond.code yX2_hasMaster cX2_hasMaster 2 (some .boolean), Cond.fieldLink RX2 39 "HiringFairs$People" "masters" "I", Cond.methodLink RX2 46 yX2_hasServant, Cond.instanceMethod yX2_hasServant, Cond.selects RX2 yX2_hasServant yX2_hasServant, Cond.code yX2_hasServant cX2_hasServant 2 (some .boolean), Cond.fieldLink RX2 35 "HiringFairs$People" "servants" "I", Cond.methodLink RX4 50 yX4_isWithin, Cond.static yX4_isWithin, Cond.initialized RX4, Cond.code yX4_isWithin cX4_isWithin 3 (some .boolean), Cond.methodLink RX4 77 yX2_heldFor, Cond.instanceMethod yX2_heldFor, Cond.selects RX2 yX2_heldFor yX2_heldFor, Cond.code yX2_heldFor cX2_heldFor 4 (some .int)]
def wsX4_hear_r2 : List Cond := [Cond.fieldLink RX2 29 "HiringFairs$People" "heard" "[[I", Cond.methodLink RX4 80 yX2_tell, Cond.instanceMethod yX2_tell, Cond.selects RX2 yX2_tell yX2_tell, Cond.code yX2_tell cX2_tell 4 none]
def wsX4_hear : List Cond := .code yX4_hear cX4_hear 5 (some .int) :: ((wsX4_hear_r1 ++ wsX4_hear_r2) ++ wsX40 ++ wsX20)
def wsX4_pass_r1 : List Cond := [Cond.fieldLink RX4 12 "HiringFairs" "people" "LHiringFairs$People;", Cond.methodLink RX4 66 yX2_hasBoth, Cond.instanceMethod yX2_hasBoth, Cond.selects RX2 yX2_hasBoth yX2_hasBoth, Cond.initialized RX2, Cond.code yX2_hasBoth cX2_hasBoth 3 (some .boolean), Cond.methodLink RX2 42 yX2_hasMaster, Cond.instanceMethod yX2_hasMaster, Cond.selects RX2 yX2_hasMaster yX2_hasMaster, Cond.code yX2_hasMaster cX2_hasMaster 2 (some .boolean), Cond.fieldLink RX2 39 "HiringFairs$People" "masters" "I", Cond.methodLink RX2 46 yX2_hasServant, Cond.instanceMethod yX2_hasServant, Cond.selects RX2 yX2_hasServant yX2_hasServant, Cond.code yX2_hasServant cX2_hasServant 2 (some .boolean), Cond.fieldLink RX2 35 "HiringFairs$People" "servants" "I", Cond.methodLink RX4 84 yX2_hasMaster, Cond.methodLink RX4 87 yX2_hasHeard, Cond.instanceMethod yX2_hasHeard, Cond.selects RX2 yX2_hasHeard yX2_hasHeard, Cond.code yX2_hasHeard cX2_hasHeard 3 (some .boolean), Cond.fieldLink RX2 29 "HiringFairs$People" "heard" "[[I", Cond.methodLink RX4 77 yX2_heldFor, Cond.instanceMethod yX2_heldFor]
def wsX4_pass_r2 : List Cond := [Cond.selects RX2 yX2_heldFor yX2_heldFor, Cond.code yX2_heldFor cX2_heldFor 4 (some .int), Cond.methodLink RX4 80 yX2_tell, Cond.instanceMethod yX2_tell, Cond.selects RX2 yX2_tell yX2_tell, Cond.code yX2_tell cX2_tell 4 none]
def wsX4_pass : List Cond := .code yX4_pass cX4_pass 5 (some .int) :: ((wsX4_pass_r1 ++ wsX4_pass_r2) ++ wsX40 ++ wsX20)
def wsX4_about_r1 : List Cond := [Cond.fieldLink RX4 12 "HiringFairs" "people" "LHiringFairs$People;", Cond.fieldLink RX4 93 "HiringFairs$People" "kind" "[I", Cond.fieldLink RX4 97 "HiringFairs$People" "skill" "[I", Cond.fieldLink RX4 100 "HiringFairs$People" "least" "[I", Cond.fieldLink RX4 26 "HiringFairs" "fair" "LHiringFairs$Fair;", Cond.fieldLink RX4 103 "HiringFairs$Fair" "masterOf" "[I", Cond.fieldLink RX4 106 "HiringFairs$Fair" "wage" "[I", Cond.fieldLink RX4 109 "HiringFairs$Fair" "shillingMinute" "[I", Cond.fieldLink RX4 38 "HiringFairs" "year" "LHiringFairs$Year;", Cond.methodLink RX4 90 yX2_hasServant, Cond.instanceMethod yX2_hasServant, Cond.selects RX2 yX2_hasServant yX2_hasServant, Cond.initialized RX2, Cond.code yX2_hasServant cX2_hasServant 2 (some .boolean), Cond.fieldLink RX2 35 "HiringFairs$People" "servants" "I", Cond.methodLink RX4 112 yX3_endOf, Cond.instanceMethod yX3_endOf, Cond.selects RX3 yX3_endOf yX3_endOf, Cond.initialized RX3, Cond.code yX3_endOf cX3_endOf 2 (some .int), Cond.fieldLink RX3 9 "HiringFairs$Year" "fair" "LHiringFairs$Fair;", Cond.fieldLink RX3 19 "HiringFairs$Year" "end" "[I", Cond.methodLink RX3 46 yX3_hasBegun, Cond.instanceMethod yX3_hasBegun]
def wsX4_about_r2 : List Cond := [Cond.selects RX3 yX3_hasBegun yX3_hasBegun, Cond.code yX3_hasBegun cX3_hasBegun 1 (some .boolean), Cond.fieldLink RX3 15 "HiringFairs$Year" "day" "I", Cond.methodLink RX3 40 yX0_isBound, Cond.instanceMethod yX0_isBound, Cond.selects RX0 yX0_isBound yX0_isBound, Cond.initialized RX0, Cond.code yX0_isBound cX0_isBound 2 (some .boolean), Cond.fieldLink RX0 19 "HiringFairs$Fair" "masterOf" "[I"]
def wsX4_about : List Cond := .code yX4_about cX4_about 3 (some .int) :: ((wsX4_about_r1 ++ wsX4_about_r2) ++ wsX40 ++ wsX20 ++ wsX00 ++ wsX30)
def wsX4_house : List Cond := .code yX4_house cX4_house 3 (some .int) :: ([.fieldLink RX4 12 "HiringFairs" "people" "LHiringFairs$People;", .fieldLink RX4 116 "HiringFairs$People" "wantedKind" "[I", .fieldLink RX4 119 "HiringFairs$People" "most" "[I", .fieldLink RX4 26 "HiringFairs" "fair" "LHiringFairs$Fair;", .fieldLink RX4 122 "HiringFairs$Fair" "servantOf" "[I", .methodLink RX4 84 yX2_hasMaster, .instanceMethod yX2_hasMaster, .selects RX2 yX2_hasMaster yX2_hasMaster, .initialized RX2, .code yX2_hasMaster cX2_hasMaster 2 (some .boolean), .fieldLink RX2 39 "HiringFairs$People" "masters" "I", .methodLink RX4 125 yX0_countAsked, .instanceMethod yX0_countAsked, .selects RX0 yX0_countAsked yX0_countAsked, .initialized RX0, .code yX0_countAsked cX0_countAsked 2 (some .int), .fieldLink RX0 32 "HiringFairs$Fair" "asked" "[I", .methodLink RX0 105 yJ6_bitCount_0f7a4, .static yJ6_bitCount_0f7a4, .initialized RJ6, .code yJ6_bitCount_0f7a4 cJ6_bitCount_0f7a4 1 (some .int), .constant RJ6 265 (1431655765), .constant RJ6 266 (858993459), .constant RJ6 267 (252645135)] ++ wsX40 ++ wsX20 ++ wsX00)
def wsX4_holds : List Cond := .code yX4_holds cX4_holds 3 (some .int) :: ([.fieldLink RX4 12 "HiringFairs" "people" "LHiringFairs$People;", .methodLink RX4 66 yX2_hasBoth, .instanceMethod yX2_hasBoth, .selects RX2 yX2_hasBoth yX2_hasBoth, .initialized RX2, .code yX2_hasBoth cX2_hasBoth 3 (some .boolean), .methodLink RX2 42 yX2_hasMaster, .instanceMethod yX2_hasMaster, .selects RX2 yX2_hasMaster yX2_hasMaster, .code yX2_hasMaster cX2_hasMaster 2 (some .boolean), .fieldLink RX2 39 "HiringFairs$People" "masters" "I", .methodLink RX2 46 yX2_hasServant, .instanceMethod yX2_hasServant, .selects RX2 yX2_hasServant yX2_hasServant, .code yX2_hasServant cX2_hasServant 2 (some .boolean), .fieldLink RX2 35 "HiringFairs$People" "servants" "I", .methodLink RX4 77 yX2_heldFor, .instanceMethod yX2_heldFor, .selects RX2 yX2_heldFor yX2_heldFor, .code yX2_heldFor cX2_heldFor 4 (some .int), .fieldLink RX2 29 "HiringFairs$People" "heard" "[[I"] ++ wsX40 ++ wsX20)
def wsX4_offer_r1 : List Cond := [Cond.fieldLink RX4 12 "HiringFairs" "people" "LHiringFairs$People;", Cond.methodLink RX4 66 yX2_hasBoth, Cond.instanceMethod yX2_hasBoth, Cond.selects RX2 yX2_hasBoth yX2_hasBoth, Cond.initialized RX2, Cond.code yX2_hasBoth cX2_hasBoth 3 (some .boolean), Cond.methodLink RX2 42 yX2_hasMaster, Cond.instanceMethod yX2_hasMaster, Cond.selects RX2 yX2_hasMaster yX2_hasMaster, Cond.code yX2_hasMaster cX2_hasMaster 2 (some .boolean), Cond.fieldLink RX2 39 "HiringFairs$People" "masters" "I", Cond.methodLink RX2 46 yX2_hasServant, Cond.instanceMethod yX2_hasServant, Cond.selects RX2 yX2_hasServant yX2_hasServant, Cond.code yX2_hasServant cX2_hasServant 2 (some .boolean), Cond.fieldLink RX2 35 "HiringFairs$People" "servants" "I", Cond.methodLink RX4 128 yX2_offerTo, Cond.instanceMethod yX2_offerTo, Cond.selects RX2 yX2_offerTo yX2_offerTo, Cond.code yX2_offerTo cX2_offerTo 4 (some .int), Cond.fieldLink RX2 21 "HiringFairs$People" "wantedKind" "[I", Cond.fieldLink RX2 9 "HiringFairs$People" "kind" "[I", Cond.fieldLink RX2 24 "HiringFairs$People" "most" "[I", Cond.fieldLink RX2 18 "HiringFairs$People" "least" "[I"]
def wsX4_offer_r2 : List Cond := [Cond.methodLink RX2 49 yX2_isBarred, Cond.instanceMethod yX2_isBarred, Cond.selects RX2 yX2_isBarred yX2_isBarred, Cond.code yX2_isBarred cX2_isBarred 3 (some .boolean), Cond.fieldLink RX2 32 "HiringFairs$People" "barred" "[I", Cond.methodLink RX2 53 yX2_heldFor, Cond.instanceMethod yX2_heldFor, Cond.selects RX2 yX2_heldFor yX2_heldFor, Cond.code yX2_heldFor cX2_heldFor 4 (some .int), Cond.fieldLink RX2 29 "HiringFairs$People" "heard" "[[I"]
def wsX4_offer : List Cond := .code yX4_offer cX4_offer 3 (some .int) :: ((wsX4_offer_r1 ++ wsX4_offer_r2) ++ wsX40 ++ wsX20)
def wsX4_next_r1 : List Cond := [Cond.fieldLink RX4 12 "HiringFairs" "people" "LHiringFairs$People;", Cond.fieldLink RX4 26 "HiringFairs" "fair" "LHiringFairs$Fair;", Cond.methodLink RX4 84 yX2_hasMaster, Cond.instanceMethod yX2_hasMaster, Cond.selects RX2 yX2_hasMaster yX2_hasMaster, Cond.initialized RX2, Cond.code yX2_hasMaster cX2_hasMaster 2 (some .boolean), Cond.fieldLink RX2 39 "HiringFairs$People" "masters" "I", Cond.methodLink RX4 131 yX0_choiceOf, Cond.instanceMethod yX0_choiceOf, Cond.selects RX0 yX0_choiceOf yX0_choiceOf, Cond.initialized RX0, Cond.code yX0_choiceOf cX0_choiceOf 7 (some .int), Cond.fieldLink RX0 9 "HiringFairs$Fair" "people" "LHiringFairs$People;", Cond.fieldLink RX0 91 "HiringFairs$People" "servants" "I", Cond.methodLink RX0 76 yX2_offerTo, Cond.instanceMethod yX2_offerTo, Cond.selects RX2 yX2_offerTo yX2_offerTo, Cond.code yX2_offerTo cX2_offerTo 4 (some .int), Cond.fieldLink RX2 21 "HiringFairs$People" "wantedKind" "[I", Cond.fieldLink RX2 9 "HiringFairs$People" "kind" "[I", Cond.fieldLink RX2 24 "HiringFairs$People" "most" "[I", Cond.fieldLink RX2 18 "HiringFairs$People" "least" "[I", Cond.methodLink RX2 49 yX2_isBarred]
def wsX4_next_r2 : List Cond := [Cond.instanceMethod yX2_isBarred, Cond.selects RX2 yX2_isBarred yX2_isBarred, Cond.code yX2_isBarred cX2_isBarred 3 (some .boolean), Cond.fieldLink RX2 32 "HiringFairs$People" "barred" "[I", Cond.methodLink RX2 53 yX2_heldFor, Cond.instanceMethod yX2_heldFor, Cond.selects RX2 yX2_heldFor yX2_heldFor, Cond.code yX2_heldFor cX2_heldFor 4 (some .int), Cond.fieldLink RX2 29 "HiringFairs$People" "heard" "[[I", Cond.methodLink RX0 94 yX0_hasAsked, Cond.instanceMethod yX0_hasAsked, Cond.selects RX0 yX0_hasAsked yX0_hasAsked, Cond.code yX0_hasAsked cX0_hasAsked 3 (some .boolean), Cond.fieldLink RX0 32 "HiringFairs$Fair" "asked" "[I", Cond.methodLink RX0 97 yX2_likingAt, Cond.instanceMethod yX2_likingAt, Cond.selects RX2 yX2_likingAt yX2_likingAt, Cond.code yX2_likingAt cX2_likingAt 4 (some .int)]
def wsX4_next : List Cond := .code yX4_next cX4_next 2 (some .int) :: ((wsX4_next_r1 ++ wsX4_next_r2) ++ wsX40 ++ wsX20 ++ wsX00)
def wsX4_go_r1 : List Cond := [Cond.fieldLink RX4 38 "HiringFairs" "year" "LHiringFairs$Year;", Cond.fieldLink RX4 26 "HiringFairs" "fair" "LHiringFairs$Fair;", Cond.fieldLink RX4 138 "HiringFairs$Fair" "minutes" "I", Cond.methodLink RX4 50 yX4_isWithin, Cond.static yX4_isWithin, Cond.initialized RX4, Cond.code yX4_isWithin cX4_isWithin 3 (some .boolean), Cond.methodLink RX4 54 yX3_hasBegun, Cond.instanceMethod yX3_hasBegun, Cond.selects RX3 yX3_hasBegun yX3_hasBegun, Cond.initialized RX3, Cond.code yX3_hasBegun cX3_hasBegun 1 (some .boolean), Cond.fieldLink RX3 15 "HiringFairs$Year" "day" "I", Cond.methodLink RX4 134 yX0_goOn, Cond.instanceMethod yX0_goOn, Cond.selects RX0 yX0_goOn yX0_goOn, Cond.initialized RX0, Cond.code yX0_goOn cX0_goOn 6 none, Cond.fieldLink RX0 38 "HiringFairs$Fair" "minutes" "I", Cond.methodLink RX0 53 Lib.Math.min.name, Cond.static Lib.Math.min.name, Cond.initialized "java/lang/Math", Cond.code Lib.Math.min.name Lib.Math.min.code 2 (some .int), Cond.methodLink RX0 59 yX0_playMinute]
def wsX4_go_r2 : List Cond := [Cond.instanceMethod yX0_playMinute, Cond.selects RX0 yX0_playMinute yX0_playMinute, Cond.code yX0_playMinute cX0_playMinute 6 (some .boolean), Cond.fieldLink RX0 9 "HiringFairs$Fair" "people" "LHiringFairs$People;", Cond.fieldLink RX0 63 "HiringFairs$People" "masters" "I", Cond.fieldLink RX0 29 "HiringFairs$Fair" "servantOf" "[I", Cond.methodLink RX0 68 yX0_askBest, Cond.instanceMethod yX0_askBest, Cond.selects RX0 yX0_askBest yX0_askBest, Cond.code yX0_askBest cX0_askBest 7 (some .boolean), Cond.fieldLink RX0 19 "HiringFairs$Fair" "masterOf" "[I", Cond.fieldLink RX0 32 "HiringFairs$Fair" "asked" "[I", Cond.fieldLink RX0 15 "HiringFairs$Fair" "ledger" "LHiringFairs$Ledger;", Cond.methodLink RX0 72 yX0_choiceOf, Cond.instanceMethod yX0_choiceOf, Cond.selects RX0 yX0_choiceOf yX0_choiceOf, Cond.code yX0_choiceOf cX0_choiceOf 7 (some .int), Cond.fieldLink RX0 91 "HiringFairs$People" "servants" "I", Cond.methodLink RX0 76 yX2_offerTo, Cond.instanceMethod yX2_offerTo, Cond.selects RX2 yX2_offerTo yX2_offerTo, Cond.initialized RX2, Cond.code yX2_offerTo cX2_offerTo 4 (some .int), Cond.fieldLink RX2 21 "HiringFairs$People" "wantedKind" "[I"]
def wsX4_go_r3 : List Cond := [Cond.fieldLink RX2 9 "HiringFairs$People" "kind" "[I", Cond.fieldLink RX2 24 "HiringFairs$People" "most" "[I", Cond.fieldLink RX2 18 "HiringFairs$People" "least" "[I", Cond.methodLink RX2 49 yX2_isBarred, Cond.instanceMethod yX2_isBarred, Cond.selects RX2 yX2_isBarred yX2_isBarred, Cond.code yX2_isBarred cX2_isBarred 3 (some .boolean), Cond.fieldLink RX2 32 "HiringFairs$People" "barred" "[I", Cond.methodLink RX2 53 yX2_heldFor, Cond.instanceMethod yX2_heldFor, Cond.selects RX2 yX2_heldFor yX2_heldFor, Cond.code yX2_heldFor cX2_heldFor 4 (some .int), Cond.fieldLink RX2 29 "HiringFairs$People" "heard" "[[I", Cond.methodLink RX0 94 yX0_hasAsked, Cond.instanceMethod yX0_hasAsked, Cond.selects RX0 yX0_hasAsked yX0_hasAsked, Cond.code yX0_hasAsked cX0_hasAsked 3 (some .boolean), Cond.methodLink RX0 97 yX2_likingAt, Cond.instanceMethod yX2_likingAt, Cond.selects RX2 yX2_likingAt yX2_likingAt, Cond.code yX2_likingAt cX2_likingAt 4 (some .int), Cond.methodLink RX0 79 yX0_takes, Cond.instanceMethod yX0_takes, Cond.selects RX0 yX0_takes yX0_takes]
def wsX4_go_r4 : List Cond := [Cond.code yX0_takes cX0_takes 4 (some .boolean), Cond.fieldLink RX0 23 "HiringFairs$Fair" "wage" "[I", Cond.methodLink RX0 101 yX0_isBound, Cond.instanceMethod yX0_isBound, Cond.selects RX0 yX0_isBound yX0_isBound, Cond.code yX0_isBound cX0_isBound 2 (some .boolean), Cond.methodLink RX0 83 yX1_write, Cond.instanceMethod yX1_write, Cond.selects RX1 yX1_write yX1_write, Cond.initialized RX1, Cond.code yX1_write cX1_write 8 none, Cond.fieldLink RX1 23 "HiringFairs$Ledger" "count" "I", Cond.fieldLink RX1 13 "HiringFairs$Ledger" "room" "I", Cond.fieldLink RX1 19 "HiringFairs$Ledger" "rows" "[I", Cond.methodLink RX0 87 yX0_bind, Cond.instanceMethod yX0_bind, Cond.selects RX0 yX0_bind yX0_bind, Cond.code yX0_bind cX0_bind 6 none, Cond.fieldLink RX0 26 "HiringFairs$Fair" "shillingMinute" "[I", Cond.methodLink RX4 141 yX3_begin, Cond.instanceMethod yX3_begin, Cond.selects RX3 yX3_begin yX3_begin, Cond.code yX3_begin cX3_begin 1 none]
def wsX4_go : List Cond := .code yX4_go cX4_go 2 (some .int) :: ((wsX4_go_r1 ++ (wsX4_go_r2 ++ (wsX4_go_r3 ++ wsX4_go_r4))) ++ wsX40 ++ wsX00 ++ wsX30 ++ wsX20 ++ wsX10)
def wsX4_bargains : List Cond := .code yX4_bargains cX4_bargains 1 (some .int) :: ([.fieldLink RX4 26 "HiringFairs" "fair" "LHiringFairs$Fair;", .fieldLink RX4 144 "HiringFairs$Fair" "ledger" "LHiringFairs$Ledger;", .fieldLink RX4 148 "HiringFairs$Ledger" "count" "I"] ++ wsX40 ++ wsX00 ++ wsX10)
def wsX4_bargain : List Cond := .code yX4_bargain cX4_bargain 3 (some .int) :: ([.fieldLink RX4 26 "HiringFairs" "fair" "LHiringFairs$Fair;", .fieldLink RX4 144 "HiringFairs$Fair" "ledger" "LHiringFairs$Ledger;", .methodLink RX4 151 yX1_has, .instanceMethod yX1_has, .selects RX1 yX1_has yX1_has, .initialized RX1, .code yX1_has cX1_has 2 (some .boolean), .fieldLink RX1 23 "HiringFairs$Ledger" "count" "I", .methodLink RX4 50 yX4_isWithin, .static yX4_isWithin, .initialized RX4, .code yX4_isWithin cX4_isWithin 3 (some .boolean), .methodLink RX4 154 yX1_read, .instanceMethod yX1_read, .selects RX1 yX1_read yX1_read, .code yX1_read cX1_read 3 (some .int), .fieldLink RX1 19 "HiringFairs$Ledger" "rows" "[I"] ++ wsX40 ++ wsX00 ++ wsX10)
def wsX4_torn_r1 : List Cond := [Cond.fieldLink RX4 26 "HiringFairs" "fair" "LHiringFairs$Fair;", Cond.methodLink RX4 157 yX0_countTorn, Cond.instanceMethod yX0_countTorn, Cond.selects RX0 yX0_countTorn yX0_countTorn, Cond.initialized RX0, Cond.code yX0_countTorn cX0_countTorn 4 (some .int), Cond.fieldLink RX0 9 "HiringFairs$Fair" "people" "LHiringFairs$People;", Cond.fieldLink RX0 91 "HiringFairs$People" "servants" "I", Cond.fieldLink RX0 63 "HiringFairs$People" "masters" "I", Cond.methodLink RX0 110 yX0_isTorn, Cond.instanceMethod yX0_isTorn, Cond.selects RX0 yX0_isTorn yX0_isTorn, Cond.code yX0_isTorn cX0_isTorn 5 (some .boolean), Cond.fieldLink RX0 19 "HiringFairs$Fair" "masterOf" "[I", Cond.fieldLink RX0 23 "HiringFairs$Fair" "wage" "[I", Cond.methodLink RX0 76 yX2_offerTo, Cond.instanceMethod yX2_offerTo, Cond.selects RX2 yX2_offerTo yX2_offerTo, Cond.initialized RX2, Cond.code yX2_offerTo cX2_offerTo 4 (some .int), Cond.fieldLink RX2 21 "HiringFairs$People" "wantedKind" "[I", Cond.fieldLink RX2 9 "HiringFairs$People" "kind" "[I", Cond.fieldLink RX2 24 "HiringFairs$People" "most" "[I", Cond.fieldLink RX2 18 "HiringFairs$People" "least" "[I"]
def wsX4_torn_r2 : List Cond := [Cond.methodLink RX2 49 yX2_isBarred, Cond.instanceMethod yX2_isBarred, Cond.selects RX2 yX2_isBarred yX2_isBarred, Cond.code yX2_isBarred cX2_isBarred 3 (some .boolean), Cond.fieldLink RX2 32 "HiringFairs$People" "barred" "[I", Cond.methodLink RX2 53 yX2_heldFor, Cond.instanceMethod yX2_heldFor, Cond.selects RX2 yX2_heldFor yX2_heldFor, Cond.code yX2_heldFor cX2_heldFor 4 (some .int), Cond.fieldLink RX2 29 "HiringFairs$People" "heard" "[[I", Cond.methodLink RX0 101 yX0_isBound, Cond.instanceMethod yX0_isBound, Cond.selects RX0 yX0_isBound yX0_isBound, Cond.code yX0_isBound cX0_isBound 2 (some .boolean), Cond.methodLink RX0 113 yX0_wouldRather, Cond.instanceMethod yX0_wouldRather, Cond.selects RX0 yX0_wouldRather yX0_wouldRather, Cond.code yX0_wouldRather cX0_wouldRather 5 (some .boolean), Cond.fieldLink RX0 29 "HiringFairs$Fair" "servantOf" "[I", Cond.methodLink RX0 97 yX2_likingAt, Cond.instanceMethod yX2_likingAt, Cond.selects RX2 yX2_likingAt yX2_likingAt, Cond.code yX2_likingAt cX2_likingAt 4 (some .int)]
def wsX4_torn : List Cond := .code yX4_torn cX4_torn 1 (some .int) :: ((wsX4_torn_r1 ++ wsX4_torn_r2) ++ wsX40 ++ wsX00 ++ wsX20)
def wsX4_pair_r1 : List Cond := [Cond.fieldLink RX4 26 "HiringFairs" "fair" "LHiringFairs$Fair;", Cond.methodLink RX4 161 yX0_findTorn, Cond.instanceMethod yX0_findTorn, Cond.selects RX0 yX0_findTorn yX0_findTorn, Cond.initialized RX0, Cond.code yX0_findTorn cX0_findTorn 5 (some .int), Cond.fieldLink RX0 9 "HiringFairs$Fair" "people" "LHiringFairs$People;", Cond.fieldLink RX0 91 "HiringFairs$People" "servants" "I", Cond.fieldLink RX0 63 "HiringFairs$People" "masters" "I", Cond.methodLink RX0 110 yX0_isTorn, Cond.instanceMethod yX0_isTorn, Cond.selects RX0 yX0_isTorn yX0_isTorn, Cond.code yX0_isTorn cX0_isTorn 5 (some .boolean), Cond.fieldLink RX0 19 "HiringFairs$Fair" "masterOf" "[I", Cond.fieldLink RX0 23 "HiringFairs$Fair" "wage" "[I", Cond.methodLink RX0 76 yX2_offerTo, Cond.instanceMethod yX2_offerTo, Cond.selects RX2 yX2_offerTo yX2_offerTo, Cond.initialized RX2, Cond.code yX2_offerTo cX2_offerTo 4 (some .int), Cond.fieldLink RX2 21 "HiringFairs$People" "wantedKind" "[I", Cond.fieldLink RX2 9 "HiringFairs$People" "kind" "[I", Cond.fieldLink RX2 24 "HiringFairs$People" "most" "[I", Cond.fieldLink RX2 18 "HiringFairs$People" "least" "[I"]
def wsX4_pair_r2 : List Cond := [Cond.methodLink RX2 49 yX2_isBarred, Cond.instanceMethod yX2_isBarred, Cond.selects RX2 yX2_isBarred yX2_isBarred, Cond.code yX2_isBarred cX2_isBarred 3 (some .boolean), Cond.fieldLink RX2 32 "HiringFairs$People" "barred" "[I", Cond.methodLink RX2 53 yX2_heldFor, Cond.instanceMethod yX2_heldFor, Cond.selects RX2 yX2_heldFor yX2_heldFor, Cond.code yX2_heldFor cX2_heldFor 4 (some .int), Cond.fieldLink RX2 29 "HiringFairs$People" "heard" "[[I", Cond.methodLink RX0 101 yX0_isBound, Cond.instanceMethod yX0_isBound, Cond.selects RX0 yX0_isBound yX0_isBound, Cond.code yX0_isBound cX0_isBound 2 (some .boolean), Cond.methodLink RX0 113 yX0_wouldRather, Cond.instanceMethod yX0_wouldRather, Cond.selects RX0 yX0_wouldRather yX0_wouldRather, Cond.code yX0_wouldRather cX0_wouldRather 5 (some .boolean), Cond.fieldLink RX0 29 "HiringFairs$Fair" "servantOf" "[I", Cond.methodLink RX0 97 yX2_likingAt, Cond.instanceMethod yX2_likingAt, Cond.selects RX2 yX2_likingAt yX2_likingAt, Cond.code yX2_likingAt cX2_likingAt 4 (some .int)]
def wsX4_pair : List Cond := .code yX4_pair cX4_pair 2 (some .int) :: ((wsX4_pair_r1 ++ wsX4_pair_r2) ++ wsX40 ++ wsX00 ++ wsX20)
def wsX4_foretold_r1 : List Cond := [Cond.fieldLink RX4 30 "HiringFairs" "trial" "LHiringFairs$Fair;", Cond.methodLink RX4 50 yX4_isWithin, Cond.static yX4_isWithin, Cond.initialized RX4, Cond.code yX4_isWithin cX4_isWithin 3 (some .boolean), Cond.methodLink RX4 164 yX0_startAnew, Cond.instanceMethod yX0_startAnew, Cond.selects RX0 yX0_startAnew yX0_startAnew, Cond.initialized RX0, Cond.code yX0_startAnew cX0_startAnew 1 none, Cond.fieldLink RX0 38 "HiringFairs$Fair" "minutes" "I", Cond.fieldLink RX0 15 "HiringFairs$Fair" "ledger" "LHiringFairs$Ledger;", Cond.fieldLink RX0 42 "HiringFairs$Ledger" "count" "I", Cond.fieldLink RX0 19 "HiringFairs$Fair" "masterOf" "[I", Cond.fieldLink RX0 23 "HiringFairs$Fair" "wage" "[I", Cond.fieldLink RX0 26 "HiringFairs$Fair" "shillingMinute" "[I", Cond.fieldLink RX0 29 "HiringFairs$Fair" "servantOf" "[I", Cond.fieldLink RX0 32 "HiringFairs$Fair" "asked" "[I", Cond.methodLink RX0 47 yJ7_fill_53178, Cond.static yJ7_fill_53178, Cond.initialized RJ7, Cond.code yJ7_fill_53178 cJ7_fill_53178 4 none, Cond.methodLink RX4 134 yX0_goOn, Cond.instanceMethod yX0_goOn]
def wsX4_foretold_r2 : List Cond := [Cond.selects RX0 yX0_goOn yX0_goOn, Cond.code yX0_goOn cX0_goOn 6 none, Cond.methodLink RX0 53 Lib.Math.min.name, Cond.static Lib.Math.min.name, Cond.initialized "java/lang/Math", Cond.code Lib.Math.min.name Lib.Math.min.code 2 (some .int), Cond.methodLink RX0 59 yX0_playMinute, Cond.instanceMethod yX0_playMinute, Cond.selects RX0 yX0_playMinute yX0_playMinute, Cond.code yX0_playMinute cX0_playMinute 6 (some .boolean), Cond.fieldLink RX0 9 "HiringFairs$Fair" "people" "LHiringFairs$People;", Cond.fieldLink RX0 63 "HiringFairs$People" "masters" "I", Cond.methodLink RX0 68 yX0_askBest, Cond.instanceMethod yX0_askBest, Cond.selects RX0 yX0_askBest yX0_askBest, Cond.code yX0_askBest cX0_askBest 7 (some .boolean), Cond.methodLink RX0 72 yX0_choiceOf, Cond.instanceMethod yX0_choiceOf, Cond.selects RX0 yX0_choiceOf yX0_choiceOf, Cond.code yX0_choiceOf cX0_choiceOf 7 (some .int), Cond.fieldLink RX0 91 "HiringFairs$People" "servants" "I", Cond.methodLink RX0 76 yX2_offerTo, Cond.instanceMethod yX2_offerTo, Cond.selects RX2 yX2_offerTo yX2_offerTo]
def wsX4_foretold_r3 : List Cond := [Cond.initialized RX2, Cond.code yX2_offerTo cX2_offerTo 4 (some .int), Cond.fieldLink RX2 21 "HiringFairs$People" "wantedKind" "[I", Cond.fieldLink RX2 9 "HiringFairs$People" "kind" "[I", Cond.fieldLink RX2 24 "HiringFairs$People" "most" "[I", Cond.fieldLink RX2 18 "HiringFairs$People" "least" "[I", Cond.methodLink RX2 49 yX2_isBarred, Cond.instanceMethod yX2_isBarred, Cond.selects RX2 yX2_isBarred yX2_isBarred, Cond.code yX2_isBarred cX2_isBarred 3 (some .boolean), Cond.fieldLink RX2 32 "HiringFairs$People" "barred" "[I", Cond.methodLink RX2 53 yX2_heldFor, Cond.instanceMethod yX2_heldFor, Cond.selects RX2 yX2_heldFor yX2_heldFor, Cond.code yX2_heldFor cX2_heldFor 4 (some .int), Cond.fieldLink RX2 29 "HiringFairs$People" "heard" "[[I", Cond.methodLink RX0 94 yX0_hasAsked, Cond.instanceMethod yX0_hasAsked, Cond.selects RX0 yX0_hasAsked yX0_hasAsked, Cond.code yX0_hasAsked cX0_hasAsked 3 (some .boolean), Cond.methodLink RX0 97 yX2_likingAt, Cond.instanceMethod yX2_likingAt, Cond.selects RX2 yX2_likingAt yX2_likingAt, Cond.code yX2_likingAt cX2_likingAt 4 (some .int)]
def wsX4_foretold_r4 : List Cond := [Cond.methodLink RX0 79 yX0_takes, Cond.instanceMethod yX0_takes, Cond.selects RX0 yX0_takes yX0_takes, Cond.code yX0_takes cX0_takes 4 (some .boolean), Cond.methodLink RX0 101 yX0_isBound, Cond.instanceMethod yX0_isBound, Cond.selects RX0 yX0_isBound yX0_isBound, Cond.code yX0_isBound cX0_isBound 2 (some .boolean), Cond.methodLink RX0 83 yX1_write, Cond.instanceMethod yX1_write, Cond.selects RX1 yX1_write yX1_write, Cond.initialized RX1, Cond.code yX1_write cX1_write 8 none, Cond.fieldLink RX1 23 "HiringFairs$Ledger" "count" "I", Cond.fieldLink RX1 13 "HiringFairs$Ledger" "room" "I", Cond.fieldLink RX1 19 "HiringFairs$Ledger" "rows" "[I", Cond.methodLink RX0 87 yX0_bind, Cond.instanceMethod yX0_bind, Cond.selects RX0 yX0_bind yX0_bind, Cond.code yX0_bind cX0_bind 6 none, Cond.methodLink RX4 167 yX0_countBound, Cond.instanceMethod yX0_countBound, Cond.selects RX0 yX0_countBound yX0_countBound, Cond.code yX0_countBound cX0_countBound 3 (some .int)]
def wsX4_foretold_r5 : List Cond := [Cond.methodLink RX4 157 yX0_countTorn, Cond.instanceMethod yX0_countTorn, Cond.selects RX0 yX0_countTorn yX0_countTorn, Cond.code yX0_countTorn cX0_countTorn 4 (some .int), Cond.methodLink RX0 110 yX0_isTorn, Cond.instanceMethod yX0_isTorn, Cond.selects RX0 yX0_isTorn yX0_isTorn, Cond.code yX0_isTorn cX0_isTorn 5 (some .boolean), Cond.methodLink RX0 113 yX0_wouldRather, Cond.instanceMethod yX0_wouldRather, Cond.selects RX0 yX0_wouldRather yX0_wouldRather, Cond.code yX0_wouldRather cX0_wouldRather 5 (some .boolean), Cond.methodLink RX4 170 yX0_sumWages, Cond.instanceMethod yX0_sumWages, Cond.selects RX0 yX0_sumWages yX0_sumWages, Cond.code yX0_sumWages cX0_sumWages 3 (some .int)]
def wsX4_foretold : List Cond := .code yX4_foretold cX4_foretold 3 (some .int) :: ((wsX4_foretold_r1 ++ (wsX4_foretold_r2 ++ (wsX4_foretold_r3 ++ (wsX4_foretold_r4 ++ wsX4_foretold_r5)))) ++ wsX40 ++ wsX00 ++ wsX10 ++ wsX20)
def wsX4_text : List Cond := .code yX4_text cX4_text 3 (some .int) :: ([.fieldLink RX4 42 "HiringFairs" "countyText" "I", .methodLink RX4 50 yX4_isWithin, .static yX4_isWithin, .initialized RX4, .code yX4_isWithin cX4_isWithin 3 (some .boolean)] ++ wsX40)
def wsX4_days : List Cond := .code yX4_days cX4_days 2 (some .int) :: ([.fieldLink RX4 38 "HiringFairs" "year" "LHiringFairs$Year;", .fieldLink RX4 173 "HiringFairs$Year" "day" "I", .methodLink RX4 50 yX4_isWithin, .static yX4_isWithin, .initialized RX4, .code yX4_isWithin cX4_isWithin 3 (some .boolean), .methodLink RX4 54 yX3_hasBegun, .instanceMethod yX3_hasBegun, .selects RX3 yX3_hasBegun yX3_hasBegun, .initialized RX3, .code yX3_hasBegun cX3_hasBegun 1 (some .boolean), .fieldLink RX3 15 "HiringFairs$Year" "day" "I"] ++ wsX40 ++ wsX30)
def wsX4_sick_r1 : List Cond := [Cond.fieldLink RX4 12 "HiringFairs" "people" "LHiringFairs$People;", Cond.fieldLink RX4 38 "HiringFairs" "year" "LHiringFairs$Year;", Cond.methodLink RX4 90 yX2_hasServant, Cond.instanceMethod yX2_hasServant, Cond.selects RX2 yX2_hasServant yX2_hasServant, Cond.initialized RX2, Cond.code yX2_hasServant cX2_hasServant 2 (some .boolean), Cond.fieldLink RX2 35 "HiringFairs$People" "servants" "I", Cond.methodLink RX4 50 yX4_isWithin, Cond.static yX4_isWithin, Cond.initialized RX4, Cond.code yX4_isWithin cX4_isWithin 3 (some .boolean), Cond.methodLink RX4 176 yX3_servesNow, Cond.instanceMethod yX3_servesNow, Cond.selects RX3 yX3_servesNow yX3_servesNow, Cond.initialized RX3, Cond.code yX3_servesNow cX3_servesNow 2 (some .boolean), Cond.fieldLink RX3 15 "HiringFairs$Year" "day" "I", Cond.methodLink RX3 46 yX3_hasBegun, Cond.instanceMethod yX3_hasBegun, Cond.selects RX3 yX3_hasBegun yX3_hasBegun, Cond.code yX3_hasBegun cX3_hasBegun 1 (some .boolean), Cond.methodLink RX3 50 yX3_servesOn, Cond.instanceMethod yX3_servesOn]
def wsX4_sick_r2 : List Cond := [Cond.selects RX3 yX3_servesOn yX3_servesOn, Cond.code yX3_servesOn cX3_servesOn 3 (some .boolean), Cond.fieldLink RX3 9 "HiringFairs$Year" "fair" "LHiringFairs$Fair;", Cond.fieldLink RX3 19 "HiringFairs$Year" "end" "[I", Cond.methodLink RX3 40 yX0_isBound, Cond.instanceMethod yX0_isBound, Cond.selects RX0 yX0_isBound yX0_isBound, Cond.initialized RX0, Cond.code yX0_isBound cX0_isBound 2 (some .boolean), Cond.fieldLink RX0 19 "HiringFairs$Fair" "masterOf" "[I", Cond.methodLink RX4 179 yX3_fallSick, Cond.instanceMethod yX3_fallSick, Cond.selects RX3 yX3_fallSick yX3_fallSick, Cond.code yX3_fallSick cX3_fallSick 5 none, Cond.methodLink RX3 54 Lib.Math.min.name, Cond.static Lib.Math.min.name, Cond.initialized "java/lang/Math", Cond.code Lib.Math.min.name Lib.Math.min.code 2 (some .int), Cond.fieldLink RX3 36 "HiringFairs$Year" "sickDays" "[J", Cond.methodLink RX3 60 yX3_wordOf, Cond.static yX3_wordOf, Cond.code yX3_wordOf cX3_wordOf 2 (some .int), Cond.methodLink RX3 63 yX3_dayBit, Cond.static yX3_dayBit]
def wsX4_sick_r3 : List Cond := [Cond.code yX3_dayBit cX3_dayBit 1 (some .long), Cond.methodLink RX4 183 yX3_countSick, Cond.instanceMethod yX3_countSick, Cond.selects RX3 yX3_countSick yX3_countSick, Cond.code yX3_countSick cX3_countSick 5 (some .int)]
def wsX4_sick : List Cond := .code yX4_sick cX4_sick 3 (some .int) :: ((wsX4_sick_r1 ++ (wsX4_sick_r2 ++ wsX4_sick_r3)) ++ wsX40 ++ wsX20 ++ wsX30 ++ wsX00)
def wsX4_warn_r1 : List Cond := [Cond.fieldLink RX4 12 "HiringFairs" "people" "LHiringFairs$People;", Cond.fieldLink RX4 38 "HiringFairs" "year" "LHiringFairs$Year;", Cond.fieldLink RX4 186 "HiringFairs$Year" "warned" "[Z", Cond.methodLink RX4 90 yX2_hasServant, Cond.instanceMethod yX2_hasServant, Cond.selects RX2 yX2_hasServant yX2_hasServant, Cond.initialized RX2, Cond.code yX2_hasServant cX2_hasServant 2 (some .boolean), Cond.fieldLink RX2 35 "HiringFairs$People" "servants" "I", Cond.methodLink RX4 176 yX3_servesNow, Cond.instanceMethod yX3_servesNow, Cond.selects RX3 yX3_servesNow yX3_servesNow, Cond.initialized RX3, Cond.code yX3_servesNow cX3_servesNow 2 (some .boolean), Cond.fieldLink RX3 15 "HiringFairs$Year" "day" "I", Cond.methodLink RX3 46 yX3_hasBegun, Cond.instanceMethod yX3_hasBegun, Cond.selects RX3 yX3_hasBegun yX3_hasBegun, Cond.code yX3_hasBegun cX3_hasBegun 1 (some .boolean), Cond.methodLink RX3 50 yX3_servesOn, Cond.instanceMethod yX3_servesOn, Cond.selects RX3 yX3_servesOn yX3_servesOn, Cond.code yX3_servesOn cX3_servesOn 3 (some .boolean), Cond.fieldLink RX3 9 "HiringFairs$Year" "fair" "LHiringFairs$Fair;"]
def wsX4_warn_r2 : List Cond := [Cond.fieldLink RX3 19 "HiringFairs$Year" "end" "[I", Cond.methodLink RX3 40 yX0_isBound, Cond.instanceMethod yX0_isBound, Cond.selects RX0 yX0_isBound yX0_isBound, Cond.initialized RX0, Cond.code yX0_isBound cX0_isBound 2 (some .boolean), Cond.fieldLink RX0 19 "HiringFairs$Fair" "masterOf" "[I", Cond.methodLink RX4 190 yX3_giveWarning, Cond.instanceMethod yX3_giveWarning, Cond.selects RX3 yX3_giveWarning yX3_giveWarning, Cond.code yX3_giveWarning cX3_giveWarning 2 (some .int), Cond.fieldLink RX3 29 "HiringFairs$Year" "warned" "[Z", Cond.methodLink RX3 54 Lib.Math.min.name, Cond.static Lib.Math.min.name, Cond.initialized "java/lang/Math", Cond.code Lib.Math.min.name Lib.Math.min.code 2 (some .int)]
def wsX4_warn : List Cond := .code yX4_warn cX4_warn 2 (some .int) :: ((wsX4_warn_r1 ++ wsX4_warn_r2) ++ wsX40 ++ wsX30 ++ wsX20 ++ wsX00)
def wsX4_run_r1 : List Cond := [Cond.fieldLink RX4 12 "HiringFairs" "people" "LHiringFairs$People;", Cond.fieldLink RX4 38 "HiringFairs" "year" "LHiringFairs$Year;", Cond.fieldLink RX4 193 "HiringFairs$Year" "forfeited" "[Z", Cond.fieldLink RX4 42 "HiringFairs" "countyText" "I", Cond.methodLink RX4 90 yX2_hasServant, Cond.instanceMethod yX2_hasServant, Cond.selects RX2 yX2_hasServant yX2_hasServant, Cond.initialized RX2, Cond.code yX2_hasServant cX2_hasServant 2 (some .boolean), Cond.fieldLink RX2 35 "HiringFairs$People" "servants" "I", Cond.methodLink RX4 176 yX3_servesNow, Cond.instanceMethod yX3_servesNow, Cond.selects RX3 yX3_servesNow yX3_servesNow, Cond.initialized RX3, Cond.code yX3_servesNow cX3_servesNow 2 (some .boolean), Cond.fieldLink RX3 15 "HiringFairs$Year" "day" "I", Cond.methodLink RX3 46 yX3_hasBegun, Cond.instanceMethod yX3_hasBegun, Cond.selects RX3 yX3_hasBegun yX3_hasBegun, Cond.code yX3_hasBegun cX3_hasBegun 1 (some .boolean), Cond.methodLink RX3 50 yX3_servesOn, Cond.instanceMethod yX3_servesOn, Cond.selects RX3 yX3_servesOn yX3_servesOn, Cond.code yX3_servesOn cX3_servesOn 3 (some .boolean)]
def wsX4_run_r2 : List Cond := [Cond.fieldLink RX3 9 "HiringFairs$Year" "fair" "LHiringFairs$Fair;", Cond.fieldLink RX3 19 "HiringFairs$Year" "end" "[I", Cond.methodLink RX3 40 yX0_isBound, Cond.instanceMethod yX0_isBound, Cond.selects RX0 yX0_isBound yX0_isBound, Cond.initialized RX0, Cond.code yX0_isBound cX0_isBound 2 (some .boolean), Cond.fieldLink RX0 19 "HiringFairs$Fair" "masterOf" "[I", Cond.methodLink RX4 196 yX3_leave, Cond.instanceMethod yX3_leave, Cond.selects RX3 yX3_leave yX3_leave, Cond.code yX3_leave cX3_leave 2 (some .int)]
def wsX4_run : List Cond := .code yX4_run cX4_run 2 (some .int) :: ((wsX4_run_r1 ++ wsX4_run_r2) ++ wsX40 ++ wsX30 ++ wsX20 ++ wsX00)
def wsX4_isHeldAboveSkill : List Cond := .code yX4_isHeldAboveSkill cX4_isHeldAboveSkill 3 (some .boolean) :: ([.fieldLink RX4 26 "HiringFairs" "fair" "LHiringFairs$Fair;", .fieldLink RX4 103 "HiringFairs$Fair" "masterOf" "[I", .fieldLink RX4 12 "HiringFairs" "people" "LHiringFairs$People;", .fieldLink RX4 97 "HiringFairs$People" "skill" "[I", .methodLink RX4 77 yX2_heldFor, .instanceMethod yX2_heldFor, .selects RX2 yX2_heldFor yX2_heldFor, .initialized RX2, .code yX2_heldFor cX2_heldFor 4 (some .int), .fieldLink RX2 29 "HiringFairs$People" "heard" "[[I"] ++ wsX40 ++ wsX00 ++ wsX20)
def wsX4_send_r1 : List Cond := [Cond.fieldLink RX4 12 "HiringFairs" "people" "LHiringFairs$People;", Cond.fieldLink RX4 38 "HiringFairs" "year" "LHiringFairs$Year;", Cond.methodLink RX4 90 yX2_hasServant, Cond.instanceMethod yX2_hasServant, Cond.selects RX2 yX2_hasServant yX2_hasServant, Cond.initialized RX2, Cond.code yX2_hasServant cX2_hasServant 2 (some .boolean), Cond.fieldLink RX2 35 "HiringFairs$People" "servants" "I", Cond.methodLink RX4 176 yX3_servesNow, Cond.instanceMethod yX3_servesNow, Cond.selects RX3 yX3_servesNow yX3_servesNow, Cond.initialized RX3, Cond.code yX3_servesNow cX3_servesNow 2 (some .boolean), Cond.fieldLink RX3 15 "HiringFairs$Year" "day" "I", Cond.methodLink RX3 46 yX3_hasBegun, Cond.instanceMethod yX3_hasBegun, Cond.selects RX3 yX3_hasBegun yX3_hasBegun, Cond.code yX3_hasBegun cX3_hasBegun 1 (some .boolean), Cond.methodLink RX3 50 yX3_servesOn, Cond.instanceMethod yX3_servesOn, Cond.selects RX3 yX3_servesOn yX3_servesOn, Cond.code yX3_servesOn cX3_servesOn 3 (some .boolean), Cond.fieldLink RX3 9 "HiringFairs$Year" "fair" "LHiringFairs$Fair;", Cond.fieldLink RX3 19 "HiringFairs$Year" "end" "[I"]
def wsX4_send_r2 : List Cond := [Cond.methodLink RX3 40 yX0_isBound, Cond.instanceMethod yX0_isBound, Cond.selects RX0 yX0_isBound yX0_isBound, Cond.initialized RX0, Cond.code yX0_isBound cX0_isBound 2 (some .boolean), Cond.fieldLink RX0 19 "HiringFairs$Fair" "masterOf" "[I", Cond.methodLink RX4 199 yX4_isHeldAboveSkill, Cond.instanceMethod yX4_isHeldAboveSkill, Cond.selects RX4 yX4_isHeldAboveSkill yX4_isHeldAboveSkill, Cond.initialized RX4, Cond.code yX4_isHeldAboveSkill cX4_isHeldAboveSkill 3 (some .boolean), Cond.fieldLink RX4 26 "HiringFairs" "fair" "LHiringFairs$Fair;", Cond.fieldLink RX4 103 "HiringFairs$Fair" "masterOf" "[I", Cond.fieldLink RX4 97 "HiringFairs$People" "skill" "[I", Cond.methodLink RX4 77 yX2_heldFor, Cond.instanceMethod yX2_heldFor, Cond.selects RX2 yX2_heldFor yX2_heldFor, Cond.code yX2_heldFor cX2_heldFor 4 (some .int), Cond.fieldLink RX2 29 "HiringFairs$People" "heard" "[[I", Cond.methodLink RX4 196 yX3_leave, Cond.instanceMethod yX3_leave, Cond.selects RX3 yX3_leave yX3_leave, Cond.code yX3_leave cX3_leave 2 (some .int)]
def wsX4_send : List Cond := .code yX4_send cX4_send 2 (some .int) :: ((wsX4_send_r1 ++ wsX4_send_r2) ++ wsX40 ++ wsX20 ++ wsX30 ++ wsX00)
def wsX4_isDay : List Cond := .code yX4_isDay cX4_isDay 1 (some .boolean) :: ([.methodLink RX4 50 yX4_isWithin, .static yX4_isWithin, .initialized RX4, .code yX4_isWithin cX4_isWithin 3 (some .boolean)])
def wsX4_due_r1 : List Cond := [Cond.fieldLink RX4 12 "HiringFairs" "people" "LHiringFairs$People;", Cond.fieldLink RX4 38 "HiringFairs" "year" "LHiringFairs$Year;", Cond.fieldLink RX4 26 "HiringFairs" "fair" "LHiringFairs$Fair;", Cond.methodLink RX4 90 yX2_hasServant, Cond.instanceMethod yX2_hasServant, Cond.selects RX2 yX2_hasServant yX2_hasServant, Cond.initialized RX2, Cond.code yX2_hasServant cX2_hasServant 2 (some .boolean), Cond.fieldLink RX2 35 "HiringFairs$People" "servants" "I", Cond.methodLink RX4 202 yX4_isDay, Cond.static yX4_isDay, Cond.initialized RX4, Cond.code yX4_isDay cX4_isDay 1 (some .boolean), Cond.methodLink RX4 50 yX4_isWithin, Cond.static yX4_isWithin, Cond.code yX4_isWithin cX4_isWithin 3 (some .boolean), Cond.methodLink RX4 54 yX3_hasBegun, Cond.instanceMethod yX3_hasBegun, Cond.selects RX3 yX3_hasBegun yX3_hasBegun, Cond.initialized RX3, Cond.code yX3_hasBegun cX3_hasBegun 1 (some .boolean), Cond.fieldLink RX3 15 "HiringFairs$Year" "day" "I", Cond.methodLink RX4 205 yX0_isBound, Cond.instanceMethod yX0_isBound]
def wsX4_due_r2 : List Cond := [Cond.selects RX0 yX0_isBound yX0_isBound, Cond.initialized RX0, Cond.code yX0_isBound cX0_isBound 2 (some .boolean), Cond.fieldLink RX0 19 "HiringFairs$Fair" "masterOf" "[I", Cond.methodLink RX4 208 yX3_wagesDue, Cond.instanceMethod yX3_wagesDue, Cond.selects RX3 yX3_wagesDue yX3_wagesDue, Cond.code yX3_wagesDue cX3_wagesDue 5 (some .int), Cond.fieldLink RX3 33 "HiringFairs$Year" "forfeited" "[Z", Cond.fieldLink RX3 19 "HiringFairs$Year" "end" "[I", Cond.methodLink RX3 54 Lib.Math.min.name, Cond.static Lib.Math.min.name, Cond.initialized "java/lang/Math", Cond.code Lib.Math.min.name Lib.Math.min.code 2 (some .int), Cond.fieldLink RX3 9 "HiringFairs$Year" "fair" "LHiringFairs$Fair;", Cond.fieldLink RX3 70 "HiringFairs$Fair" "wage" "[I", Cond.methodLink RX3 67 yX3_countSick, Cond.instanceMethod yX3_countSick, Cond.selects RX3 yX3_countSick yX3_countSick, Cond.code yX3_countSick cX3_countSick 5 (some .int), Cond.fieldLink RX3 36 "HiringFairs$Year" "sickDays" "[J", Cond.methodLink RX3 60 yX3_wordOf, Cond.static yX3_wordOf, Cond.code yX3_wordOf cX3_wordOf 2 (some .int)]
def wsX4_due_r3 : List Cond := [Cond.methodLink RX3 63 yX3_dayBit, Cond.static yX3_dayBit, Cond.code yX3_dayBit cX3_dayBit 1 (some .long)]
def wsX4_due : List Cond := .code yX4_due cX4_due 3 (some .int) :: ((wsX4_due_r1 ++ (wsX4_due_r2 ++ wsX4_due_r3)) ++ wsX40 ++ wsX20 ++ wsX30 ++ wsX00)
def wsX4_owes_r1 : List Cond := [Cond.fieldLink RX4 12 "HiringFairs" "people" "LHiringFairs$People;", Cond.fieldLink RX4 38 "HiringFairs" "year" "LHiringFairs$Year;", Cond.fieldLink RX4 26 "HiringFairs" "fair" "LHiringFairs$Fair;", Cond.fieldLink RX4 122 "HiringFairs$Fair" "servantOf" "[I", Cond.methodLink RX4 84 yX2_hasMaster, Cond.instanceMethod yX2_hasMaster, Cond.selects RX2 yX2_hasMaster yX2_hasMaster, Cond.initialized RX2, Cond.code yX2_hasMaster cX2_hasMaster 2 (some .boolean), Cond.fieldLink RX2 39 "HiringFairs$People" "masters" "I", Cond.methodLink RX4 202 yX4_isDay, Cond.static yX4_isDay, Cond.initialized RX4, Cond.code yX4_isDay cX4_isDay 1 (some .boolean), Cond.methodLink RX4 50 yX4_isWithin, Cond.static yX4_isWithin, Cond.code yX4_isWithin cX4_isWithin 3 (some .boolean), Cond.methodLink RX4 54 yX3_hasBegun, Cond.instanceMethod yX3_hasBegun, Cond.selects RX3 yX3_hasBegun yX3_hasBegun, Cond.initialized RX3, Cond.code yX3_hasBegun cX3_hasBegun 1 (some .boolean), Cond.fieldLink RX3 15 "HiringFairs$Year" "day" "I", Cond.methodLink RX4 208 yX3_wagesDue]
def wsX4_owes_r2 : List Cond := [Cond.instanceMethod yX3_wagesDue, Cond.selects RX3 yX3_wagesDue yX3_wagesDue, Cond.code yX3_wagesDue cX3_wagesDue 5 (some .int), Cond.fieldLink RX3 33 "HiringFairs$Year" "forfeited" "[Z", Cond.fieldLink RX3 19 "HiringFairs$Year" "end" "[I", Cond.methodLink RX3 54 Lib.Math.min.name, Cond.static Lib.Math.min.name, Cond.initialized "java/lang/Math", Cond.code Lib.Math.min.name Lib.Math.min.code 2 (some .int), Cond.fieldLink RX3 9 "HiringFairs$Year" "fair" "LHiringFairs$Fair;", Cond.fieldLink RX3 70 "HiringFairs$Fair" "wage" "[I", Cond.methodLink RX3 67 yX3_countSick, Cond.instanceMethod yX3_countSick, Cond.selects RX3 yX3_countSick yX3_countSick, Cond.code yX3_countSick cX3_countSick 5 (some .int), Cond.fieldLink RX3 36 "HiringFairs$Year" "sickDays" "[J", Cond.methodLink RX3 60 yX3_wordOf, Cond.static yX3_wordOf, Cond.code yX3_wordOf cX3_wordOf 2 (some .int), Cond.methodLink RX3 63 yX3_dayBit, Cond.static yX3_dayBit, Cond.code yX3_dayBit cX3_dayBit 1 (some .long)]
def wsX4_owes : List Cond := .code yX4_owes cX4_owes 4 (some .int) :: ((wsX4_owes_r1 ++ wsX4_owes_r2) ++ wsX40 ++ wsX00 ++ wsX20 ++ wsX30)
def wsX4_hands_r1 : List Cond := [Cond.fieldLink RX4 38 "HiringFairs" "year" "LHiringFairs$Year;", Cond.fieldLink RX4 12 "HiringFairs" "people" "LHiringFairs$People;", Cond.fieldLink RX4 211 "HiringFairs$People" "servants" "I", Cond.fieldLink RX4 93 "HiringFairs$People" "kind" "[I", Cond.methodLink RX4 46 yX4_isKind, Cond.static yX4_isKind, Cond.initialized RX4, Cond.code yX4_isKind cX4_isKind 1 (some .boolean), Cond.methodLink RX4 50 yX4_isWithin, Cond.static yX4_isWithin, Cond.code yX4_isWithin cX4_isWithin 3 (some .boolean), Cond.methodLink RX4 202 yX4_isDay, Cond.static yX4_isDay, Cond.code yX4_isDay cX4_isDay 1 (some .boolean), Cond.methodLink RX4 54 yX3_hasBegun, Cond.instanceMethod yX3_hasBegun, Cond.selects RX3 yX3_hasBegun yX3_hasBegun, Cond.initialized RX3, Cond.code yX3_hasBegun cX3_hasBegun 1 (some .boolean), Cond.fieldLink RX3 15 "HiringFairs$Year" "day" "I", Cond.methodLink RX4 214 yX3_servesOn, Cond.instanceMethod yX3_servesOn, Cond.selects RX3 yX3_servesOn yX3_servesOn, Cond.code yX3_servesOn cX3_servesOn 3 (some .boolean)]
def wsX4_hands_r2 : List Cond := [Cond.fieldLink RX3 9 "HiringFairs$Year" "fair" "LHiringFairs$Fair;", Cond.fieldLink RX3 19 "HiringFairs$Year" "end" "[I", Cond.methodLink RX3 40 yX0_isBound, Cond.instanceMethod yX0_isBound, Cond.selects RX0 yX0_isBound yX0_isBound, Cond.initialized RX0, Cond.code yX0_isBound cX0_isBound 2 (some .boolean), Cond.fieldLink RX0 19 "HiringFairs$Fair" "masterOf" "[I"]
def wsX4_hands : List Cond := .code yX4_hands cX4_hands 5 (some .int) :: ((wsX4_hands_r1 ++ wsX4_hands_r2) ++ wsX40 ++ wsX20 ++ wsX30 ++ wsX00)
def wsX4_total_r1 : List Cond := [Cond.fieldLink RX4 12 "HiringFairs" "people" "LHiringFairs$People;", Cond.fieldLink RX4 211 "HiringFairs$People" "servants" "I", Cond.fieldLink RX4 217 "HiringFairs$People" "masters" "I", Cond.fieldLink RX4 26 "HiringFairs" "fair" "LHiringFairs$Fair;", Cond.fieldLink RX4 138 "HiringFairs$Fair" "minutes" "I", Cond.fieldLink RX4 38 "HiringFairs" "year" "LHiringFairs$Year;", Cond.fieldLink RX4 173 "HiringFairs$Year" "day" "I", Cond.fieldLink RX4 42 "HiringFairs" "countyText" "I", Cond.methodLink RX4 167 yX0_countBound, Cond.instanceMethod yX0_countBound, Cond.selects RX0 yX0_countBound yX0_countBound, Cond.initialized RX0, Cond.code yX0_countBound cX0_countBound 3 (some .int), Cond.fieldLink RX0 9 "HiringFairs$Fair" "people" "LHiringFairs$People;", Cond.fieldLink RX0 91 "HiringFairs$People" "servants" "I", Cond.methodLink RX0 101 yX0_isBound, Cond.instanceMethod yX0_isBound, Cond.selects RX0 yX0_isBound yX0_isBound, Cond.code yX0_isBound cX0_isBound 2 (some .boolean), Cond.fieldLink RX0 19 "HiringFairs$Fair" "masterOf" "[I", Cond.methodLink RX4 170 yX0_sumWages, Cond.instanceMethod yX0_sumWages, Cond.selects RX0 yX0_sumWages yX0_sumWages, Cond.code yX0_sumWages cX0_sumWages 3 (some .int)]
def wsX4_total_r2 : List Cond := [Cond.fieldLink RX0 23 "HiringFairs$Fair" "wage" "[I"]
def wsX4_total : List Cond := .code yX4_total cX4_total 2 (some .int) :: ((wsX4_total_r1 ++ wsX4_total_r2) ++ wsX40 ++ wsX20 ++ wsX00 ++ wsX30)
def wsX5_init_r1 : List Cond := [Cond.methodLink RX5 1 objectInit, Cond.instanceMethod objectInit, Cond.code objectInit ⟨#[0xb1]⟩ 1 none, Cond.arrayClass .int, Cond.fieldLink RX5 7 "HiringFairsModel" "kind" "[I", Cond.fieldLink RX5 13 "HiringFairsModel" "skill" "[I", Cond.fieldLink RX5 16 "HiringFairsModel" "least" "[I", Cond.fieldLink RX5 19 "HiringFairsModel" "wants" "[I", Cond.fieldLink RX5 22 "HiringFairsModel" "most" "[I", Cond.fieldLink RX5 25 "HiringFairsModel" "heard" "[I", Cond.arrayClass .boolean, Cond.fieldLink RX5 28 "HiringFairsModel" "bars" "[Z", Cond.fieldLink RX5 32 "HiringFairsModel" "asked" "[Z", Cond.fieldLink RX5 35 "HiringFairsModel" "boundTo" "[I", Cond.fieldLink RX5 38 "HiringFairsModel" "wage" "[I", Cond.fieldLink RX5 41 "HiringFairsModel" "shilling" "[I", Cond.fieldLink RX5 44 "HiringFairsModel" "has" "[I", Cond.fieldLink RX5 47 "HiringFairsModel" "told" "[I", Cond.fieldLink RX5 50 "HiringFairsModel" "day" "I", Cond.fieldLink RX5 54 "HiringFairsModel" "end" "[I", Cond.fieldLink RX5 57 "HiringFairsModel" "isWarned" "[Z", Cond.fieldLink RX5 60 "HiringFairsModel" "isUnpaid" "[Z", Cond.fieldLink RX5 63 "HiringFairsModel" "isSick" "[Z", Cond.fieldLink RX5 66 "HiringFairsModel" "thenAsked" "[Z"]
def wsX5_init_r2 : List Cond := [Cond.fieldLink RX5 69 "HiringFairsModel" "thenBound" "[I", Cond.fieldLink RX5 72 "HiringFairsModel" "thenWage" "[I", Cond.fieldLink RX5 75 "HiringFairsModel" "thenHas" "[I"]
def wsX5_init : List Cond := .code yX5_init cX5_init 1 none :: ((wsX5_init_r1 ++ wsX5_init_r2) ++ wsX50)
def wsX5_in : List Cond := .code yX5_in cX5_in 6 (some .boolean) :: ([])
def wsX5_noServant : List Cond := .code yX5_noServant cX5_noServant 2 (some .boolean) :: ([.fieldLink RX5 81 "HiringFairsModel" "servants" "I", .methodLink RX5 84 yX5_in, .static yX5_in, .initialized RX5, .code yX5_in cX5_in 6 (some .boolean)] ++ wsX50)
def wsX5_noMaster : List Cond := .code yX5_noMaster cX5_noMaster 2 (some .boolean) :: ([.fieldLink RX5 88 "HiringFairsModel" "masters" "I", .methodLink RX5 84 yX5_in, .static yX5_in, .initialized RX5, .code yX5_in cX5_in 6 (some .boolean)] ++ wsX50)
def wsX5_held : List Cond := .code yX5_held cX5_held 3 (some .int) :: ([.fieldLink RX5 25 "HiringFairsModel" "heard" "[I"] ++ wsX50)
def wsX5_offerOf : List Cond := .code yX5_offerOf cX5_offerOf 4 (some .int) :: ([.fieldLink RX5 22 "HiringFairsModel" "most" "[I", .fieldLink RX5 19 "HiringFairsModel" "wants" "[I", .fieldLink RX5 7 "HiringFairsModel" "kind" "[I", .fieldLink RX5 28 "HiringFairsModel" "bars" "[Z", .fieldLink RX5 16 "HiringFairsModel" "least" "[I", .methodLink RX5 91 yX5_held, .instanceMethod yX5_held, .selects RX5 yX5_held yX5_held, .initialized RX5, .code yX5_held cX5_held 3 (some .int), .fieldLink RX5 25 "HiringFairsModel" "heard" "[I"] ++ wsX50)
def wsX5_nextOf : List Cond := .code yX5_nextOf cX5_nextOf 8 (some .int) :: ([.fieldLink RX5 81 "HiringFairsModel" "servants" "I", .methodLink RX5 95 yX5_offerOf, .instanceMethod yX5_offerOf, .selects RX5 yX5_offerOf yX5_offerOf, .initialized RX5, .code yX5_offerOf cX5_offerOf 4 (some .int), .fieldLink RX5 22 "HiringFairsModel" "most" "[I", .fieldLink RX5 19 "HiringFairsModel" "wants" "[I", .fieldLink RX5 7 "HiringFairsModel" "kind" "[I", .fieldLink RX5 28 "HiringFairsModel" "bars" "[Z", .fieldLink RX5 16 "HiringFairsModel" "least" "[I", .methodLink RX5 91 yX5_held, .instanceMethod yX5_held, .selects RX5 yX5_held yX5_held, .code yX5_held cX5_held 3 (some .int), .fieldLink RX5 25 "HiringFairsModel" "heard" "[I"] ++ wsX50)
def wsX5_isTorn : List Cond := .code yX5_isTorn cX5_isTorn 9 (some .boolean) :: ([.methodLink RX5 95 yX5_offerOf, .instanceMethod yX5_offerOf, .selects RX5 yX5_offerOf yX5_offerOf, .initialized RX5, .code yX5_offerOf cX5_offerOf 4 (some .int), .fieldLink RX5 22 "HiringFairsModel" "most" "[I", .fieldLink RX5 19 "HiringFairsModel" "wants" "[I", .fieldLink RX5 7 "HiringFairsModel" "kind" "[I", .fieldLink RX5 28 "HiringFairsModel" "bars" "[Z", .fieldLink RX5 16 "HiringFairsModel" "least" "[I", .methodLink RX5 91 yX5_held, .instanceMethod yX5_held, .selects RX5 yX5_held yX5_held, .code yX5_held cX5_held 3 (some .int), .fieldLink RX5 25 "HiringFairsModel" "heard" "[I"] ++ wsX50)
def wsX5_servant : List Cond := .code yX5_servant cX5_servant 4 (some .int) :: ([.fieldLink RX5 78 "HiringFairsModel" "thrown" "I", .constantLong RX5 98 (2), .constantLong RX5 100 (9), .constantLong RX5 102 (60), .fieldLink RX5 50 "HiringFairsModel" "day" "I", .fieldLink RX5 81 "HiringFairsModel" "servants" "I", .fieldLink RX5 7 "HiringFairsModel" "kind" "[I", .fieldLink RX5 13 "HiringFairsModel" "skill" "[I", .fieldLink RX5 16 "HiringFairsModel" "least" "[I", .methodLink RX5 84 yX5_in, .static yX5_in, .initialized RX5, .code yX5_in cX5_in 6 (some .boolean)] ++ wsX50)
def wsX5_master : List Cond := .code yX5_master cX5_master 3 (some .int) :: ([.fieldLink RX5 78 "HiringFairsModel" "thrown" "I", .constantLong RX5 98 (2), .constantLong RX5 104 (90), .fieldLink RX5 50 "HiringFairsModel" "day" "I", .fieldLink RX5 88 "HiringFairsModel" "masters" "I", .fieldLink RX5 19 "HiringFairsModel" "wants" "[I", .fieldLink RX5 22 "HiringFairsModel" "most" "[I", .methodLink RX5 84 yX5_in, .static yX5_in, .initialized RX5, .code yX5_in cX5_in 6 (some .boolean)] ++ wsX50)
def wsX5_bar : List Cond := .code yX5_bar cX5_bar 5 (some .int) :: ([.fieldLink RX5 78 "HiringFairsModel" "thrown" "I", .fieldLink RX5 28 "HiringFairsModel" "bars" "[Z", .methodLink RX5 106 yX5_noServant, .instanceMethod yX5_noServant, .selects RX5 yX5_noServant yX5_noServant, .initialized RX5, .code yX5_noServant cX5_noServant 2 (some .boolean), .fieldLink RX5 81 "HiringFairsModel" "servants" "I", .methodLink RX5 84 yX5_in, .static yX5_in, .code yX5_in cX5_in 6 (some .boolean), .methodLink RX5 110 yX5_noMaster, .instanceMethod yX5_noMaster, .selects RX5 yX5_noMaster yX5_noMaster, .code yX5_noMaster cX5_noMaster 2 (some .boolean), .fieldLink RX5 88 "HiringFairsModel" "masters" "I"] ++ wsX50)
def wsX5_hear : List Cond := .code yX5_hear cX5_hear 5 (some .int) :: ([.fieldLink RX5 78 "HiringFairsModel" "thrown" "I", .constantLong RX5 100 (9), .fieldLink RX5 25 "HiringFairsModel" "heard" "[I", .methodLink RX5 110 yX5_noMaster, .instanceMethod yX5_noMaster, .selects RX5 yX5_noMaster yX5_noMaster, .initialized RX5, .code yX5_noMaster cX5_noMaster 2 (some .boolean), .fieldLink RX5 88 "HiringFairsModel" "masters" "I", .methodLink RX5 84 yX5_in, .static yX5_in, .code yX5_in cX5_in 6 (some .boolean), .methodLink RX5 106 yX5_noServant, .instanceMethod yX5_noServant, .selects RX5 yX5_noServant yX5_noServant, .code yX5_noServant cX5_noServant 2 (some .boolean), .fieldLink RX5 81 "HiringFairsModel" "servants" "I", .methodLink RX5 91 yX5_held, .instanceMethod yX5_held, .selects RX5 yX5_held yX5_held, .code yX5_held cX5_held 3 (some .int)] ++ wsX50)
def wsX5_pass : List Cond := .code yX5_pass cX5_pass 4 (some .int) :: ([.fieldLink RX5 78 "HiringFairsModel" "thrown" "I", .fieldLink RX5 25 "HiringFairsModel" "heard" "[I", .methodLink RX5 110 yX5_noMaster, .instanceMethod yX5_noMaster, .selects RX5 yX5_noMaster yX5_noMaster, .initialized RX5, .code yX5_noMaster cX5_noMaster 2 (some .boolean), .fieldLink RX5 88 "HiringFairsModel" "masters" "I", .methodLink RX5 84 yX5_in, .static yX5_in, .code yX5_in cX5_in 6 (some .boolean), .methodLink RX5 106 yX5_noServant, .instanceMethod yX5_noServant, .selects RX5 yX5_noServant yX5_noServant, .code yX5_noServant cX5_noServant 2 (some .boolean), .fieldLink RX5 81 "HiringFairsModel" "servants" "I"] ++ wsX50)
def wsX5_about : List Cond := .code yX5_about cX5_about 4 (some .int) :: ([.fieldLink RX5 78 "HiringFairsModel" "thrown" "I", .fieldLink RX5 35 "HiringFairsModel" "boundTo" "[I", .fieldLink RX5 7 "HiringFairsModel" "kind" "[I", .fieldLink RX5 13 "HiringFairsModel" "skill" "[I", .fieldLink RX5 16 "HiringFairsModel" "least" "[I", .fieldLink RX5 38 "HiringFairsModel" "wage" "[I", .fieldLink RX5 41 "HiringFairsModel" "shilling" "[I", .fieldLink RX5 50 "HiringFairsModel" "day" "I", .fieldLink RX5 54 "HiringFairsModel" "end" "[I", .methodLink RX5 106 yX5_noServant, .instanceMethod yX5_noServant, .selects RX5 yX5_noServant yX5_noServant, .initialized RX5, .code yX5_noServant cX5_noServant 2 (some .boolean), .fieldLink RX5 81 "HiringFairsModel" "servants" "I", .methodLink RX5 84 yX5_in, .static yX5_in, .code yX5_in cX5_in 6 (some .boolean)] ++ wsX50)
def wsX5_house : List Cond := .code yX5_house cX5_house 5 (some .int) :: ([.fieldLink RX5 78 "HiringFairsModel" "thrown" "I", .fieldLink RX5 32 "HiringFairsModel" "asked" "[Z", .fieldLink RX5 19 "HiringFairsModel" "wants" "[I", .fieldLink RX5 22 "HiringFairsModel" "most" "[I", .fieldLink RX5 44 "HiringFairsModel" "has" "[I", .methodLink RX5 110 yX5_noMaster, .instanceMethod yX5_noMaster, .selects RX5 yX5_noMaster yX5_noMaster, .initialized RX5, .code yX5_noMaster cX5_noMaster 2 (some .boolean), .fieldLink RX5 88 "HiringFairsModel" "masters" "I", .methodLink RX5 84 yX5_in, .static yX5_in, .code yX5_in cX5_in 6 (some .boolean)] ++ wsX50)
def wsX5_holds : List Cond := .code yX5_holds cX5_holds 3 (some .int) :: ([.fieldLink RX5 78 "HiringFairsModel" "thrown" "I", .methodLink RX5 110 yX5_noMaster, .instanceMethod yX5_noMaster, .selects RX5 yX5_noMaster yX5_noMaster, .initialized RX5, .code yX5_noMaster cX5_noMaster 2 (some .boolean), .fieldLink RX5 88 "HiringFairsModel" "masters" "I", .methodLink RX5 84 yX5_in, .static yX5_in, .code yX5_in cX5_in 6 (some .boolean), .methodLink RX5 106 yX5_noServant, .instanceMethod yX5_noServant, .selects RX5 yX5_noServant yX5_noServant, .code yX5_noServant cX5_noServant 2 (some .boolean), .fieldLink RX5 81 "HiringFairsModel" "servants" "I", .methodLink RX5 91 yX5_held, .instanceMethod yX5_held, .selects RX5 yX5_held yX5_held, .code yX5_held cX5_held 3 (some .int), .fieldLink RX5 25 "HiringFairsModel" "heard" "[I"] ++ wsX50)
def wsX5_offer_r1 : List Cond := [Cond.fieldLink RX5 78 "HiringFairsModel" "thrown" "I", Cond.methodLink RX5 110 yX5_noMaster, Cond.instanceMethod yX5_noMaster, Cond.selects RX5 yX5_noMaster yX5_noMaster, Cond.initialized RX5, Cond.code yX5_noMaster cX5_noMaster 2 (some .boolean), Cond.fieldLink RX5 88 "HiringFairsModel" "masters" "I", Cond.methodLink RX5 84 yX5_in, Cond.static yX5_in, Cond.code yX5_in cX5_in 6 (some .boolean), Cond.methodLink RX5 106 yX5_noServant, Cond.instanceMethod yX5_noServant, Cond.selects RX5 yX5_noServant yX5_noServant, Cond.code yX5_noServant cX5_noServant 2 (some .boolean), Cond.fieldLink RX5 81 "HiringFairsModel" "servants" "I", Cond.methodLink RX5 95 yX5_offerOf, Cond.instanceMethod yX5_offerOf, Cond.selects RX5 yX5_offerOf yX5_offerOf, Cond.code yX5_offerOf cX5_offerOf 4 (some .int), Cond.fieldLink RX5 22 "HiringFairsModel" "most" "[I", Cond.fieldLink RX5 19 "HiringFairsModel" "wants" "[I", Cond.fieldLink RX5 7 "HiringFairsModel" "kind" "[I", Cond.fieldLink RX5 28 "HiringFairsModel" "bars" "[Z", Cond.fieldLink RX5 16 "HiringFairsModel" "least" "[I"]
def wsX5_offer_r2 : List Cond := [Cond.methodLink RX5 91 yX5_held, Cond.instanceMethod yX5_held, Cond.selects RX5 yX5_held yX5_held, Cond.code yX5_held cX5_held 3 (some .int), Cond.fieldLink RX5 25 "HiringFairsModel" "heard" "[I"]
def wsX5_offer : List Cond := .code yX5_offer cX5_offer 3 (some .int) :: ((wsX5_offer_r1 ++ wsX5_offer_r2) ++ wsX50)
def wsX5_next_r1 : List Cond := [Cond.fieldLink RX5 78 "HiringFairsModel" "thrown" "I", Cond.fieldLink RX5 32 "HiringFairsModel" "asked" "[Z", Cond.methodLink RX5 110 yX5_noMaster, Cond.instanceMethod yX5_noMaster, Cond.selects RX5 yX5_noMaster yX5_noMaster, Cond.initialized RX5, Cond.code yX5_noMaster cX5_noMaster 2 (some .boolean), Cond.fieldLink RX5 88 "HiringFairsModel" "masters" "I", Cond.methodLink RX5 84 yX5_in, Cond.static yX5_in, Cond.code yX5_in cX5_in 6 (some .boolean), Cond.methodLink RX5 113 yX5_nextOf, Cond.instanceMethod yX5_nextOf, Cond.selects RX5 yX5_nextOf yX5_nextOf, Cond.code yX5_nextOf cX5_nextOf 8 (some .int), Cond.fieldLink RX5 81 "HiringFairsModel" "servants" "I", Cond.methodLink RX5 95 yX5_offerOf, Cond.instanceMethod yX5_offerOf, Cond.selects RX5 yX5_offerOf yX5_offerOf, Cond.code yX5_offerOf cX5_offerOf 4 (some .int), Cond.fieldLink RX5 22 "HiringFairsModel" "most" "[I", Cond.fieldLink RX5 19 "HiringFairsModel" "wants" "[I", Cond.fieldLink RX5 7 "HiringFairsModel" "kind" "[I", Cond.fieldLink RX5 28 "HiringFairsModel" "bars" "[Z"]
def wsX5_next_r2 : List Cond := [Cond.fieldLink RX5 16 "HiringFairsModel" "least" "[I", Cond.methodLink RX5 91 yX5_held, Cond.instanceMethod yX5_held, Cond.selects RX5 yX5_held yX5_held, Cond.code yX5_held cX5_held 3 (some .int), Cond.fieldLink RX5 25 "HiringFairsModel" "heard" "[I"]
def wsX5_next : List Cond := .code yX5_next cX5_next 2 (some .int) :: ((wsX5_next_r1 ++ wsX5_next_r2) ++ wsX50)
def wsX5_ask_r1 : List Cond := [Cond.fieldLink RX5 32 "HiringFairsModel" "asked" "[Z", Cond.fieldLink RX5 44 "HiringFairsModel" "has" "[I", Cond.fieldLink RX5 35 "HiringFairsModel" "boundTo" "[I", Cond.fieldLink RX5 117 "HiringFairsModel" "minute" "I", Cond.fieldLink RX5 38 "HiringFairsModel" "wage" "[I", Cond.fieldLink RX5 47 "HiringFairsModel" "told" "[I", Cond.fieldLink RX5 120 "HiringFairsModel" "bargains" "I", Cond.fieldLink RX5 41 "HiringFairsModel" "shilling" "[I", Cond.methodLink RX5 113 yX5_nextOf, Cond.instanceMethod yX5_nextOf, Cond.selects RX5 yX5_nextOf yX5_nextOf, Cond.initialized RX5, Cond.code yX5_nextOf cX5_nextOf 8 (some .int), Cond.fieldLink RX5 81 "HiringFairsModel" "servants" "I", Cond.methodLink RX5 95 yX5_offerOf, Cond.instanceMethod yX5_offerOf, Cond.selects RX5 yX5_offerOf yX5_offerOf, Cond.code yX5_offerOf cX5_offerOf 4 (some .int), Cond.fieldLink RX5 22 "HiringFairsModel" "most" "[I", Cond.fieldLink RX5 19 "HiringFairsModel" "wants" "[I", Cond.fieldLink RX5 7 "HiringFairsModel" "kind" "[I", Cond.fieldLink RX5 28 "HiringFairsModel" "bars" "[Z", Cond.fieldLink RX5 16 "HiringFairsModel" "least" "[I", Cond.methodLink RX5 91 yX5_held]
def wsX5_ask_r2 : List Cond := [Cond.instanceMethod yX5_held, Cond.selects RX5 yX5_held yX5_held, Cond.code yX5_held cX5_held 3 (some .int), Cond.fieldLink RX5 25 "HiringFairsModel" "heard" "[I"]
def wsX5_ask : List Cond := .code yX5_ask cX5_ask 6 none :: ((wsX5_ask_r1 ++ wsX5_ask_r2) ++ wsX50)
def wsX5_go_r1 : List Cond := [Cond.fieldLink RX5 78 "HiringFairsModel" "thrown" "I", Cond.constantLong RX5 123 (240), Cond.fieldLink RX5 50 "HiringFairsModel" "day" "I", Cond.fieldLink RX5 117 "HiringFairsModel" "minute" "I", Cond.fieldLink RX5 88 "HiringFairsModel" "masters" "I", Cond.fieldLink RX5 54 "HiringFairsModel" "end" "[I", Cond.methodLink RX5 84 yX5_in, Cond.static yX5_in, Cond.initialized RX5, Cond.code yX5_in cX5_in 6 (some .boolean), Cond.methodLink RX5 125 yX5_ask, Cond.instanceMethod yX5_ask, Cond.selects RX5 yX5_ask yX5_ask, Cond.code yX5_ask cX5_ask 6 none, Cond.fieldLink RX5 32 "HiringFairsModel" "asked" "[Z", Cond.fieldLink RX5 44 "HiringFairsModel" "has" "[I", Cond.fieldLink RX5 35 "HiringFairsModel" "boundTo" "[I", Cond.fieldLink RX5 38 "HiringFairsModel" "wage" "[I", Cond.fieldLink RX5 47 "HiringFairsModel" "told" "[I", Cond.fieldLink RX5 120 "HiringFairsModel" "bargains" "I", Cond.fieldLink RX5 41 "HiringFairsModel" "shilling" "[I", Cond.methodLink RX5 113 yX5_nextOf, Cond.instanceMethod yX5_nextOf, Cond.selects RX5 yX5_nextOf yX5_nextOf]
def wsX5_go_r2 : List Cond := [Cond.code yX5_nextOf cX5_nextOf 8 (some .int), Cond.fieldLink RX5 81 "HiringFairsModel" "servants" "I", Cond.methodLink RX5 95 yX5_offerOf, Cond.instanceMethod yX5_offerOf, Cond.selects RX5 yX5_offerOf yX5_offerOf, Cond.code yX5_offerOf cX5_offerOf 4 (some .int), Cond.fieldLink RX5 22 "HiringFairsModel" "most" "[I", Cond.fieldLink RX5 19 "HiringFairsModel" "wants" "[I", Cond.fieldLink RX5 7 "HiringFairsModel" "kind" "[I", Cond.fieldLink RX5 28 "HiringFairsModel" "bars" "[Z", Cond.fieldLink RX5 16 "HiringFairsModel" "least" "[I", Cond.methodLink RX5 91 yX5_held, Cond.instanceMethod yX5_held, Cond.selects RX5 yX5_held yX5_held, Cond.code yX5_held cX5_held 3 (some .int), Cond.fieldLink RX5 25 "HiringFairsModel" "heard" "[I"]
def wsX5_go : List Cond := .code yX5_go cX5_go 4 (some .int) :: ((wsX5_go_r1 ++ wsX5_go_r2) ++ wsX50)
def wsX5_bargains : List Cond := .code yX5_bargains cX5_bargains 1 (some .int) :: ([.fieldLink RX5 78 "HiringFairsModel" "thrown" "I", .fieldLink RX5 120 "HiringFairsModel" "bargains" "I"] ++ wsX50)
def wsX5_bargain : List Cond := .code yX5_bargain cX5_bargain 3 (some .int) :: ([.fieldLink RX5 78 "HiringFairsModel" "thrown" "I", .fieldLink RX5 120 "HiringFairsModel" "bargains" "I", .constantLong RX5 129 (5), .fieldLink RX5 47 "HiringFairsModel" "told" "[I", .methodLink RX5 84 yX5_in, .static yX5_in, .initialized RX5, .code yX5_in cX5_in 6 (some .boolean)] ++ wsX50)
def wsX5_torn_r1 : List Cond := [Cond.fieldLink RX5 78 "HiringFairsModel" "thrown" "I", Cond.fieldLink RX5 81 "HiringFairsModel" "servants" "I", Cond.fieldLink RX5 88 "HiringFairsModel" "masters" "I", Cond.fieldLink RX5 35 "HiringFairsModel" "boundTo" "[I", Cond.fieldLink RX5 38 "HiringFairsModel" "wage" "[I", Cond.fieldLink RX5 44 "HiringFairsModel" "has" "[I", Cond.methodLink RX5 131 yX5_isTorn, Cond.instanceMethod yX5_isTorn, Cond.selects RX5 yX5_isTorn yX5_isTorn, Cond.initialized RX5, Cond.code yX5_isTorn cX5_isTorn 9 (some .boolean), Cond.methodLink RX5 95 yX5_offerOf, Cond.instanceMethod yX5_offerOf, Cond.selects RX5 yX5_offerOf yX5_offerOf, Cond.code yX5_offerOf cX5_offerOf 4 (some .int), Cond.fieldLink RX5 22 "HiringFairsModel" "most" "[I", Cond.fieldLink RX5 19 "HiringFairsModel" "wants" "[I", Cond.fieldLink RX5 7 "HiringFairsModel" "kind" "[I", Cond.fieldLink RX5 28 "HiringFairsModel" "bars" "[Z", Cond.fieldLink RX5 16 "HiringFairsModel" "least" "[I", Cond.methodLink RX5 91 yX5_held, Cond.instanceMethod yX5_held, Cond.selects RX5 yX5_held yX5_held, Cond.code yX5_held cX5_held 3 (some .int)]
def wsX5_torn_r2 : List Cond := [Cond.fieldLink RX5 25 "HiringFairsModel" "heard" "[I"]
def wsX5_torn : List Cond := .code yX5_torn cX5_torn 4 (some .int) :: ((wsX5_torn_r1 ++ wsX5_torn_r2) ++ wsX50)
def wsX5_pair_r1 : List Cond := [Cond.fieldLink RX5 78 "HiringFairsModel" "thrown" "I", Cond.fieldLink RX5 81 "HiringFairsModel" "servants" "I", Cond.fieldLink RX5 88 "HiringFairsModel" "masters" "I", Cond.fieldLink RX5 35 "HiringFairsModel" "boundTo" "[I", Cond.fieldLink RX5 38 "HiringFairsModel" "wage" "[I", Cond.fieldLink RX5 44 "HiringFairsModel" "has" "[I", Cond.methodLink RX5 131 yX5_isTorn, Cond.instanceMethod yX5_isTorn, Cond.selects RX5 yX5_isTorn yX5_isTorn, Cond.initialized RX5, Cond.code yX5_isTorn cX5_isTorn 9 (some .boolean), Cond.methodLink RX5 95 yX5_offerOf, Cond.instanceMethod yX5_offerOf, Cond.selects RX5 yX5_offerOf yX5_offerOf, Cond.code yX5_offerOf cX5_offerOf 4 (some .int), Cond.fieldLink RX5 22 "HiringFairsModel" "most" "[I", Cond.fieldLink RX5 19 "HiringFairsModel" "wants" "[I", Cond.fieldLink RX5 7 "HiringFairsModel" "kind" "[I", Cond.fieldLink RX5 28 "HiringFairsModel" "bars" "[Z", Cond.fieldLink RX5 16 "HiringFairsModel" "least" "[I", Cond.methodLink RX5 91 yX5_held, Cond.instanceMethod yX5_held, Cond.selects RX5 yX5_held yX5_held, Cond.code yX5_held cX5_held 3 (some .int)]
def wsX5_pair_r2 : List Cond := [Cond.fieldLink RX5 25 "HiringFairsModel" "heard" "[I"]
def wsX5_pair : List Cond := .code yX5_pair cX5_pair 5 (some .int) :: ((wsX5_pair_r1 ++ wsX5_pair_r2) ++ wsX50)
def wsX5_foretell_r1 : List Cond := [Cond.fieldLink RX5 66 "HiringFairsModel" "thenAsked" "[Z", Cond.fieldLink RX5 69 "HiringFairsModel" "thenBound" "[I", Cond.fieldLink RX5 75 "HiringFairsModel" "thenHas" "[I", Cond.fieldLink RX5 88 "HiringFairsModel" "masters" "I", Cond.fieldLink RX5 72 "HiringFairsModel" "thenWage" "[I", Cond.methodLink RX5 113 yX5_nextOf, Cond.instanceMethod yX5_nextOf, Cond.selects RX5 yX5_nextOf yX5_nextOf, Cond.initialized RX5, Cond.code yX5_nextOf cX5_nextOf 8 (some .int), Cond.fieldLink RX5 81 "HiringFairsModel" "servants" "I", Cond.methodLink RX5 95 yX5_offerOf, Cond.instanceMethod yX5_offerOf, Cond.selects RX5 yX5_offerOf yX5_offerOf, Cond.code yX5_offerOf cX5_offerOf 4 (some .int), Cond.fieldLink RX5 22 "HiringFairsModel" "most" "[I", Cond.fieldLink RX5 19 "HiringFairsModel" "wants" "[I", Cond.fieldLink RX5 7 "HiringFairsModel" "kind" "[I", Cond.fieldLink RX5 28 "HiringFairsModel" "bars" "[Z", Cond.fieldLink RX5 16 "HiringFairsModel" "least" "[I", Cond.methodLink RX5 91 yX5_held, Cond.instanceMethod yX5_held, Cond.selects RX5 yX5_held yX5_held, Cond.code yX5_held cX5_held 3 (some .int)]
def wsX5_foretell_r2 : List Cond := [Cond.fieldLink RX5 25 "HiringFairsModel" "heard" "[I"]
def wsX5_foretell : List Cond := .code yX5_foretell cX5_foretell 7 none :: ((wsX5_foretell_r1 ++ wsX5_foretell_r2) ++ wsX50)
def wsX5_foretold_r1 : List Cond := [Cond.fieldLink RX5 78 "HiringFairsModel" "thrown" "I", Cond.constantLong RX5 98 (2), Cond.fieldLink RX5 81 "HiringFairsModel" "servants" "I", Cond.fieldLink RX5 69 "HiringFairsModel" "thenBound" "[I", Cond.fieldLink RX5 72 "HiringFairsModel" "thenWage" "[I", Cond.fieldLink RX5 88 "HiringFairsModel" "masters" "I", Cond.fieldLink RX5 75 "HiringFairsModel" "thenHas" "[I", Cond.methodLink RX5 84 yX5_in, Cond.static yX5_in, Cond.initialized RX5, Cond.code yX5_in cX5_in 6 (some .boolean), Cond.methodLink RX5 135 yX5_foretell, Cond.instanceMethod yX5_foretell, Cond.selects RX5 yX5_foretell yX5_foretell, Cond.code yX5_foretell cX5_foretell 7 none, Cond.fieldLink RX5 66 "HiringFairsModel" "thenAsked" "[Z", Cond.methodLink RX5 113 yX5_nextOf, Cond.instanceMethod yX5_nextOf, Cond.selects RX5 yX5_nextOf yX5_nextOf, Cond.code yX5_nextOf cX5_nextOf 8 (some .int), Cond.methodLink RX5 95 yX5_offerOf, Cond.instanceMethod yX5_offerOf, Cond.selects RX5 yX5_offerOf yX5_offerOf, Cond.code yX5_offerOf cX5_offerOf 4 (some .int)]
def wsX5_foretold_r2 : List Cond := [Cond.fieldLink RX5 22 "HiringFairsModel" "most" "[I", Cond.fieldLink RX5 19 "HiringFairsModel" "wants" "[I", Cond.fieldLink RX5 7 "HiringFairsModel" "kind" "[I", Cond.fieldLink RX5 28 "HiringFairsModel" "bars" "[Z", Cond.fieldLink RX5 16 "HiringFairsModel" "least" "[I", Cond.methodLink RX5 91 yX5_held, Cond.instanceMethod yX5_held, Cond.selects RX5 yX5_held yX5_held, Cond.code yX5_held cX5_held 3 (some .int), Cond.fieldLink RX5 25 "HiringFairsModel" "heard" "[I", Cond.methodLink RX5 131 yX5_isTorn, Cond.instanceMethod yX5_isTorn, Cond.selects RX5 yX5_isTorn yX5_isTorn, Cond.code yX5_isTorn cX5_isTorn 9 (some .boolean)]
def wsX5_foretold : List Cond := .code yX5_foretold cX5_foretold 6 (some .int) :: ((wsX5_foretold_r1 ++ wsX5_foretold_r2) ++ wsX50)
def wsX5_text : List Cond := .code yX5_text cX5_text 3 (some .int) :: ([.fieldLink RX5 78 "HiringFairsModel" "thrown" "I", .fieldLink RX5 139 "HiringFairsModel" "text" "I", .methodLink RX5 84 yX5_in, .static yX5_in, .initialized RX5, .code yX5_in cX5_in 6 (some .boolean)] ++ wsX50)
def wsX5_days : List Cond := .code yX5_days cX5_days 2 (some .int) :: ([.fieldLink RX5 78 "HiringFairsModel" "thrown" "I", .constantLong RX5 142 (363), .fieldLink RX5 50 "HiringFairsModel" "day" "I", .methodLink RX5 84 yX5_in, .static yX5_in, .initialized RX5, .code yX5_in cX5_in 6 (some .boolean)] ++ wsX50)
def wsX5_serves : List Cond := .code yX5_serves cX5_serves 3 (some .boolean) :: ([.fieldLink RX5 35 "HiringFairsModel" "boundTo" "[I", .fieldLink RX5 54 "HiringFairsModel" "end" "[I"] ++ wsX50)
def wsX5_sick : List Cond := .code yX5_sick cX5_sick 5 (some .int) :: ([.fieldLink RX5 78 "HiringFairsModel" "thrown" "I", .constantLong RX5 142 (363), .fieldLink RX5 50 "HiringFairsModel" "day" "I", .fieldLink RX5 63 "HiringFairsModel" "isSick" "[Z", .methodLink RX5 106 yX5_noServant, .instanceMethod yX5_noServant, .selects RX5 yX5_noServant yX5_noServant, .initialized RX5, .code yX5_noServant cX5_noServant 2 (some .boolean), .fieldLink RX5 81 "HiringFairsModel" "servants" "I", .methodLink RX5 84 yX5_in, .static yX5_in, .code yX5_in cX5_in 6 (some .boolean), .methodLink RX5 144 yX5_serves, .instanceMethod yX5_serves, .selects RX5 yX5_serves yX5_serves, .code yX5_serves cX5_serves 3 (some .boolean), .fieldLink RX5 35 "HiringFairsModel" "boundTo" "[I", .fieldLink RX5 54 "HiringFairsModel" "end" "[I"] ++ wsX50)
def wsX5_warn : List Cond := .code yX5_warn cX5_warn 2 (some .int) :: ([.fieldLink RX5 78 "HiringFairsModel" "thrown" "I", .fieldLink RX5 50 "HiringFairsModel" "day" "I", .fieldLink RX5 57 "HiringFairsModel" "isWarned" "[Z", .fieldLink RX5 54 "HiringFairsModel" "end" "[I", .methodLink RX5 106 yX5_noServant, .instanceMethod yX5_noServant, .selects RX5 yX5_noServant yX5_noServant, .initialized RX5, .code yX5_noServant cX5_noServant 2 (some .boolean), .fieldLink RX5 81 "HiringFairsModel" "servants" "I", .methodLink RX5 84 yX5_in, .static yX5_in, .code yX5_in cX5_in 6 (some .boolean), .methodLink RX5 144 yX5_serves, .instanceMethod yX5_serves, .selects RX5 yX5_serves yX5_serves, .code yX5_serves cX5_serves 3 (some .boolean), .fieldLink RX5 35 "HiringFairsModel" "boundTo" "[I"] ++ wsX50)
def wsX5_run : List Cond := .code yX5_run cX5_run 2 (some .int) :: ([.fieldLink RX5 78 "HiringFairsModel" "thrown" "I", .fieldLink RX5 50 "HiringFairsModel" "day" "I", .fieldLink RX5 54 "HiringFairsModel" "end" "[I", .fieldLink RX5 60 "HiringFairsModel" "isUnpaid" "[Z", .fieldLink RX5 139 "HiringFairsModel" "text" "I", .methodLink RX5 106 yX5_noServant, .instanceMethod yX5_noServant, .selects RX5 yX5_noServant yX5_noServant, .initialized RX5, .code yX5_noServant cX5_noServant 2 (some .boolean), .fieldLink RX5 81 "HiringFairsModel" "servants" "I", .methodLink RX5 84 yX5_in, .static yX5_in, .code yX5_in cX5_in 6 (some .boolean), .methodLink RX5 144 yX5_serves, .instanceMethod yX5_serves, .selects RX5 yX5_serves yX5_serves, .code yX5_serves cX5_serves 3 (some .boolean), .fieldLink RX5 35 "HiringFairsModel" "boundTo" "[I"] ++ wsX50)
def wsX5_send : List Cond := .code yX5_send cX5_send 2 (some .int) :: ([.fieldLink RX5 78 "HiringFairsModel" "thrown" "I", .fieldLink RX5 50 "HiringFairsModel" "day" "I", .fieldLink RX5 35 "HiringFairsModel" "boundTo" "[I", .fieldLink RX5 13 "HiringFairsModel" "skill" "[I", .fieldLink RX5 54 "HiringFairsModel" "end" "[I", .methodLink RX5 106 yX5_noServant, .instanceMethod yX5_noServant, .selects RX5 yX5_noServant yX5_noServant, .initialized RX5, .code yX5_noServant cX5_noServant 2 (some .boolean), .fieldLink RX5 81 "HiringFairsModel" "servants" "I", .methodLink RX5 84 yX5_in, .static yX5_in, .code yX5_in cX5_in 6 (some .boolean), .methodLink RX5 144 yX5_serves, .instanceMethod yX5_serves, .selects RX5 yX5_serves yX5_serves, .code yX5_serves cX5_serves 3 (some .boolean), .methodLink RX5 91 yX5_held, .instanceMethod yX5_held, .selects RX5 yX5_held yX5_held, .code yX5_held cX5_held 3 (some .int), .fieldLink RX5 25 "HiringFairsModel" "heard" "[I"] ++ wsX50)
def wsX5_dueOf : List Cond := .code yX5_dueOf cX5_dueOf 5 (some .int) :: ([.fieldLink RX5 54 "HiringFairsModel" "end" "[I", .fieldLink RX5 63 "HiringFairsModel" "isSick" "[Z", .fieldLink RX5 60 "HiringFairsModel" "isUnpaid" "[Z", .fieldLink RX5 38 "HiringFairsModel" "wage" "[I"] ++ wsX50)
def wsX5_due : List Cond := .code yX5_due cX5_due 3 (some .int) :: ([.fieldLink RX5 78 "HiringFairsModel" "thrown" "I", .constantLong RX5 142 (363), .fieldLink RX5 50 "HiringFairsModel" "day" "I", .fieldLink RX5 35 "HiringFairsModel" "boundTo" "[I", .methodLink RX5 106 yX5_noServant, .instanceMethod yX5_noServant, .selects RX5 yX5_noServant yX5_noServant, .initialized RX5, .code yX5_noServant cX5_noServant 2 (some .boolean), .fieldLink RX5 81 "HiringFairsModel" "servants" "I", .methodLink RX5 84 yX5_in, .static yX5_in, .code yX5_in cX5_in 6 (some .boolean), .methodLink RX5 148 yX5_dueOf, .instanceMethod yX5_dueOf, .selects RX5 yX5_dueOf yX5_dueOf, .code yX5_dueOf cX5_dueOf 5 (some .int), .fieldLink RX5 54 "HiringFairsModel" "end" "[I", .fieldLink RX5 63 "HiringFairsModel" "isSick" "[Z", .fieldLink RX5 60 "HiringFairsModel" "isUnpaid" "[Z", .fieldLink RX5 38 "HiringFairsModel" "wage" "[I"] ++ wsX50)
def wsX5_owes : List Cond := .code yX5_owes cX5_owes 3 (some .int) :: ([.fieldLink RX5 78 "HiringFairsModel" "thrown" "I", .constantLong RX5 142 (363), .fieldLink RX5 50 "HiringFairsModel" "day" "I", .fieldLink RX5 44 "HiringFairsModel" "has" "[I", .methodLink RX5 110 yX5_noMaster, .instanceMethod yX5_noMaster, .selects RX5 yX5_noMaster yX5_noMaster, .initialized RX5, .code yX5_noMaster cX5_noMaster 2 (some .boolean), .fieldLink RX5 88 "HiringFairsModel" "masters" "I", .methodLink RX5 84 yX5_in, .static yX5_in, .code yX5_in cX5_in 6 (some .boolean), .methodLink RX5 148 yX5_dueOf, .instanceMethod yX5_dueOf, .selects RX5 yX5_dueOf yX5_dueOf, .code yX5_dueOf cX5_dueOf 5 (some .int), .fieldLink RX5 54 "HiringFairsModel" "end" "[I", .fieldLink RX5 63 "HiringFairsModel" "isSick" "[Z", .fieldLink RX5 60 "HiringFairsModel" "isUnpaid" "[Z", .fieldLink RX5 38 "HiringFairsModel" "wage" "[I"] ++ wsX50)
def wsX5_hands : List Cond := .code yX5_hands cX5_hands 5 (some .int) :: ([.fieldLink RX5 78 "HiringFairsModel" "thrown" "I", .constantLong RX5 98 (2), .constantLong RX5 142 (363), .fieldLink RX5 50 "HiringFairsModel" "day" "I", .fieldLink RX5 81 "HiringFairsModel" "servants" "I", .fieldLink RX5 7 "HiringFairsModel" "kind" "[I", .methodLink RX5 84 yX5_in, .static yX5_in, .initialized RX5, .code yX5_in cX5_in 6 (some .boolean), .methodLink RX5 144 yX5_serves, .instanceMethod yX5_serves, .selects RX5 yX5_serves yX5_serves, .code yX5_serves cX5_serves 3 (some .boolean), .fieldLink RX5 35 "HiringFairsModel" "boundTo" "[I", .fieldLink RX5 54 "HiringFairsModel" "end" "[I"] ++ wsX50)
def wsX5_total : List Cond := .code yX5_total cX5_total 5 (some .int) :: ([.fieldLink RX5 78 "HiringFairsModel" "thrown" "I", .fieldLink RX5 81 "HiringFairsModel" "servants" "I", .fieldLink RX5 35 "HiringFairsModel" "boundTo" "[I", .fieldLink RX5 38 "HiringFairsModel" "wage" "[I", .fieldLink RX5 88 "HiringFairsModel" "masters" "I", .fieldLink RX5 117 "HiringFairsModel" "minute" "I", .fieldLink RX5 50 "HiringFairsModel" "day" "I", .fieldLink RX5 139 "HiringFairsModel" "text" "I"] ++ wsX50)
def wsJ9_max_7cf53 : List Cond := .code yJ9_max_7cf53 cJ9_max_7cf53 2 (some .int) :: ([])
def wsJ9_min_7cf53 : List Cond := .code yJ9_min_7cf53 cJ9_min_7cf53 2 (some .int) :: ([])
def wsL_law_r1 : List Cond := [Cond.classLink RL 7 RX4, Cond.instantiable RX4 5, Cond.initialized RX4, Cond.classLink RL 10 RX5, Cond.instantiable RX5 28, Cond.initialized RX5, Cond.methodLink RL 9 yX4_init, Cond.instanceMethod yX4_init, Cond.code yX4_init cX4_init 1 none, Cond.methodLink RX4 3 objectInit, Cond.instanceMethod objectInit, Cond.code objectInit ⟨#[0xb1]⟩ 1 none, Cond.classLink RX4 9 RX2, Cond.instantiable RX2 9, Cond.initialized RX2, Cond.fieldLink RX4 12 "HiringFairs" "people" "LHiringFairs$People;", Cond.classLink RX4 16 RX0, Cond.instantiable RX0 8, Cond.initialized RX0, Cond.classLink RX4 18 RX1, Cond.instantiable RX1 3, Cond.initialized RX1, Cond.fieldLink RX4 26 "HiringFairs" "fair" "LHiringFairs$Fair;", Cond.fieldLink RX4 30 "HiringFairs" "trial" "LHiringFairs$Fair;"]
def wsL_law_r2 : List Cond := [Cond.classLink RX4 33 RX3, Cond.instantiable RX3 6, Cond.initialized RX3, Cond.fieldLink RX4 38 "HiringFairs" "year" "LHiringFairs$Year;", Cond.fieldLink RX4 42 "HiringFairs" "countyText" "I", Cond.methodLink RX4 11 yX2_init, Cond.instanceMethod yX2_init, Cond.code yX2_init cX2_init 1 none, Cond.methodLink RX2 3 objectInit, Cond.arrayClass .int, Cond.fieldLink RX2 9 "HiringFairs$People" "kind" "[I", Cond.fieldLink RX2 15 "HiringFairs$People" "skill" "[I", Cond.fieldLink RX2 18 "HiringFairs$People" "least" "[I", Cond.fieldLink RX2 21 "HiringFairs$People" "wantedKind" "[I", Cond.fieldLink RX2 24 "HiringFairs$People" "most" "[I", Cond.classLink RX2 27 "[[I", Cond.fieldLink RX2 29 "HiringFairs$People" "heard" "[[I", Cond.fieldLink RX2 32 "HiringFairs$People" "barred" "[I", Cond.methodLink RX4 20 yX1_init, Cond.instanceMethod yX1_init, Cond.code yX1_init cX1_init 2 none, Cond.methodLink RX1 1 objectInit, Cond.methodLink RX1 7 Lib.Math.max.name, Cond.static Lib.Math.max.name]
def wsL_law_r3 : List Cond := [Cond.initialized "java/lang/Math", Cond.code Lib.Math.max.name Lib.Math.max.code 2 (some .int), Cond.fieldLink RX1 13 "HiringFairs$Ledger" "room" "I", Cond.fieldLink RX1 19 "HiringFairs$Ledger" "rows" "[I", Cond.methodLink RX4 23 yX0_init, Cond.instanceMethod yX0_init, Cond.code yX0_init cX0_init 3 none, Cond.methodLink RX0 3 objectInit, Cond.fieldLink RX0 9 "HiringFairs$Fair" "people" "LHiringFairs$People;", Cond.fieldLink RX0 15 "HiringFairs$Fair" "ledger" "LHiringFairs$Ledger;", Cond.fieldLink RX0 19 "HiringFairs$Fair" "masterOf" "[I", Cond.fieldLink RX0 23 "HiringFairs$Fair" "wage" "[I", Cond.fieldLink RX0 26 "HiringFairs$Fair" "shillingMinute" "[I", Cond.fieldLink RX0 29 "HiringFairs$Fair" "servantOf" "[I", Cond.fieldLink RX0 32 "HiringFairs$Fair" "asked" "[I", Cond.methodLink RX0 35 yX0_startAnew, Cond.instanceMethod yX0_startAnew, Cond.selects RX0 yX0_startAnew yX0_startAnew, Cond.code yX0_startAnew cX0_startAnew 1 none, Cond.fieldLink RX0 38 "HiringFairs$Fair" "minutes" "I", Cond.fieldLink RX0 42 "HiringFairs$Ledger" "count" "I", Cond.methodLink RX0 47 yJ7_fill_53178, Cond.static yJ7_fill_53178, Cond.initialized RJ7]
def wsL_law_r4 : List Cond := [Cond.code yJ7_fill_53178 cJ7_fill_53178 4 none, Cond.methodLink RX4 35 yX3_init, Cond.instanceMethod yX3_init, Cond.code yX3_init cX3_init 2 none, Cond.methodLink RX3 3 objectInit, Cond.fieldLink RX3 9 "HiringFairs$Year" "fair" "LHiringFairs$Fair;", Cond.fieldLink RX3 15 "HiringFairs$Year" "day" "I", Cond.fieldLink RX3 19 "HiringFairs$Year" "end" "[I", Cond.arrayClass .boolean, Cond.fieldLink RX3 29 "HiringFairs$Year" "warned" "[Z", Cond.fieldLink RX3 33 "HiringFairs$Year" "forfeited" "[Z", Cond.arrayClass .long, Cond.fieldLink RX3 36 "HiringFairs$Year" "sickDays" "[J", Cond.methodLink RX3 23 yJ7_fill_53178, Cond.methodLink RL 12 yX5_init, Cond.instanceMethod yX5_init, Cond.code yX5_init cX5_init 1 none, Cond.methodLink RX5 1 objectInit, Cond.fieldLink RX5 7 "HiringFairsModel" "kind" "[I", Cond.fieldLink RX5 13 "HiringFairsModel" "skill" "[I", Cond.fieldLink RX5 16 "HiringFairsModel" "least" "[I", Cond.fieldLink RX5 19 "HiringFairsModel" "wants" "[I", Cond.fieldLink RX5 22 "HiringFairsModel" "most" "[I", Cond.fieldLink RX5 25 "HiringFairsModel" "heard" "[I"]
def wsL_law_r5 : List Cond := [Cond.fieldLink RX5 28 "HiringFairsModel" "bars" "[Z", Cond.fieldLink RX5 32 "HiringFairsModel" "asked" "[Z", Cond.fieldLink RX5 35 "HiringFairsModel" "boundTo" "[I", Cond.fieldLink RX5 38 "HiringFairsModel" "wage" "[I", Cond.fieldLink RX5 41 "HiringFairsModel" "shilling" "[I", Cond.fieldLink RX5 44 "HiringFairsModel" "has" "[I", Cond.fieldLink RX5 47 "HiringFairsModel" "told" "[I", Cond.fieldLink RX5 50 "HiringFairsModel" "day" "I", Cond.fieldLink RX5 54 "HiringFairsModel" "end" "[I", Cond.fieldLink RX5 57 "HiringFairsModel" "isWarned" "[Z", Cond.fieldLink RX5 60 "HiringFairsModel" "isUnpaid" "[Z", Cond.fieldLink RX5 63 "HiringFairsModel" "isSick" "[Z", Cond.fieldLink RX5 66 "HiringFairsModel" "thenAsked" "[Z", Cond.fieldLink RX5 69 "HiringFairsModel" "thenBound" "[I", Cond.fieldLink RX5 72 "HiringFairsModel" "thenWage" "[I", Cond.fieldLink RX5 75 "HiringFairsModel" "thenHas" "[I", Cond.methodLink RL 13 yX4_servant, Cond.instanceMethod yX4_servant, Cond.selects RX4 yX4_servant yX4_servant, Cond.code yX4_servant cX4_servant 4 (some .int), Cond.methodLink RX4 46 yX4_isKind, Cond.static yX4_isKind, Cond.code yX4_isKind cX4_isKind 1 (some .boolean), Cond.methodLink RX4 50 yX4_isWithin]
def wsL_law_r6 : List Cond := [Cond.static yX4_isWithin, Cond.code yX4_isWithin cX4_isWithin 3 (some .boolean), Cond.methodLink RX4 54 yX3_hasBegun, Cond.instanceMethod yX3_hasBegun, Cond.selects RX3 yX3_hasBegun yX3_hasBegun, Cond.code yX3_hasBegun cX3_hasBegun 1 (some .boolean), Cond.methodLink RX4 58 yX2_addServant, Cond.instanceMethod yX2_addServant, Cond.selects RX2 yX2_addServant yX2_addServant, Cond.code yX2_addServant cX2_addServant 4 (some .int), Cond.fieldLink RX2 35 "HiringFairs$People" "servants" "I", Cond.methodLink RL 17 yX5_servant, Cond.instanceMethod yX5_servant, Cond.selects RX5 yX5_servant yX5_servant, Cond.code yX5_servant cX5_servant 4 (some .int), Cond.fieldLink RX5 78 "HiringFairsModel" "thrown" "I", Cond.constantLong RX5 98 (2), Cond.constantLong RX5 100 (9), Cond.constantLong RX5 102 (60), Cond.fieldLink RX5 81 "HiringFairsModel" "servants" "I", Cond.methodLink RX5 84 yX5_in, Cond.static yX5_in, Cond.code yX5_in cX5_in 6 (some .boolean), Cond.methodLink RL 18 yX4_master]
def wsL_law_r7 : List Cond := [Cond.instanceMethod yX4_master, Cond.selects RX4 yX4_master yX4_master, Cond.code yX4_master cX4_master 3 (some .int), Cond.methodLink RX4 62 yX2_addMaster, Cond.instanceMethod yX2_addMaster, Cond.selects RX2 yX2_addMaster yX2_addMaster, Cond.code yX2_addMaster cX2_addMaster 3 (some .int), Cond.fieldLink RX2 39 "HiringFairs$People" "masters" "I", Cond.methodLink RL 22 yX5_master, Cond.instanceMethod yX5_master, Cond.selects RX5 yX5_master yX5_master, Cond.code yX5_master cX5_master 3 (some .int), Cond.constantLong RX5 104 (90), Cond.fieldLink RX5 88 "HiringFairsModel" "masters" "I", Cond.methodLink RL 23 yX4_bar, Cond.instanceMethod yX4_bar, Cond.selects RX4 yX4_bar yX4_bar, Cond.code yX4_bar cX4_bar 5 (some .int), Cond.methodLink RX4 66 yX2_hasBoth, Cond.instanceMethod yX2_hasBoth, Cond.selects RX2 yX2_hasBoth yX2_hasBoth, Cond.code yX2_hasBoth cX2_hasBoth 3 (some .boolean), Cond.methodLink RX2 42 yX2_hasMaster, Cond.instanceMethod yX2_hasMaster]
def wsL_law_r8 : List Cond := [Cond.selects RX2 yX2_hasMaster yX2_hasMaster, Cond.code yX2_hasMaster cX2_hasMaster 2 (some .boolean), Cond.methodLink RX2 46 yX2_hasServant, Cond.instanceMethod yX2_hasServant, Cond.selects RX2 yX2_hasServant yX2_hasServant, Cond.code yX2_hasServant cX2_hasServant 2 (some .boolean), Cond.methodLink RX4 70 yX2_isBarred, Cond.instanceMethod yX2_isBarred, Cond.selects RX2 yX2_isBarred yX2_isBarred, Cond.code yX2_isBarred cX2_isBarred 3 (some .boolean), Cond.methodLink RX4 73 yX2_setBar, Cond.instanceMethod yX2_setBar, Cond.selects RX2 yX2_setBar yX2_setBar, Cond.code yX2_setBar cX2_setBar 4 none, Cond.methodLink RL 27 yX5_bar, Cond.instanceMethod yX5_bar, Cond.selects RX5 yX5_bar yX5_bar, Cond.code yX5_bar cX5_bar 5 (some .int), Cond.methodLink RX5 106 yX5_noServant, Cond.instanceMethod yX5_noServant, Cond.selects RX5 yX5_noServant yX5_noServant, Cond.code yX5_noServant cX5_noServant 2 (some .boolean), Cond.methodLink RX5 110 yX5_noMaster, Cond.instanceMethod yX5_noMaster]
def wsL_law_r9 : List Cond := [Cond.selects RX5 yX5_noMaster yX5_noMaster, Cond.code yX5_noMaster cX5_noMaster 2 (some .boolean), Cond.methodLink RL 28 yX4_hear, Cond.instanceMethod yX4_hear, Cond.selects RX4 yX4_hear yX4_hear, Cond.code yX4_hear cX4_hear 5 (some .int), Cond.methodLink RX4 77 yX2_heldFor, Cond.instanceMethod yX2_heldFor, Cond.selects RX2 yX2_heldFor yX2_heldFor, Cond.code yX2_heldFor cX2_heldFor 4 (some .int), Cond.methodLink RX4 80 yX2_tell, Cond.instanceMethod yX2_tell, Cond.selects RX2 yX2_tell yX2_tell, Cond.code yX2_tell cX2_tell 4 none, Cond.methodLink RL 31 yX5_hear, Cond.instanceMethod yX5_hear, Cond.selects RX5 yX5_hear yX5_hear, Cond.code yX5_hear cX5_hear 5 (some .int), Cond.methodLink RX5 91 yX5_held, Cond.instanceMethod yX5_held, Cond.selects RX5 yX5_held yX5_held, Cond.code yX5_held cX5_held 3 (some .int), Cond.methodLink RL 32 yX4_pass, Cond.instanceMethod yX4_pass]
def wsL_law_r10 : List Cond := [Cond.selects RX4 yX4_pass yX4_pass, Cond.code yX4_pass cX4_pass 5 (some .int), Cond.methodLink RX4 84 yX2_hasMaster, Cond.methodLink RX4 87 yX2_hasHeard, Cond.instanceMethod yX2_hasHeard, Cond.selects RX2 yX2_hasHeard yX2_hasHeard, Cond.code yX2_hasHeard cX2_hasHeard 3 (some .boolean), Cond.methodLink RL 35 yX5_pass, Cond.instanceMethod yX5_pass, Cond.selects RX5 yX5_pass yX5_pass, Cond.code yX5_pass cX5_pass 4 (some .int), Cond.methodLink RL 36 yX4_about, Cond.instanceMethod yX4_about, Cond.selects RX4 yX4_about yX4_about, Cond.code yX4_about cX4_about 3 (some .int), Cond.fieldLink RX4 93 "HiringFairs$People" "kind" "[I", Cond.fieldLink RX4 97 "HiringFairs$People" "skill" "[I", Cond.fieldLink RX4 100 "HiringFairs$People" "least" "[I", Cond.fieldLink RX4 103 "HiringFairs$Fair" "masterOf" "[I", Cond.fieldLink RX4 106 "HiringFairs$Fair" "wage" "[I", Cond.fieldLink RX4 109 "HiringFairs$Fair" "shillingMinute" "[I", Cond.methodLink RX4 90 yX2_hasServant, Cond.methodLink RX4 112 yX3_endOf, Cond.instanceMethod yX3_endOf]
def wsL_law_r11 : List Cond := [Cond.selects RX3 yX3_endOf yX3_endOf, Cond.code yX3_endOf cX3_endOf 2 (some .int), Cond.methodLink RX3 46 yX3_hasBegun, Cond.methodLink RX3 40 yX0_isBound, Cond.instanceMethod yX0_isBound, Cond.selects RX0 yX0_isBound yX0_isBound, Cond.code yX0_isBound cX0_isBound 2 (some .boolean), Cond.methodLink RL 39 yX5_about, Cond.instanceMethod yX5_about, Cond.selects RX5 yX5_about yX5_about, Cond.code yX5_about cX5_about 4 (some .int), Cond.methodLink RL 40 yX4_house, Cond.instanceMethod yX4_house, Cond.selects RX4 yX4_house yX4_house, Cond.code yX4_house cX4_house 3 (some .int), Cond.fieldLink RX4 116 "HiringFairs$People" "wantedKind" "[I", Cond.fieldLink RX4 119 "HiringFairs$People" "most" "[I", Cond.fieldLink RX4 122 "HiringFairs$Fair" "servantOf" "[I", Cond.methodLink RX4 125 yX0_countAsked, Cond.instanceMethod yX0_countAsked, Cond.selects RX0 yX0_countAsked yX0_countAsked, Cond.code yX0_countAsked cX0_countAsked 2 (some .int), Cond.methodLink RX0 105 yJ6_bitCount_0f7a4, Cond.static yJ6_bitCount_0f7a4]
def wsL_law_r12 : List Cond := [Cond.initialized RJ6, Cond.code yJ6_bitCount_0f7a4 cJ6_bitCount_0f7a4 1 (some .int), Cond.constant RJ6 265 (1431655765), Cond.constant RJ6 266 (858993459), Cond.constant RJ6 267 (252645135), Cond.methodLink RL 43 yX5_house, Cond.instanceMethod yX5_house, Cond.selects RX5 yX5_house yX5_house, Cond.code yX5_house cX5_house 5 (some .int), Cond.methodLink RL 44 yX4_holds, Cond.instanceMethod yX4_holds, Cond.selects RX4 yX4_holds yX4_holds, Cond.code yX4_holds cX4_holds 3 (some .int), Cond.methodLink RL 47 yX5_holds, Cond.instanceMethod yX5_holds, Cond.selects RX5 yX5_holds yX5_holds, Cond.code yX5_holds cX5_holds 3 (some .int), Cond.methodLink RL 48 yX4_offer, Cond.instanceMethod yX4_offer, Cond.selects RX4 yX4_offer yX4_offer, Cond.code yX4_offer cX4_offer 3 (some .int), Cond.methodLink RX4 128 yX2_offerTo, Cond.instanceMethod yX2_offerTo, Cond.selects RX2 yX2_offerTo yX2_offerTo]
def wsL_law_r13 : List Cond := [Cond.code yX2_offerTo cX2_offerTo 4 (some .int), Cond.methodLink RX2 49 yX2_isBarred, Cond.methodLink RX2 53 yX2_heldFor, Cond.methodLink RL 51 yX5_offer, Cond.instanceMethod yX5_offer, Cond.selects RX5 yX5_offer yX5_offer, Cond.code yX5_offer cX5_offer 3 (some .int), Cond.methodLink RX5 95 yX5_offerOf, Cond.instanceMethod yX5_offerOf, Cond.selects RX5 yX5_offerOf yX5_offerOf, Cond.code yX5_offerOf cX5_offerOf 4 (some .int), Cond.methodLink RL 52 yX4_next, Cond.instanceMethod yX4_next, Cond.selects RX4 yX4_next yX4_next, Cond.code yX4_next cX4_next 2 (some .int), Cond.methodLink RX4 131 yX0_choiceOf, Cond.instanceMethod yX0_choiceOf, Cond.selects RX0 yX0_choiceOf yX0_choiceOf, Cond.code yX0_choiceOf cX0_choiceOf 7 (some .int), Cond.fieldLink RX0 91 "HiringFairs$People" "servants" "I", Cond.methodLink RX0 76 yX2_offerTo, Cond.methodLink RX0 94 yX0_hasAsked, Cond.instanceMethod yX0_hasAsked, Cond.selects RX0 yX0_hasAsked yX0_hasAsked]
def wsL_law_r14 : List Cond := [Cond.code yX0_hasAsked cX0_hasAsked 3 (some .boolean), Cond.methodLink RX0 97 yX2_likingAt, Cond.instanceMethod yX2_likingAt, Cond.selects RX2 yX2_likingAt yX2_likingAt, Cond.code yX2_likingAt cX2_likingAt 4 (some .int), Cond.methodLink RL 56 yX5_next, Cond.instanceMethod yX5_next, Cond.selects RX5 yX5_next yX5_next, Cond.code yX5_next cX5_next 2 (some .int), Cond.methodLink RX5 113 yX5_nextOf, Cond.instanceMethod yX5_nextOf, Cond.selects RX5 yX5_nextOf yX5_nextOf, Cond.code yX5_nextOf cX5_nextOf 8 (some .int), Cond.methodLink RL 57 yX4_go, Cond.instanceMethod yX4_go, Cond.selects RX4 yX4_go yX4_go, Cond.code yX4_go cX4_go 2 (some .int), Cond.fieldLink RX4 138 "HiringFairs$Fair" "minutes" "I", Cond.methodLink RX4 134 yX0_goOn, Cond.instanceMethod yX0_goOn, Cond.selects RX0 yX0_goOn yX0_goOn, Cond.code yX0_goOn cX0_goOn 6 none, Cond.methodLink RX0 53 Lib.Math.min.name, Cond.static Lib.Math.min.name]
def wsL_law_r15 : List Cond := [Cond.code Lib.Math.min.name Lib.Math.min.code 2 (some .int), Cond.methodLink RX0 59 yX0_playMinute, Cond.instanceMethod yX0_playMinute, Cond.selects RX0 yX0_playMinute yX0_playMinute, Cond.code yX0_playMinute cX0_playMinute 6 (some .boolean), Cond.fieldLink RX0 63 "HiringFairs$People" "masters" "I", Cond.methodLink RX0 68 yX0_askBest, Cond.instanceMethod yX0_askBest, Cond.selects RX0 yX0_askBest yX0_askBest, Cond.code yX0_askBest cX0_askBest 7 (some .boolean), Cond.methodLink RX0 72 yX0_choiceOf, Cond.methodLink RX0 79 yX0_takes, Cond.instanceMethod yX0_takes, Cond.selects RX0 yX0_takes yX0_takes, Cond.code yX0_takes cX0_takes 4 (some .boolean), Cond.methodLink RX0 101 yX0_isBound, Cond.methodLink RX0 83 yX1_write, Cond.instanceMethod yX1_write, Cond.selects RX1 yX1_write yX1_write, Cond.code yX1_write cX1_write 8 none, Cond.fieldLink RX1 23 "HiringFairs$Ledger" "count" "I", Cond.methodLink RX0 87 yX0_bind, Cond.instanceMethod yX0_bind, Cond.selects RX0 yX0_bind yX0_bind]
def wsL_law_r16 : List Cond := [Cond.code yX0_bind cX0_bind 6 none, Cond.methodLink RX4 141 yX3_begin, Cond.instanceMethod yX3_begin, Cond.selects RX3 yX3_begin yX3_begin, Cond.code yX3_begin cX3_begin 1 none, Cond.methodLink RL 60 yX5_go, Cond.instanceMethod yX5_go, Cond.selects RX5 yX5_go yX5_go, Cond.code yX5_go cX5_go 4 (some .int), Cond.constantLong RX5 123 (240), Cond.fieldLink RX5 117 "HiringFairsModel" "minute" "I", Cond.methodLink RX5 125 yX5_ask, Cond.instanceMethod yX5_ask, Cond.selects RX5 yX5_ask yX5_ask, Cond.code yX5_ask cX5_ask 6 none, Cond.fieldLink RX5 120 "HiringFairsModel" "bargains" "I", Cond.methodLink RL 61 yX4_bargains, Cond.instanceMethod yX4_bargains, Cond.selects RX4 yX4_bargains yX4_bargains, Cond.code yX4_bargains cX4_bargains 1 (some .int), Cond.fieldLink RX4 144 "HiringFairs$Fair" "ledger" "LHiringFairs$Ledger;", Cond.fieldLink RX4 148 "HiringFairs$Ledger" "count" "I", Cond.methodLink RL 65 yX5_bargains, Cond.instanceMethod yX5_bargains]
def wsL_law_r17 : List Cond := [Cond.selects RX5 yX5_bargains yX5_bargains, Cond.code yX5_bargains cX5_bargains 1 (some .int), Cond.methodLink RL 66 yX4_bargain, Cond.instanceMethod yX4_bargain, Cond.selects RX4 yX4_bargain yX4_bargain, Cond.code yX4_bargain cX4_bargain 3 (some .int), Cond.methodLink RX4 151 yX1_has, Cond.instanceMethod yX1_has, Cond.selects RX1 yX1_has yX1_has, Cond.code yX1_has cX1_has 2 (some .boolean), Cond.methodLink RX4 154 yX1_read, Cond.instanceMethod yX1_read, Cond.selects RX1 yX1_read yX1_read, Cond.code yX1_read cX1_read 3 (some .int), Cond.methodLink RL 69 yX5_bargain, Cond.instanceMethod yX5_bargain, Cond.selects RX5 yX5_bargain yX5_bargain, Cond.code yX5_bargain cX5_bargain 3 (some .int), Cond.constantLong RX5 129 (5), Cond.methodLink RL 70 yX4_torn, Cond.instanceMethod yX4_torn, Cond.selects RX4 yX4_torn yX4_torn, Cond.code yX4_torn cX4_torn 1 (some .int), Cond.methodLink RX4 157 yX0_countTorn]
def wsL_law_r18 : List Cond := [Cond.instanceMethod yX0_countTorn, Cond.selects RX0 yX0_countTorn yX0_countTorn, Cond.code yX0_countTorn cX0_countTorn 4 (some .int), Cond.methodLink RX0 110 yX0_isTorn, Cond.instanceMethod yX0_isTorn, Cond.selects RX0 yX0_isTorn yX0_isTorn, Cond.code yX0_isTorn cX0_isTorn 5 (some .boolean), Cond.methodLink RX0 113 yX0_wouldRather, Cond.instanceMethod yX0_wouldRather, Cond.selects RX0 yX0_wouldRather yX0_wouldRather, Cond.code yX0_wouldRather cX0_wouldRather 5 (some .boolean), Cond.methodLink RL 73 yX5_torn, Cond.instanceMethod yX5_torn, Cond.selects RX5 yX5_torn yX5_torn, Cond.code yX5_torn cX5_torn 4 (some .int), Cond.methodLink RX5 131 yX5_isTorn, Cond.instanceMethod yX5_isTorn, Cond.selects RX5 yX5_isTorn yX5_isTorn, Cond.code yX5_isTorn cX5_isTorn 9 (some .boolean), Cond.methodLink RL 74 yX4_pair, Cond.instanceMethod yX4_pair, Cond.selects RX4 yX4_pair yX4_pair, Cond.code yX4_pair cX4_pair 2 (some .int), Cond.methodLink RX4 161 yX0_findTorn]
def wsL_law_r19 : List Cond := [Cond.instanceMethod yX0_findTorn, Cond.selects RX0 yX0_findTorn yX0_findTorn, Cond.code yX0_findTorn cX0_findTorn 5 (some .int), Cond.methodLink RL 77 yX5_pair, Cond.instanceMethod yX5_pair, Cond.selects RX5 yX5_pair yX5_pair, Cond.code yX5_pair cX5_pair 5 (some .int), Cond.methodLink RL 78 yX4_foretold, Cond.instanceMethod yX4_foretold, Cond.selects RX4 yX4_foretold yX4_foretold, Cond.code yX4_foretold cX4_foretold 3 (some .int), Cond.methodLink RX4 164 yX0_startAnew, Cond.methodLink RX4 167 yX0_countBound, Cond.instanceMethod yX0_countBound, Cond.selects RX0 yX0_countBound yX0_countBound, Cond.code yX0_countBound cX0_countBound 3 (some .int), Cond.methodLink RX4 170 yX0_sumWages, Cond.instanceMethod yX0_sumWages, Cond.selects RX0 yX0_sumWages yX0_sumWages, Cond.code yX0_sumWages cX0_sumWages 3 (some .int), Cond.methodLink RL 81 yX5_foretold, Cond.instanceMethod yX5_foretold, Cond.selects RX5 yX5_foretold yX5_foretold, Cond.code yX5_foretold cX5_foretold 6 (some .int)]
def wsL_law_r20 : List Cond := [Cond.methodLink RX5 135 yX5_foretell, Cond.instanceMethod yX5_foretell, Cond.selects RX5 yX5_foretell yX5_foretell, Cond.code yX5_foretell cX5_foretell 7 none, Cond.methodLink RL 82 yX4_text, Cond.instanceMethod yX4_text, Cond.selects RX4 yX4_text yX4_text, Cond.code yX4_text cX4_text 3 (some .int), Cond.methodLink RL 85 yX5_text, Cond.instanceMethod yX5_text, Cond.selects RX5 yX5_text yX5_text, Cond.code yX5_text cX5_text 3 (some .int), Cond.fieldLink RX5 139 "HiringFairsModel" "text" "I", Cond.methodLink RL 86 yX4_days, Cond.instanceMethod yX4_days, Cond.selects RX4 yX4_days yX4_days, Cond.code yX4_days cX4_days 2 (some .int), Cond.fieldLink RX4 173 "HiringFairs$Year" "day" "I", Cond.methodLink RL 89 yX5_days, Cond.instanceMethod yX5_days, Cond.selects RX5 yX5_days yX5_days, Cond.code yX5_days cX5_days 2 (some .int), Cond.constantLong RX5 142 (363), Cond.methodLink RL 90 yX4_sick]
def wsL_law_r21 : List Cond := [Cond.instanceMethod yX4_sick, Cond.selects RX4 yX4_sick yX4_sick, Cond.code yX4_sick cX4_sick 3 (some .int), Cond.methodLink RX4 176 yX3_servesNow, Cond.instanceMethod yX3_servesNow, Cond.selects RX3 yX3_servesNow yX3_servesNow, Cond.code yX3_servesNow cX3_servesNow 2 (some .boolean), Cond.methodLink RX3 50 yX3_servesOn, Cond.instanceMethod yX3_servesOn, Cond.selects RX3 yX3_servesOn yX3_servesOn, Cond.code yX3_servesOn cX3_servesOn 3 (some .boolean), Cond.methodLink RX4 179 yX3_fallSick, Cond.instanceMethod yX3_fallSick, Cond.selects RX3 yX3_fallSick yX3_fallSick, Cond.code yX3_fallSick cX3_fallSick 5 none, Cond.methodLink RX3 54 Lib.Math.min.name, Cond.methodLink RX3 60 yX3_wordOf, Cond.static yX3_wordOf, Cond.code yX3_wordOf cX3_wordOf 2 (some .int), Cond.methodLink RX3 63 yX3_dayBit, Cond.static yX3_dayBit, Cond.code yX3_dayBit cX3_dayBit 1 (some .long), Cond.methodLink RX4 183 yX3_countSick, Cond.instanceMethod yX3_countSick]
def wsL_law_r22 : List Cond := [Cond.selects RX3 yX3_countSick yX3_countSick, Cond.code yX3_countSick cX3_countSick 5 (some .int), Cond.methodLink RL 93 yX5_sick, Cond.instanceMethod yX5_sick, Cond.selects RX5 yX5_sick yX5_sick, Cond.code yX5_sick cX5_sick 5 (some .int), Cond.methodLink RX5 144 yX5_serves, Cond.instanceMethod yX5_serves, Cond.selects RX5 yX5_serves yX5_serves, Cond.code yX5_serves cX5_serves 3 (some .boolean), Cond.methodLink RL 94 yX4_warn, Cond.instanceMethod yX4_warn, Cond.selects RX4 yX4_warn yX4_warn, Cond.code yX4_warn cX4_warn 2 (some .int), Cond.fieldLink RX4 186 "HiringFairs$Year" "warned" "[Z", Cond.methodLink RX4 190 yX3_giveWarning, Cond.instanceMethod yX3_giveWarning, Cond.selects RX3 yX3_giveWarning yX3_giveWarning, Cond.code yX3_giveWarning cX3_giveWarning 2 (some .int), Cond.methodLink RL 97 yX5_warn, Cond.instanceMethod yX5_warn, Cond.selects RX5 yX5_warn yX5_warn, Cond.code yX5_warn cX5_warn 2 (some .int), Cond.methodLink RL 98 yX4_run]
def wsL_law_r23 : List Cond := [Cond.instanceMethod yX4_run, Cond.selects RX4 yX4_run yX4_run, Cond.code yX4_run cX4_run 2 (some .int), Cond.fieldLink RX4 193 "HiringFairs$Year" "forfeited" "[Z", Cond.methodLink RX4 196 yX3_leave, Cond.instanceMethod yX3_leave, Cond.selects RX3 yX3_leave yX3_leave, Cond.code yX3_leave cX3_leave 2 (some .int), Cond.methodLink RL 101 yX5_run, Cond.instanceMethod yX5_run, Cond.selects RX5 yX5_run yX5_run, Cond.code yX5_run cX5_run 2 (some .int), Cond.methodLink RL 102 yX4_send, Cond.instanceMethod yX4_send, Cond.selects RX4 yX4_send yX4_send, Cond.code yX4_send cX4_send 2 (some .int), Cond.methodLink RX4 199 yX4_isHeldAboveSkill, Cond.instanceMethod yX4_isHeldAboveSkill, Cond.selects RX4 yX4_isHeldAboveSkill yX4_isHeldAboveSkill, Cond.code yX4_isHeldAboveSkill cX4_isHeldAboveSkill 3 (some .boolean), Cond.methodLink RL 105 yX5_send, Cond.instanceMethod yX5_send, Cond.selects RX5 yX5_send yX5_send, Cond.code yX5_send cX5_send 2 (some .int)]
def wsL_law_r24 : List Cond := [Cond.methodLink RL 106 yX4_due, Cond.instanceMethod yX4_due, Cond.selects RX4 yX4_due yX4_due, Cond.code yX4_due cX4_due 3 (some .int), Cond.methodLink RX4 202 yX4_isDay, Cond.static yX4_isDay, Cond.code yX4_isDay cX4_isDay 1 (some .boolean), Cond.methodLink RX4 205 yX0_isBound, Cond.methodLink RX4 208 yX3_wagesDue, Cond.instanceMethod yX3_wagesDue, Cond.selects RX3 yX3_wagesDue yX3_wagesDue, Cond.code yX3_wagesDue cX3_wagesDue 5 (some .int), Cond.fieldLink RX3 70 "HiringFairs$Fair" "wage" "[I", Cond.methodLink RX3 67 yX3_countSick, Cond.methodLink RL 109 yX5_due, Cond.instanceMethod yX5_due, Cond.selects RX5 yX5_due yX5_due, Cond.code yX5_due cX5_due 3 (some .int), Cond.methodLink RX5 148 yX5_dueOf, Cond.instanceMethod yX5_dueOf, Cond.selects RX5 yX5_dueOf yX5_dueOf, Cond.code yX5_dueOf cX5_dueOf 5 (some .int), Cond.methodLink RL 110 yX4_owes, Cond.instanceMethod yX4_owes]
def wsL_law_r25 : List Cond := [Cond.selects RX4 yX4_owes yX4_owes, Cond.code yX4_owes cX4_owes 4 (some .int), Cond.methodLink RL 113 yX5_owes, Cond.instanceMethod yX5_owes, Cond.selects RX5 yX5_owes yX5_owes, Cond.code yX5_owes cX5_owes 3 (some .int), Cond.methodLink RL 114 yX4_hands, Cond.instanceMethod yX4_hands, Cond.selects RX4 yX4_hands yX4_hands, Cond.code yX4_hands cX4_hands 5 (some .int), Cond.fieldLink RX4 211 "HiringFairs$People" "servants" "I", Cond.methodLink RX4 214 yX3_servesOn, Cond.methodLink RL 117 yX5_hands, Cond.instanceMethod yX5_hands, Cond.selects RX5 yX5_hands yX5_hands, Cond.code yX5_hands cX5_hands 5 (some .int), Cond.methodLink RL 118 yX4_total, Cond.instanceMethod yX4_total, Cond.selects RX4 yX4_total yX4_total, Cond.code yX4_total cX4_total 2 (some .int), Cond.fieldLink RX4 217 "HiringFairs$People" "masters" "I", Cond.methodLink RL 121 yX5_total, Cond.instanceMethod yX5_total, Cond.selects RX5 yX5_total yX5_total]
def wsL_law_r26 : List Cond := [Cond.code yX5_total cX5_total 5 (some .int)]
def wsL_law : List Cond := (wsL_law_r1 ++ (wsL_law_r2 ++ (wsL_law_r3 ++ (wsL_law_r4 ++ (wsL_law_r5 ++ (wsL_law_r6 ++ (wsL_law_r7 ++ (wsL_law_r8 ++ (wsL_law_r9 ++ (wsL_law_r10 ++ (wsL_law_r11 ++ (wsL_law_r12 ++ (wsL_law_r13 ++ (wsL_law_r14 ++ (wsL_law_r15 ++ (wsL_law_r16 ++ (wsL_law_r17 ++ (wsL_law_r18 ++ (wsL_law_r19 ++ (wsL_law_r20 ++ (wsL_law_r21 ++ (wsL_law_r22 ++ (wsL_law_r23 ++ (wsL_law_r24 ++ (wsL_law_r25 ++ wsL_law_r26))))))))))))))))))))))))) ++ wsX40 ++ wsX50 ++ wsX20 ++ wsX00 ++ wsX10 ++ wsX30 ++ ([] : List Cond)
abbrev vwCl : List vw_C := [(RX0, TX0, 8), (RX1, TX1, 3), (RX2, TX2, 9), (RX3, TX3, 6), (RX4, TX4, 5), (RX5, TX5, 28)]
end
section
set_option maxRecDepth 20000 in
theorem ggX0_init_X0_startAnew : GoodIn wsX0_init wsX0_startAnew := goodIn_r _ [16, 17, 5, 18, 7, 8, 9, 10, 11, 19, 20, 21, 22, 23, 24, 25, 26, 27, 28, 29, 30, 31, 32, 33] rfl (by decide +kernel)
set_option maxRecDepth 20000 in
theorem gX0_init_X0_startAnew : GoodIn wsX0_init (wsV RX0 35 RX0 yX0_startAnew wsX0_startAnew) := goodIn_app (goodIn_r _ [12, 13, 14, 15] rfl (by decide +kernel)) ggX0_init_X0_startAnew
theorem dX0_init_0 : decode cX0_init 0 = .ok (.aload_n 0, 1) := by decide +kernel
theorem dX0_init_1 : decode cX0_init 1 = .ok (.invokespecial 3, 3) := by decide +kernel
theorem dX0_init_4 : decode cX0_init 4 = .ok (.aload_n 0, 1) := by decide +kernel
theorem dX0_init_5 : decode cX0_init 5 = .ok (.aload_n 1, 1) := by decide +kernel
theorem dX0_init_6 : decode cX0_init 6 = .ok (.putfield 9, 3) := by decide +kernel
theorem dX0_init_9 : decode cX0_init 9 = .ok (.aload_n 0, 1) := by decide +kernel
theorem dX0_init_10 : decode cX0_init 10 = .ok (.aload_n 2, 1) := by decide +kernel
theorem dX0_init_11 : decode cX0_init 11 = .ok (.putfield 15, 3) := by decide +kernel
theorem dX0_init_14 : decode cX0_init 14 = .ok (.aload_n 0, 1) := by decide +kernel
theorem dX0_init_15 : decode cX0_init 15 = .ok (.bipush 10, 2) := by decide +kernel
theorem dX0_init_17 : decode cX0_init 17 = .ok (.newarray .int, 2) := by decide +kernel
theorem dX0_init_19 : decode cX0_init 19 = .ok (.putfield 19, 3) := by decide +kernel
theorem dX0_init_22 : decode cX0_init 22 = .ok (.aload_n 0, 1) := by decide +kernel
theorem dX0_init_23 : decode cX0_init 23 = .ok (.bipush 10, 2) := by decide +kernel
theorem dX0_init_25 : decode cX0_init 25 = .ok (.newarray .int, 2) := by decide +kernel
theorem dX0_init_27 : decode cX0_init 27 = .ok (.putfield 23, 3) := by decide +kernel
theorem dX0_init_30 : decode cX0_init 30 = .ok (.aload_n 0, 1) := by decide +kernel
theorem dX0_init_31 : decode cX0_init 31 = .ok (.bipush 10, 2) := by decide +kernel
theorem dX0_init_33 : decode cX0_init 33 = .ok (.newarray .int, 2) := by decide +kernel
theorem dX0_init_35 : decode cX0_init 35 = .ok (.putfield 26, 3) := by decide +kernel
theorem dX0_init_38 : decode cX0_init 38 = .ok (.aload_n 0, 1) := by decide +kernel
theorem dX0_init_39 : decode cX0_init 39 = .ok (.bipush 10, 2) := by decide +kernel
theorem dX0_init_41 : decode cX0_init 41 = .ok (.newarray .int, 2) := by decide +kernel
theorem dX0_init_43 : decode cX0_init 43 = .ok (.putfield 29, 3) := by decide +kernel
theorem dX0_init_46 : decode cX0_init 46 = .ok (.aload_n 0, 1) := by decide +kernel
theorem dX0_init_47 : decode cX0_init 47 = .ok (.bipush 10, 2) := by decide +kernel
theorem dX0_init_49 : decode cX0_init 49 = .ok (.newarray .int, 2) := by decide +kernel
theorem dX0_init_51 : decode cX0_init 51 = .ok (.putfield 32, 3) := by decide +kernel
theorem dX0_init_54 : decode cX0_init 54 = .ok (.aload_n 0, 1) := by decide +kernel
theorem dX0_init_55 : decode cX0_init 55 = .ok (.invokevirtual 35, 3) := by decide +kernel
theorem dX0_init_58 : decode cX0_init 58 = .ok (.return_, 1) := by decide +kernel
set_option maxRecDepth 20000 in
theorem ggX0_startAnew_J7_fill_53178 : GoodIn wsX0_startAnew wsJ7_fill_53178 := goodIn_r _ [12] rfl (by decide +kernel)
set_option maxRecDepth 20000 in
theorem gX0_startAnew_J7_fill_53178 : GoodIn wsX0_startAnew (va_wsS RX0 47 yJ7_fill_53178 wsJ7_fill_53178) := goodIn_app (goodIn_r _ [9, 10, 11] rfl (by decide +kernel)) ggX0_startAnew_J7_fill_53178
theorem dX0_startAnew_0 : decode cX0_startAnew 0 = .ok (.aload_n 0, 1) := by decide +kernel
theorem dX0_startAnew_1 : decode cX0_startAnew 1 = .ok (.iconst 0, 1) := by decide +kernel
theorem dX0_startAnew_2 : decode cX0_startAnew 2 = .ok (.putfield 38, 3) := by decide +kernel
theorem dX0_startAnew_5 : decode cX0_startAnew 5 = .ok (.aload_n 0, 1) := by decide +kernel
theorem dX0_startAnew_6 : decode cX0_startAnew 6 = .ok (.getfield 15, 3) := by decide +kernel
theorem dX0_startAnew_9 : decode cX0_startAnew 9 = .ok (.iconst 0, 1) := by decide +kernel
theorem dX0_startAnew_10 : decode cX0_startAnew 10 = .ok (.putfield 42, 3) := by decide +kernel
theorem dX0_startAnew_13 : decode cX0_startAnew 13 = .ok (.aload_n 0, 1) := by decide +kernel
theorem dX0_startAnew_14 : decode cX0_startAnew 14 = .ok (.getfield 19, 3) := by decide +kernel
theorem dX0_startAnew_17 : decode cX0_startAnew 17 = .ok (.bipush (-9), 2) := by decide +kernel
theorem dX0_startAnew_19 : decode cX0_startAnew 19 = .ok (.invokestatic 47, 3) := by decide +kernel
theorem dX0_startAnew_22 : decode cX0_startAnew 22 = .ok (.aload_n 0, 1) := by decide +kernel
theorem dX0_startAnew_23 : decode cX0_startAnew 23 = .ok (.getfield 23, 3) := by decide +kernel
theorem dX0_startAnew_26 : decode cX0_startAnew 26 = .ok (.bipush (-9), 2) := by decide +kernel
theorem dX0_startAnew_28 : decode cX0_startAnew 28 = .ok (.invokestatic 47, 3) := by decide +kernel
theorem dX0_startAnew_31 : decode cX0_startAnew 31 = .ok (.aload_n 0, 1) := by decide +kernel
theorem dX0_startAnew_32 : decode cX0_startAnew 32 = .ok (.getfield 26, 3) := by decide +kernel
theorem dX0_startAnew_35 : decode cX0_startAnew 35 = .ok (.bipush (-9), 2) := by decide +kernel
theorem dX0_startAnew_37 : decode cX0_startAnew 37 = .ok (.invokestatic 47, 3) := by decide +kernel
theorem dX0_startAnew_40 : decode cX0_startAnew 40 = .ok (.aload_n 0, 1) := by decide +kernel
theorem dX0_startAnew_41 : decode cX0_startAnew 41 = .ok (.getfield 29, 3) := by decide +kernel
theorem dX0_startAnew_44 : decode cX0_startAnew 44 = .ok (.bipush (-9), 2) := by decide +kernel
theorem dX0_startAnew_46 : decode cX0_startAnew 46 = .ok (.invokestatic 47, 3) := by decide +kernel
theorem dX0_startAnew_49 : decode cX0_startAnew 49 = .ok (.aload_n 0, 1) := by decide +kernel
theorem dX0_startAnew_50 : decode cX0_startAnew 50 = .ok (.getfield 32, 3) := by decide +kernel
theorem dX0_startAnew_53 : decode cX0_startAnew 53 = .ok (.iconst 0, 1) := by decide +kernel
theorem dX0_startAnew_54 : decode cX0_startAnew 54 = .ok (.invokestatic 47, 3) := by decide +kernel
theorem dX0_startAnew_57 : decode cX0_startAnew 57 = .ok (.return_, 1) := by decide +kernel
set_option maxRecDepth 20000 in
theorem ggX0_goOn_X0_playMinute : GoodIn wsX0_goOn wsX0_playMinute := goodIn_r _ [10, 11, 12, 13, 14, 15, 16, 9, 17, 18, 19, 20, 21, 22, 23, 24, 25, 26, 27, 28, 29, 30, 31, 32, 33, 34, 35, 36, 37, 38, 39, 40, 41, 42, 43, 44, 45, 46, 47, 48, 49, 50, 51, 52, 53, 54, 55, 56, 57, 58, 59, 60, 61, 62, 63, 64, 65, 66, 67, 68, 69, 70, 71, 72, 73, 74, 75, 76, 77, 78, 79, 80, 81, 82, 83, 84, 85, 86, 87, 88, 89, 90, 91, 92, 93, 94] rfl (by decide +kernel)
set_option maxRecDepth 20000 in
theorem gX0_goOn_X0_playMinute : GoodIn wsX0_goOn (wsV RX0 59 RX0 yX0_playMinute wsX0_playMinute) := goodIn_app (goodIn_r _ [6, 7, 8, 9] rfl (by decide +kernel)) ggX0_goOn_X0_playMinute
theorem dX0_goOn_0 : decode cX0_goOn 0 = .ok (.aload_n 0, 1) := by decide +kernel
theorem dX0_goOn_1 : decode cX0_goOn 1 = .ok (.getfield 38, 3) := by decide +kernel
theorem dX0_goOn_4 : decode cX0_goOn 4 = .ok (.iload_n 1, 1) := by decide +kernel
theorem dX0_goOn_5 : decode cX0_goOn 5 = .ok (.iadd, 1) := by decide +kernel
theorem dX0_goOn_6 : decode cX0_goOn 6 = .ok (.sipush 240, 3) := by decide +kernel
theorem dX0_goOn_9 : decode cX0_goOn 9 = .ok (.invokestatic 53, 3) := by decide +kernel
theorem dX0_goOn_12 : decode cX0_goOn 12 = .ok (.istore_n 3, 1) := by decide +kernel
theorem dX0_goOn_13 : decode cX0_goOn 13 = .ok (.iconst 1, 1) := by decide +kernel
theorem dX0_goOn_14 : decode cX0_goOn 14 = .ok (.istore 4, 2) := by decide +kernel
theorem dX0_goOn_16 : decode cX0_goOn 16 = .ok (.aload_n 0, 1) := by decide +kernel
theorem dX0_goOn_17 : decode cX0_goOn 17 = .ok (.getfield 38, 3) := by decide +kernel
theorem dX0_goOn_20 : decode cX0_goOn 20 = .ok (.istore 5, 2) := by decide +kernel
theorem dX0_goOn_22 : decode cX0_goOn 22 = .ok (.iload 5, 2) := by decide +kernel
theorem dX0_goOn_24 : decode cX0_goOn 24 = .ok (.iload_n 3, 1) := by decide +kernel
theorem dX0_goOn_25 : decode cX0_goOn 25 = .ok (.if_icmp .ge 23, 3) := by decide +kernel
theorem dX0_goOn_28 : decode cX0_goOn 28 = .ok (.iload 4, 2) := by decide +kernel
theorem dX0_goOn_30 : decode cX0_goOn 30 = .ok (.ifCond .eq 18, 3) := by decide +kernel
theorem dX0_goOn_33 : decode cX0_goOn 33 = .ok (.aload_n 0, 1) := by decide +kernel
theorem dX0_goOn_34 : decode cX0_goOn 34 = .ok (.iload 5, 2) := by decide +kernel
theorem dX0_goOn_36 : decode cX0_goOn 36 = .ok (.iload_n 2, 1) := by decide +kernel
theorem dX0_goOn_37 : decode cX0_goOn 37 = .ok (.invokevirtual 59, 3) := by decide +kernel
theorem dX0_goOn_40 : decode cX0_goOn 40 = .ok (.istore 4, 2) := by decide +kernel
theorem dX0_goOn_42 : decode cX0_goOn 42 = .ok (.iinc 5 1, 3) := by decide +kernel
theorem dX0_goOn_45 : decode cX0_goOn 45 = .ok (.goto (-23), 3) := by decide +kernel
theorem dX0_goOn_48 : decode cX0_goOn 48 = .ok (.aload_n 0, 1) := by decide +kernel
theorem dX0_goOn_49 : decode cX0_goOn 49 = .ok (.iload_n 3, 1) := by decide +kernel
theorem dX0_goOn_50 : decode cX0_goOn 50 = .ok (.putfield 38, 3) := by decide +kernel
theorem dX0_goOn_53 : decode cX0_goOn 53 = .ok (.return_, 1) := by decide +kernel
set_option maxRecDepth 20000 in
theorem ggX0_playMinute_X0_askBest : GoodIn wsX0_playMinute wsX0_askBest := goodIn_r _ [8, 1, 9, 10, 11, 12, 13, 14, 7, 15, 16, 17, 18, 19, 20, 21, 22, 23, 24, 25, 26, 27, 28, 29, 30, 31, 32, 33, 34, 35, 36, 37, 38, 39, 40, 41, 42, 43, 44, 45, 46, 47, 48, 49, 50, 51, 52, 53, 54, 55, 56, 57, 58, 59, 60, 61, 62, 63, 64, 3, 65, 66, 67, 68, 69, 70, 71, 72, 73, 74, 75, 76, 77, 78, 79, 80, 81, 82, 83, 84, 85] rfl (by decide +kernel)
set_option maxRecDepth 20000 in
theorem gX0_playMinute_X0_askBest : GoodIn wsX0_playMinute (wsV RX0 68 RX0 yX0_askBest wsX0_askBest) := goodIn_app (goodIn_r _ [4, 5, 6, 7] rfl (by decide +kernel)) ggX0_playMinute_X0_askBest
theorem dX0_playMinute_0 : decode cX0_playMinute 0 = .ok (.iconst 0, 1) := by decide +kernel
theorem dX0_playMinute_1 : decode cX0_playMinute 1 = .ok (.istore_n 3, 1) := by decide +kernel
theorem dX0_playMinute_2 : decode cX0_playMinute 2 = .ok (.iconst 0, 1) := by decide +kernel
theorem dX0_playMinute_3 : decode cX0_playMinute 3 = .ok (.istore 4, 2) := by decide +kernel
theorem dX0_playMinute_5 : decode cX0_playMinute 5 = .ok (.iload 4, 2) := by decide +kernel
theorem dX0_playMinute_7 : decode cX0_playMinute 7 = .ok (.aload_n 0, 1) := by decide +kernel
theorem dX0_playMinute_8 : decode cX0_playMinute 8 = .ok (.getfield 9, 3) := by decide +kernel
theorem dX0_playMinute_11 : decode cX0_playMinute 11 = .ok (.getfield 63, 3) := by decide +kernel
theorem dX0_playMinute_14 : decode cX0_playMinute 14 = .ok (.if_icmp .ge 56, 3) := by decide +kernel
theorem dX0_playMinute_17 : decode cX0_playMinute 17 = .ok (.iload_n 2, 1) := by decide +kernel
theorem dX0_playMinute_18 : decode cX0_playMinute 18 = .ok (.ifCond .eq 18, 3) := by decide +kernel
theorem dX0_playMinute_21 : decode cX0_playMinute 21 = .ok (.aload_n 0, 1) := by decide +kernel
theorem dX0_playMinute_22 : decode cX0_playMinute 22 = .ok (.getfield 9, 3) := by decide +kernel
theorem dX0_playMinute_25 : decode cX0_playMinute 25 = .ok (.getfield 63, 3) := by decide +kernel
theorem dX0_playMinute_28 : decode cX0_playMinute 28 = .ok (.iconst 1, 1) := by decide +kernel
theorem dX0_playMinute_29 : decode cX0_playMinute 29 = .ok (.isub, 1) := by decide +kernel
theorem dX0_playMinute_30 : decode cX0_playMinute 30 = .ok (.iload 4, 2) := by decide +kernel
theorem dX0_playMinute_32 : decode cX0_playMinute 32 = .ok (.isub, 1) := by decide +kernel
theorem dX0_playMinute_33 : decode cX0_playMinute 33 = .ok (.goto 5, 3) := by decide +kernel
theorem dX0_playMinute_36 : decode cX0_playMinute 36 = .ok (.iload 4, 2) := by decide +kernel
theorem dX0_playMinute_38 : decode cX0_playMinute 38 = .ok (.istore 5, 2) := by decide +kernel
theorem dX0_playMinute_40 : decode cX0_playMinute 40 = .ok (.aload_n 0, 1) := by decide +kernel
theorem dX0_playMinute_41 : decode cX0_playMinute 41 = .ok (.getfield 29, 3) := by decide +kernel
theorem dX0_playMinute_44 : decode cX0_playMinute 44 = .ok (.iload 5, 2) := by decide +kernel
theorem dX0_playMinute_46 : decode cX0_playMinute 46 = .ok (.iaload, 1) := by decide +kernel
theorem dX0_playMinute_47 : decode cX0_playMinute 47 = .ok (.bipush (-9), 2) := by decide +kernel
theorem dX0_playMinute_49 : decode cX0_playMinute 49 = .ok (.if_icmp .ne 15, 3) := by decide +kernel
theorem dX0_playMinute_52 : decode cX0_playMinute 52 = .ok (.aload_n 0, 1) := by decide +kernel
theorem dX0_playMinute_53 : decode cX0_playMinute 53 = .ok (.iload_n 1, 1) := by decide +kernel
theorem dX0_playMinute_54 : decode cX0_playMinute 54 = .ok (.iload 5, 2) := by decide +kernel
theorem dX0_playMinute_56 : decode cX0_playMinute 56 = .ok (.invokevirtual 68, 3) := by decide +kernel
theorem dX0_playMinute_59 : decode cX0_playMinute 59 = .ok (.ifCond .eq 5, 3) := by decide +kernel
theorem dX0_playMinute_62 : decode cX0_playMinute 62 = .ok (.iconst 1, 1) := by decide +kernel
theorem dX0_playMinute_63 : decode cX0_playMinute 63 = .ok (.istore_n 3, 1) := by decide +kernel
theorem dX0_playMinute_64 : decode cX0_playMinute 64 = .ok (.iinc 4 1, 3) := by decide +kernel
theorem dX0_playMinute_67 : decode cX0_playMinute 67 = .ok (.goto (-62), 3) := by decide +kernel
theorem dX0_playMinute_70 : decode cX0_playMinute 70 = .ok (.iload_n 3, 1) := by decide +kernel
theorem dX0_playMinute_71 : decode cX0_playMinute 71 = .ok (.ireturn, 1) := by decide +kernel
set_option maxRecDepth 20000 in
theorem ggX0_askBest_X0_choiceOf : GoodIn wsX0_askBest wsX0_choiceOf := goodIn_r _ [9, 1, 10, 11, 12, 13, 14, 15, 16, 17, 18, 19, 20, 21, 22, 23, 24, 25, 26, 27, 28, 29, 30, 31, 32, 8, 33, 3, 34, 35, 36, 37, 61, 62, 63, 64, 65, 66, 67, 68, 69, 70, 71, 72, 73, 74, 75, 76, 77] rfl (by decide +kernel)
set_option maxRecDepth 20000 in
theorem gX0_askBest_X0_choiceOf : GoodIn wsX0_askBest (wsV RX0 72 RX0 yX0_choiceOf wsX0_choiceOf) := goodIn_app (goodIn_r _ [5, 6, 7, 8] rfl (by decide +kernel)) ggX0_askBest_X0_choiceOf
set_option maxRecDepth 20000 in
theorem ggX0_askBest_X2_offerTo : GoodIn wsX0_askBest wsX2_offerTo := goodIn_r _ [15, 16, 17, 18, 19, 20, 21, 22, 14, 23, 24, 25, 26, 27, 28, 29, 69, 70, 71, 72, 73, 74, 75, 76, 77] rfl (by decide +kernel)
set_option maxRecDepth 20000 in
theorem gX0_askBest_X2_offerTo : GoodIn wsX0_askBest (wsV RX0 76 RX2 yX2_offerTo wsX2_offerTo) := goodIn_app (goodIn_r _ [11, 12, 13, 14] rfl (by decide +kernel)) ggX0_askBest_X2_offerTo
set_option maxRecDepth 20000 in
theorem ggX0_askBest_X0_takes : GoodIn wsX0_askBest wsX0_takes := goodIn_r _ [41, 42, 43, 44, 45, 8, 46, 2, 61, 62, 63, 64, 65, 66, 67, 68] rfl (by decide +kernel)
set_option maxRecDepth 20000 in
theorem gX0_askBest_X0_takes : GoodIn wsX0_askBest (wsV RX0 79 RX0 yX0_takes wsX0_takes) := goodIn_app (goodIn_r _ [38, 39, 40, 8] rfl (by decide +kernel)) ggX0_askBest_X0_takes
set_option maxRecDepth 20000 in
theorem ggX0_askBest_X1_write : GoodIn wsX0_askBest wsX1_write := goodIn_r _ [51, 52, 53, 54, 78, 79, 80] rfl (by decide +kernel)
set_option maxRecDepth 20000 in
theorem gX0_askBest_X1_write : GoodIn wsX0_askBest (wsV RX0 83 RX1 yX1_write wsX1_write) := goodIn_app (goodIn_r _ [47, 48, 49, 50] rfl (by decide +kernel)) ggX0_askBest_X1_write
set_option maxRecDepth 20000 in
theorem ggX0_askBest_X0_bind : GoodIn wsX0_askBest wsX0_bind := goodIn_r _ [58, 2, 59, 42, 60, 61, 62, 63, 64, 65, 66, 67, 68] rfl (by decide +kernel)
set_option maxRecDepth 20000 in
theorem gX0_askBest_X0_bind : GoodIn wsX0_askBest (wsV RX0 87 RX0 yX0_bind wsX0_bind) := goodIn_app (goodIn_r _ [55, 56, 57, 8] rfl (by decide +kernel)) ggX0_askBest_X0_bind
theorem dX0_askBest_0 : decode cX0_askBest 0 = .ok (.aload_n 0, 1) := by decide +kernel
theorem dX0_askBest_1 : decode cX0_askBest 1 = .ok (.iload_n 2, 1) := by decide +kernel
theorem dX0_askBest_2 : decode cX0_askBest 2 = .ok (.invokevirtual 72, 3) := by decide +kernel
theorem dX0_askBest_5 : decode cX0_askBest 5 = .ok (.istore_n 3, 1) := by decide +kernel
theorem dX0_askBest_6 : decode cX0_askBest 6 = .ok (.iload_n 3, 1) := by decide +kernel
theorem dX0_askBest_7 : decode cX0_askBest 7 = .ok (.bipush (-9), 2) := by decide +kernel
theorem dX0_askBest_9 : decode cX0_askBest 9 = .ok (.if_icmp .ne 5, 3) := by decide +kernel
theorem dX0_askBest_12 : decode cX0_askBest 12 = .ok (.iconst 0, 1) := by decide +kernel
theorem dX0_askBest_13 : decode cX0_askBest 13 = .ok (.ireturn, 1) := by decide +kernel
theorem dX0_askBest_14 : decode cX0_askBest 14 = .ok (.aload_n 0, 1) := by decide +kernel
theorem dX0_askBest_15 : decode cX0_askBest 15 = .ok (.getfield 9, 3) := by decide +kernel
theorem dX0_askBest_18 : decode cX0_askBest 18 = .ok (.iload_n 2, 1) := by decide +kernel
theorem dX0_askBest_19 : decode cX0_askBest 19 = .ok (.iload_n 3, 1) := by decide +kernel
theorem dX0_askBest_20 : decode cX0_askBest 20 = .ok (.invokevirtual 76, 3) := by decide +kernel
theorem dX0_askBest_23 : decode cX0_askBest 23 = .ok (.istore 4, 2) := by decide +kernel
theorem dX0_askBest_25 : decode cX0_askBest 25 = .ok (.aload_n 0, 1) := by decide +kernel
theorem dX0_askBest_26 : decode cX0_askBest 26 = .ok (.getfield 19, 3) := by decide +kernel
theorem dX0_askBest_29 : decode cX0_askBest 29 = .ok (.iload_n 3, 1) := by decide +kernel
theorem dX0_askBest_30 : decode cX0_askBest 30 = .ok (.iaload, 1) := by decide +kernel
theorem dX0_askBest_31 : decode cX0_askBest 31 = .ok (.istore 5, 2) := by decide +kernel
theorem dX0_askBest_33 : decode cX0_askBest 33 = .ok (.aload_n 0, 1) := by decide +kernel
theorem dX0_askBest_34 : decode cX0_askBest 34 = .ok (.getfield 32, 3) := by decide +kernel
theorem dX0_askBest_37 : decode cX0_askBest 37 = .ok (.iload_n 2, 1) := by decide +kernel
theorem dX0_askBest_38 : decode cX0_askBest 38 = .ok (.dup2, 1) := by decide +kernel
theorem dX0_askBest_39 : decode cX0_askBest 39 = .ok (.iaload, 1) := by decide +kernel
theorem dX0_askBest_40 : decode cX0_askBest 40 = .ok (.iconst 1, 1) := by decide +kernel
theorem dX0_askBest_41 : decode cX0_askBest 41 = .ok (.iload_n 3, 1) := by decide +kernel
theorem dX0_askBest_42 : decode cX0_askBest 42 = .ok (.ishl, 1) := by decide +kernel
theorem dX0_askBest_43 : decode cX0_askBest 43 = .ok (.ior, 1) := by decide +kernel
theorem dX0_askBest_44 : decode cX0_askBest 44 = .ok (.iastore, 1) := by decide +kernel
theorem dX0_askBest_45 : decode cX0_askBest 45 = .ok (.aload_n 0, 1) := by decide +kernel
theorem dX0_askBest_46 : decode cX0_askBest 46 = .ok (.iload_n 1, 1) := by decide +kernel
theorem dX0_askBest_47 : decode cX0_askBest 47 = .ok (.iload_n 3, 1) := by decide +kernel
theorem dX0_askBest_48 : decode cX0_askBest 48 = .ok (.iload 4, 2) := by decide +kernel
theorem dX0_askBest_50 : decode cX0_askBest 50 = .ok (.invokevirtual 79, 3) := by decide +kernel
theorem dX0_askBest_53 : decode cX0_askBest 53 = .ok (.ifCond .ne 20, 3) := by decide +kernel
theorem dX0_askBest_56 : decode cX0_askBest 56 = .ok (.aload_n 0, 1) := by decide +kernel
theorem dX0_askBest_57 : decode cX0_askBest 57 = .ok (.getfield 15, 3) := by decide +kernel
theorem dX0_askBest_60 : decode cX0_askBest 60 = .ok (.iload_n 1, 1) := by decide +kernel
theorem dX0_askBest_61 : decode cX0_askBest 61 = .ok (.iload_n 2, 1) := by decide +kernel
theorem dX0_askBest_62 : decode cX0_askBest 62 = .ok (.iload_n 3, 1) := by decide +kernel
theorem dX0_askBest_63 : decode cX0_askBest 63 = .ok (.iload 4, 2) := by decide +kernel
theorem dX0_askBest_65 : decode cX0_askBest 65 = .ok (.iconst 0, 1) := by decide +kernel
theorem dX0_askBest_66 : decode cX0_askBest 66 = .ok (.bipush (-9), 2) := by decide +kernel
theorem dX0_askBest_68 : decode cX0_askBest 68 = .ok (.invokevirtual 83, 3) := by decide +kernel
theorem dX0_askBest_71 : decode cX0_askBest 71 = .ok (.iconst 1, 1) := by decide +kernel
theorem dX0_askBest_72 : decode cX0_askBest 72 = .ok (.ireturn, 1) := by decide +kernel
theorem dX0_askBest_73 : decode cX0_askBest 73 = .ok (.iload 5, 2) := by decide +kernel
theorem dX0_askBest_75 : decode cX0_askBest 75 = .ok (.bipush (-9), 2) := by decide +kernel
theorem dX0_askBest_77 : decode cX0_askBest 77 = .ok (.if_icmp .ne 7, 3) := by decide +kernel
theorem dX0_askBest_80 : decode cX0_askBest 80 = .ok (.iconst 1, 1) := by decide +kernel
theorem dX0_askBest_81 : decode cX0_askBest 81 = .ok (.goto 4, 3) := by decide +kernel
theorem dX0_askBest_84 : decode cX0_askBest 84 = .ok (.iconst 2, 1) := by decide +kernel
theorem dX0_askBest_85 : decode cX0_askBest 85 = .ok (.istore 6, 2) := by decide +kernel
theorem dX0_askBest_87 : decode cX0_askBest 87 = .ok (.aload_n 0, 1) := by decide +kernel
theorem dX0_askBest_88 : decode cX0_askBest 88 = .ok (.getfield 15, 3) := by decide +kernel
theorem dX0_askBest_91 : decode cX0_askBest 91 = .ok (.iload_n 1, 1) := by decide +kernel
theorem dX0_askBest_92 : decode cX0_askBest 92 = .ok (.iload_n 2, 1) := by decide +kernel
theorem dX0_askBest_93 : decode cX0_askBest 93 = .ok (.iload_n 3, 1) := by decide +kernel
theorem dX0_askBest_94 : decode cX0_askBest 94 = .ok (.iload 4, 2) := by decide +kernel
theorem dX0_askBest_96 : decode cX0_askBest 96 = .ok (.iload 6, 2) := by decide +kernel
theorem dX0_askBest_98 : decode cX0_askBest 98 = .ok (.iload 5, 2) := by decide +kernel
theorem dX0_askBest_100 : decode cX0_askBest 100 = .ok (.invokevirtual 83, 3) := by decide +kernel
theorem dX0_askBest_103 : decode cX0_askBest 103 = .ok (.aload_n 0, 1) := by decide +kernel
theorem dX0_askBest_104 : decode cX0_askBest 104 = .ok (.iload_n 1, 1) := by decide +kernel
theorem dX0_askBest_105 : decode cX0_askBest 105 = .ok (.iload_n 2, 1) := by decide +kernel
theorem dX0_askBest_106 : decode cX0_askBest 106 = .ok (.iload_n 3, 1) := by decide +kernel
theorem dX0_askBest_107 : decode cX0_askBest 107 = .ok (.iload 4, 2) := by decide +kernel
theorem dX0_askBest_109 : decode cX0_askBest 109 = .ok (.invokevirtual 87, 3) := by decide +kernel
theorem dX0_askBest_112 : decode cX0_askBest 112 = .ok (.iconst 1, 1) := by decide +kernel
theorem dX0_askBest_113 : decode cX0_askBest 113 = .ok (.ireturn, 1) := by decide +kernel
set_option maxRecDepth 20000 in
theorem ggX0_choiceOf_X2_offerTo : GoodIn wsX0_choiceOf wsX2_offerTo := goodIn_r _ [7, 8, 9, 10, 11, 12, 13, 14, 6, 15, 16, 17, 18, 19, 20, 21, 40, 41, 42, 43, 44, 45, 46, 47, 48] rfl (by decide +kernel)
set_option maxRecDepth 20000 in
theorem gX0_choiceOf_X2_offerTo : GoodIn wsX0_choiceOf (wsV RX0 76 RX2 yX2_offerTo wsX2_offerTo) := goodIn_app (goodIn_r _ [3, 4, 5, 6] rfl (by decide +kernel)) ggX0_choiceOf_X2_offerTo
set_option maxRecDepth 20000 in
theorem ggX0_choiceOf_X0_hasAsked : GoodIn wsX0_choiceOf wsX0_hasAsked := goodIn_r _ [26, 27, 32, 33, 34, 35, 36, 37, 38, 39] rfl (by decide +kernel)
set_option maxRecDepth 20000 in
theorem gX0_choiceOf_X0_hasAsked : GoodIn wsX0_choiceOf (wsV RX0 94 RX0 yX0_hasAsked wsX0_hasAsked) := goodIn_app (goodIn_r _ [22, 23, 24, 25] rfl (by decide +kernel)) ggX0_choiceOf_X0_hasAsked
set_option maxRecDepth 20000 in
theorem ggX0_choiceOf_X2_likingAt : GoodIn wsX0_choiceOf wsX2_likingAt := goodIn_r _ [31, 17, 18, 19, 6, 20, 21, 40, 41, 42, 43, 44, 45, 46, 47, 48] rfl (by decide +kernel)
set_option maxRecDepth 20000 in
theorem gX0_choiceOf_X2_likingAt : GoodIn wsX0_choiceOf (wsV RX0 97 RX2 yX2_likingAt wsX2_likingAt) := goodIn_app (goodIn_r _ [28, 29, 30, 6] rfl (by decide +kernel)) ggX0_choiceOf_X2_likingAt
theorem dX0_choiceOf_0 : decode cX0_choiceOf 0 = .ok (.bipush (-9), 2) := by decide +kernel
theorem dX0_choiceOf_2 : decode cX0_choiceOf 2 = .ok (.istore_n 2, 1) := by decide +kernel
theorem dX0_choiceOf_3 : decode cX0_choiceOf 3 = .ok (.iconst 0, 1) := by decide +kernel
theorem dX0_choiceOf_4 : decode cX0_choiceOf 4 = .ok (.istore_n 3, 1) := by decide +kernel
theorem dX0_choiceOf_5 : decode cX0_choiceOf 5 = .ok (.iconst 0, 1) := by decide +kernel
theorem dX0_choiceOf_6 : decode cX0_choiceOf 6 = .ok (.istore 4, 2) := by decide +kernel
theorem dX0_choiceOf_8 : decode cX0_choiceOf 8 = .ok (.iload 4, 2) := by decide +kernel
theorem dX0_choiceOf_10 : decode cX0_choiceOf 10 = .ok (.aload_n 0, 1) := by decide +kernel
theorem dX0_choiceOf_11 : decode cX0_choiceOf 11 = .ok (.getfield 9, 3) := by decide +kernel
theorem dX0_choiceOf_14 : decode cX0_choiceOf 14 = .ok (.getfield 91, 3) := by decide +kernel
theorem dX0_choiceOf_17 : decode cX0_choiceOf 17 = .ok (.if_icmp .ge 73, 3) := by decide +kernel
theorem dX0_choiceOf_20 : decode cX0_choiceOf 20 = .ok (.aload_n 0, 1) := by decide +kernel
theorem dX0_choiceOf_21 : decode cX0_choiceOf 21 = .ok (.getfield 9, 3) := by decide +kernel
theorem dX0_choiceOf_24 : decode cX0_choiceOf 24 = .ok (.iload_n 1, 1) := by decide +kernel
theorem dX0_choiceOf_25 : decode cX0_choiceOf 25 = .ok (.iload 4, 2) := by decide +kernel
theorem dX0_choiceOf_27 : decode cX0_choiceOf 27 = .ok (.invokevirtual 76, 3) := by decide +kernel
theorem dX0_choiceOf_30 : decode cX0_choiceOf 30 = .ok (.istore 5, 2) := by decide +kernel
theorem dX0_choiceOf_32 : decode cX0_choiceOf 32 = .ok (.iload 5, 2) := by decide +kernel
theorem dX0_choiceOf_34 : decode cX0_choiceOf 34 = .ok (.bipush (-9), 2) := by decide +kernel
theorem dX0_choiceOf_36 : decode cX0_choiceOf 36 = .ok (.if_icmp .eq 48, 3) := by decide +kernel
theorem dX0_choiceOf_39 : decode cX0_choiceOf 39 = .ok (.aload_n 0, 1) := by decide +kernel
theorem dX0_choiceOf_40 : decode cX0_choiceOf 40 = .ok (.iload_n 1, 1) := by decide +kernel
theorem dX0_choiceOf_41 : decode cX0_choiceOf 41 = .ok (.iload 4, 2) := by decide +kernel
theorem dX0_choiceOf_43 : decode cX0_choiceOf 43 = .ok (.invokevirtual 94, 3) := by decide +kernel
theorem dX0_choiceOf_46 : decode cX0_choiceOf 46 = .ok (.ifCond .eq 6, 3) := by decide +kernel
theorem dX0_choiceOf_49 : decode cX0_choiceOf 49 = .ok (.goto 35, 3) := by decide +kernel
theorem dX0_choiceOf_52 : decode cX0_choiceOf 52 = .ok (.aload_n 0, 1) := by decide +kernel
theorem dX0_choiceOf_53 : decode cX0_choiceOf 53 = .ok (.getfield 9, 3) := by decide +kernel
theorem dX0_choiceOf_56 : decode cX0_choiceOf 56 = .ok (.iload_n 1, 1) := by decide +kernel
theorem dX0_choiceOf_57 : decode cX0_choiceOf 57 = .ok (.iload 4, 2) := by decide +kernel
theorem dX0_choiceOf_59 : decode cX0_choiceOf 59 = .ok (.iload 5, 2) := by decide +kernel
theorem dX0_choiceOf_61 : decode cX0_choiceOf 61 = .ok (.invokevirtual 97, 3) := by decide +kernel
theorem dX0_choiceOf_64 : decode cX0_choiceOf 64 = .ok (.istore 6, 2) := by decide +kernel
theorem dX0_choiceOf_66 : decode cX0_choiceOf 66 = .ok (.iload_n 2, 1) := by decide +kernel
theorem dX0_choiceOf_67 : decode cX0_choiceOf 67 = .ok (.bipush (-9), 2) := by decide +kernel
theorem dX0_choiceOf_69 : decode cX0_choiceOf 69 = .ok (.if_icmp .eq 9, 3) := by decide +kernel
theorem dX0_choiceOf_72 : decode cX0_choiceOf 72 = .ok (.iload 6, 2) := by decide +kernel
theorem dX0_choiceOf_74 : decode cX0_choiceOf 74 = .ok (.iload_n 3, 1) := by decide +kernel
theorem dX0_choiceOf_75 : decode cX0_choiceOf 75 = .ok (.if_icmp .le 9, 3) := by decide +kernel
theorem dX0_choiceOf_78 : decode cX0_choiceOf 78 = .ok (.iload 4, 2) := by decide +kernel
theorem dX0_choiceOf_80 : decode cX0_choiceOf 80 = .ok (.istore_n 2, 1) := by decide +kernel
theorem dX0_choiceOf_81 : decode cX0_choiceOf 81 = .ok (.iload 6, 2) := by decide +kernel
theorem dX0_choiceOf_83 : decode cX0_choiceOf 83 = .ok (.istore_n 3, 1) := by decide +kernel
theorem dX0_choiceOf_84 : decode cX0_choiceOf 84 = .ok (.iinc 4 1, 3) := by decide +kernel
theorem dX0_choiceOf_87 : decode cX0_choiceOf 87 = .ok (.goto (-79), 3) := by decide +kernel
theorem dX0_choiceOf_90 : decode cX0_choiceOf 90 = .ok (.iload_n 2, 1) := by decide +kernel
theorem dX0_choiceOf_91 : decode cX0_choiceOf 91 = .ok (.ireturn, 1) := by decide +kernel
set_option maxRecDepth 20000 in
theorem ggX0_takes_X0_isBound : GoodIn wsX0_takes wsX0_isBound := goodIn_r _ [6, 7, 8, 9, 10, 11, 12, 13, 14, 15] rfl (by decide +kernel)
set_option maxRecDepth 20000 in
theorem gX0_takes_X0_isBound : GoodIn wsX0_takes (wsV RX0 101 RX0 yX0_isBound wsX0_isBound) := goodIn_app (goodIn_r _ [2, 3, 4, 5] rfl (by decide +kernel)) ggX0_takes_X0_isBound
theorem dX0_takes_0 : decode cX0_takes 0 = .ok (.aload_n 0, 1) := by decide +kernel
theorem dX0_takes_1 : decode cX0_takes 1 = .ok (.iload_n 2, 1) := by decide +kernel
theorem dX0_takes_2 : decode cX0_takes 2 = .ok (.invokevirtual 101, 3) := by decide +kernel
theorem dX0_takes_5 : decode cX0_takes 5 = .ok (.ifCond .eq 19, 3) := by decide +kernel
theorem dX0_takes_8 : decode cX0_takes 8 = .ok (.iload_n 1, 1) := by decide +kernel
theorem dX0_takes_9 : decode cX0_takes 9 = .ok (.bipush 120, 2) := by decide +kernel
theorem dX0_takes_11 : decode cX0_takes 11 = .ok (.if_icmp .ge 17, 3) := by decide +kernel
theorem dX0_takes_14 : decode cX0_takes 14 = .ok (.iload_n 3, 1) := by decide +kernel
theorem dX0_takes_15 : decode cX0_takes 15 = .ok (.aload_n 0, 1) := by decide +kernel
theorem dX0_takes_16 : decode cX0_takes 16 = .ok (.getfield 23, 3) := by decide +kernel
theorem dX0_takes_19 : decode cX0_takes 19 = .ok (.iload_n 2, 1) := by decide +kernel
theorem dX0_takes_20 : decode cX0_takes 20 = .ok (.iaload, 1) := by decide +kernel
theorem dX0_takes_21 : decode cX0_takes 21 = .ok (.if_icmp .le 7, 3) := by decide +kernel
theorem dX0_takes_24 : decode cX0_takes 24 = .ok (.iconst 1, 1) := by decide +kernel
theorem dX0_takes_25 : decode cX0_takes 25 = .ok (.goto 4, 3) := by decide +kernel
theorem dX0_takes_28 : decode cX0_takes 28 = .ok (.iconst 0, 1) := by decide +kernel
theorem dX0_takes_29 : decode cX0_takes 29 = .ok (.ireturn, 1) := by decide +kernel
theorem dX0_bind_0 : decode cX0_bind 0 = .ok (.aload_n 0, 1) := by decide +kernel
theorem dX0_bind_1 : decode cX0_bind 1 = .ok (.getfield 19, 3) := by decide +kernel
theorem dX0_bind_4 : decode cX0_bind 4 = .ok (.iload_n 3, 1) := by decide +kernel
theorem dX0_bind_5 : decode cX0_bind 5 = .ok (.iaload, 1) := by decide +kernel
theorem dX0_bind_6 : decode cX0_bind 6 = .ok (.istore 5, 2) := by decide +kernel
theorem dX0_bind_8 : decode cX0_bind 8 = .ok (.iload 5, 2) := by decide +kernel
theorem dX0_bind_10 : decode cX0_bind 10 = .ok (.bipush (-9), 2) := by decide +kernel
theorem dX0_bind_12 : decode cX0_bind 12 = .ok (.if_icmp .eq 12, 3) := by decide +kernel
theorem dX0_bind_15 : decode cX0_bind 15 = .ok (.aload_n 0, 1) := by decide +kernel
theorem dX0_bind_16 : decode cX0_bind 16 = .ok (.getfield 29, 3) := by decide +kernel
theorem dX0_bind_19 : decode cX0_bind 19 = .ok (.iload 5, 2) := by decide +kernel
theorem dX0_bind_21 : decode cX0_bind 21 = .ok (.bipush (-9), 2) := by decide +kernel
theorem dX0_bind_23 : decode cX0_bind 23 = .ok (.iastore, 1) := by decide +kernel
theorem dX0_bind_24 : decode cX0_bind 24 = .ok (.aload_n 0, 1) := by decide +kernel
theorem dX0_bind_25 : decode cX0_bind 25 = .ok (.getfield 19, 3) := by decide +kernel
theorem dX0_bind_28 : decode cX0_bind 28 = .ok (.iload_n 3, 1) := by decide +kernel
theorem dX0_bind_29 : decode cX0_bind 29 = .ok (.iload_n 2, 1) := by decide +kernel
theorem dX0_bind_30 : decode cX0_bind 30 = .ok (.iastore, 1) := by decide +kernel
theorem dX0_bind_31 : decode cX0_bind 31 = .ok (.aload_n 0, 1) := by decide +kernel
theorem dX0_bind_32 : decode cX0_bind 32 = .ok (.getfield 29, 3) := by decide +kernel
theorem dX0_bind_35 : decode cX0_bind 35 = .ok (.iload_n 2, 1) := by decide +kernel
theorem dX0_bind_36 : decode cX0_bind 36 = .ok (.iload_n 3, 1) := by decide +kernel
theorem dX0_bind_37 : decode cX0_bind 37 = .ok (.iastore, 1) := by decide +kernel
theorem dX0_bind_38 : decode cX0_bind 38 = .ok (.aload_n 0, 1) := by decide +kernel
theorem dX0_bind_39 : decode cX0_bind 39 = .ok (.getfield 23, 3) := by decide +kernel
theorem dX0_bind_42 : decode cX0_bind 42 = .ok (.iload_n 3, 1) := by decide +kernel
theorem dX0_bind_43 : decode cX0_bind 43 = .ok (.iload 4, 2) := by decide +kernel
theorem dX0_bind_45 : decode cX0_bind 45 = .ok (.iastore, 1) := by decide +kernel
theorem dX0_bind_46 : decode cX0_bind 46 = .ok (.aload_n 0, 1) := by decide +kernel
theorem dX0_bind_47 : decode cX0_bind 47 = .ok (.getfield 26, 3) := by decide +kernel
theorem dX0_bind_50 : decode cX0_bind 50 = .ok (.iload_n 3, 1) := by decide +kernel
theorem dX0_bind_51 : decode cX0_bind 51 = .ok (.iload_n 1, 1) := by decide +kernel
theorem dX0_bind_52 : decode cX0_bind 52 = .ok (.iastore, 1) := by decide +kernel
theorem dX0_bind_53 : decode cX0_bind 53 = .ok (.return_, 1) := by decide +kernel
theorem dX0_isBound_0 : decode cX0_isBound 0 = .ok (.aload_n 0, 1) := by decide +kernel
theorem dX0_isBound_1 : decode cX0_isBound 1 = .ok (.getfield 19, 3) := by decide +kernel
theorem dX0_isBound_4 : decode cX0_isBound 4 = .ok (.iload_n 1, 1) := by decide +kernel
theorem dX0_isBound_5 : decode cX0_isBound 5 = .ok (.iaload, 1) := by decide +kernel
theorem dX0_isBound_6 : decode cX0_isBound 6 = .ok (.bipush (-9), 2) := by decide +kernel
theorem dX0_isBound_8 : decode cX0_isBound 8 = .ok (.if_icmp .eq 7, 3) := by decide +kernel
theorem dX0_isBound_11 : decode cX0_isBound 11 = .ok (.iconst 1, 1) := by decide +kernel
theorem dX0_isBound_12 : decode cX0_isBound 12 = .ok (.goto 4, 3) := by decide +kernel
theorem dX0_isBound_15 : decode cX0_isBound 15 = .ok (.iconst 0, 1) := by decide +kernel
theorem dX0_isBound_16 : decode cX0_isBound 16 = .ok (.ireturn, 1) := by decide +kernel
set_option maxRecDepth 20000 in
theorem ggX0_countAsked_J6_bitCount_0f7a4 : GoodIn wsX0_countAsked wsJ6_bitCount_0f7a4 := goodIn_r _ [5, 6, 7, 8] rfl (by decide +kernel)
set_option maxRecDepth 20000 in
theorem gX0_countAsked_J6_bitCount_0f7a4 : GoodIn wsX0_countAsked (va_wsS RX0 105 yJ6_bitCount_0f7a4 wsJ6_bitCount_0f7a4) := goodIn_app (goodIn_r _ [2, 3, 4] rfl (by decide +kernel)) ggX0_countAsked_J6_bitCount_0f7a4
theorem dX0_countAsked_0 : decode cX0_countAsked 0 = .ok (.aload_n 0, 1) := by decide +kernel
theorem dX0_countAsked_1 : decode cX0_countAsked 1 = .ok (.getfield 32, 3) := by decide +kernel
theorem dX0_countAsked_4 : decode cX0_countAsked 4 = .ok (.iload_n 1, 1) := by decide +kernel
theorem dX0_countAsked_5 : decode cX0_countAsked 5 = .ok (.iaload, 1) := by decide +kernel
theorem dX0_countAsked_6 : decode cX0_countAsked 6 = .ok (.invokestatic 105, 3) := by decide +kernel
theorem dX0_countAsked_9 : decode cX0_countAsked 9 = .ok (.ireturn, 1) := by decide +kernel
theorem dX0_hasAsked_0 : decode cX0_hasAsked 0 = .ok (.aload_n 0, 1) := by decide +kernel
theorem dX0_hasAsked_1 : decode cX0_hasAsked 1 = .ok (.getfield 32, 3) := by decide +kernel
theorem dX0_hasAsked_4 : decode cX0_hasAsked 4 = .ok (.iload_n 1, 1) := by decide +kernel
theorem dX0_hasAsked_5 : decode cX0_hasAsked 5 = .ok (.iaload, 1) := by decide +kernel
theorem dX0_hasAsked_6 : decode cX0_hasAsked 6 = .ok (.iconst 1, 1) := by decide +kernel
theorem dX0_hasAsked_7 : decode cX0_hasAsked 7 = .ok (.iload_n 2, 1) := by decide +kernel
theorem dX0_hasAsked_8 : decode cX0_hasAsked 8 = .ok (.ishl, 1) := by decide +kernel
theorem dX0_hasAsked_9 : decode cX0_hasAsked 9 = .ok (.iand, 1) := by decide +kernel
theorem dX0_hasAsked_10 : decode cX0_hasAsked 10 = .ok (.ifCond .eq 7, 3) := by decide +kernel
theorem dX0_hasAsked_13 : decode cX0_hasAsked 13 = .ok (.iconst 1, 1) := by decide +kernel
theorem dX0_hasAsked_14 : decode cX0_hasAsked 14 = .ok (.goto 4, 3) := by decide +kernel
theorem dX0_hasAsked_17 : decode cX0_hasAsked 17 = .ok (.iconst 0, 1) := by decide +kernel
theorem dX0_hasAsked_18 : decode cX0_hasAsked 18 = .ok (.ireturn, 1) := by decide +kernel
set_option maxRecDepth 20000 in
theorem ggX0_countBound_X0_isBound : GoodIn wsX0_countBound wsX0_isBound := goodIn_r _ [7, 8, 9, 10, 11, 12, 13, 14, 15, 16] rfl (by decide +kernel)
set_option maxRecDepth 20000 in
theorem gX0_countBound_X0_isBound : GoodIn wsX0_countBound (wsV RX0 101 RX0 yX0_isBound wsX0_isBound) := goodIn_app (goodIn_r _ [3, 4, 5, 6] rfl (by decide +kernel)) ggX0_countBound_X0_isBound
theorem dX0_countBound_0 : decode cX0_countBound 0 = .ok (.iconst 0, 1) := by decide +kernel
theorem dX0_countBound_1 : decode cX0_countBound 1 = .ok (.istore_n 1, 1) := by decide +kernel
theorem dX0_countBound_2 : decode cX0_countBound 2 = .ok (.iconst 0, 1) := by decide +kernel
theorem dX0_countBound_3 : decode cX0_countBound 3 = .ok (.istore_n 2, 1) := by decide +kernel
theorem dX0_countBound_4 : decode cX0_countBound 4 = .ok (.iload_n 2, 1) := by decide +kernel
theorem dX0_countBound_5 : decode cX0_countBound 5 = .ok (.aload_n 0, 1) := by decide +kernel
theorem dX0_countBound_6 : decode cX0_countBound 6 = .ok (.getfield 9, 3) := by decide +kernel
theorem dX0_countBound_9 : decode cX0_countBound 9 = .ok (.getfield 91, 3) := by decide +kernel
theorem dX0_countBound_12 : decode cX0_countBound 12 = .ok (.if_icmp .ge 20, 3) := by decide +kernel
theorem dX0_countBound_15 : decode cX0_countBound 15 = .ok (.aload_n 0, 1) := by decide +kernel
theorem dX0_countBound_16 : decode cX0_countBound 16 = .ok (.iload_n 2, 1) := by decide +kernel
theorem dX0_countBound_17 : decode cX0_countBound 17 = .ok (.invokevirtual 101, 3) := by decide +kernel
theorem dX0_countBound_20 : decode cX0_countBound 20 = .ok (.ifCond .eq 6, 3) := by decide +kernel
theorem dX0_countBound_23 : decode cX0_countBound 23 = .ok (.iinc 1 1, 3) := by decide +kernel
theorem dX0_countBound_26 : decode cX0_countBound 26 = .ok (.iinc 2 1, 3) := by decide +kernel
theorem dX0_countBound_29 : decode cX0_countBound 29 = .ok (.goto (-25), 3) := by decide +kernel
theorem dX0_countBound_32 : decode cX0_countBound 32 = .ok (.iload_n 1, 1) := by decide +kernel
theorem dX0_countBound_33 : decode cX0_countBound 33 = .ok (.ireturn, 1) := by decide +kernel
set_option maxRecDepth 20000 in
theorem ggX0_sumWages_X0_isBound : GoodIn wsX0_sumWages wsX0_isBound := goodIn_r _ [8, 9, 10, 11, 12, 13, 14, 15, 16, 17] rfl (by decide +kernel)
set_option maxRecDepth 20000 in
theorem gX0_sumWages_X0_isBound : GoodIn wsX0_sumWages (wsV RX0 101 RX0 yX0_isBound wsX0_isBound) := goodIn_app (goodIn_r _ [4, 5, 6, 7] rfl (by decide +kernel)) ggX0_sumWages_X0_isBound
theorem dX0_sumWages_0 : decode cX0_sumWages 0 = .ok (.iconst 0, 1) := by decide +kernel
theorem dX0_sumWages_1 : decode cX0_sumWages 1 = .ok (.istore_n 1, 1) := by decide +kernel
theorem dX0_sumWages_2 : decode cX0_sumWages 2 = .ok (.iconst 0, 1) := by decide +kernel
theorem dX0_sumWages_3 : decode cX0_sumWages 3 = .ok (.istore_n 2, 1) := by decide +kernel
theorem dX0_sumWages_4 : decode cX0_sumWages 4 = .ok (.iload_n 2, 1) := by decide +kernel
theorem dX0_sumWages_5 : decode cX0_sumWages 5 = .ok (.aload_n 0, 1) := by decide +kernel
theorem dX0_sumWages_6 : decode cX0_sumWages 6 = .ok (.getfield 9, 3) := by decide +kernel
theorem dX0_sumWages_9 : decode cX0_sumWages 9 = .ok (.getfield 91, 3) := by decide +kernel
theorem dX0_sumWages_12 : decode cX0_sumWages 12 = .ok (.if_icmp .ge 26, 3) := by decide +kernel
theorem dX0_sumWages_15 : decode cX0_sumWages 15 = .ok (.aload_n 0, 1) := by decide +kernel
theorem dX0_sumWages_16 : decode cX0_sumWages 16 = .ok (.iload_n 2, 1) := by decide +kernel
theorem dX0_sumWages_17 : decode cX0_sumWages 17 = .ok (.invokevirtual 101, 3) := by decide +kernel
theorem dX0_sumWages_20 : decode cX0_sumWages 20 = .ok (.ifCond .eq 12, 3) := by decide +kernel
theorem dX0_sumWages_23 : decode cX0_sumWages 23 = .ok (.iload_n 1, 1) := by decide +kernel
theorem dX0_sumWages_24 : decode cX0_sumWages 24 = .ok (.aload_n 0, 1) := by decide +kernel
theorem dX0_sumWages_25 : decode cX0_sumWages 25 = .ok (.getfield 23, 3) := by decide +kernel
theorem dX0_sumWages_28 : decode cX0_sumWages 28 = .ok (.iload_n 2, 1) := by decide +kernel
theorem dX0_sumWages_29 : decode cX0_sumWages 29 = .ok (.iaload, 1) := by decide +kernel
theorem dX0_sumWages_30 : decode cX0_sumWages 30 = .ok (.iadd, 1) := by decide +kernel
theorem dX0_sumWages_31 : decode cX0_sumWages 31 = .ok (.istore_n 1, 1) := by decide +kernel
theorem dX0_sumWages_32 : decode cX0_sumWages 32 = .ok (.iinc 2 1, 3) := by decide +kernel
theorem dX0_sumWages_35 : decode cX0_sumWages 35 = .ok (.goto (-31), 3) := by decide +kernel
theorem dX0_sumWages_38 : decode cX0_sumWages 38 = .ok (.iload_n 1, 1) := by decide +kernel
theorem dX0_sumWages_39 : decode cX0_sumWages 39 = .ok (.ireturn, 1) := by decide +kernel
set_option maxRecDepth 20000 in
theorem ggX0_countTorn_X0_isTorn : GoodIn wsX0_countTorn wsX0_isTorn := goodIn_r _ [8, 1, 9, 10, 11, 12, 13, 14, 15, 16, 17, 18, 19, 20, 21, 22, 23, 24, 25, 26, 27, 28, 29, 30, 31, 32, 7, 33, 34, 35, 36, 37, 38, 39, 40, 41, 42, 43, 44, 45, 46, 47, 48, 49, 50, 51, 52, 53, 54, 55, 56, 57, 58, 59] rfl (by decide +kernel)
set_option maxRecDepth 20000 in
theorem gX0_countTorn_X0_isTorn : GoodIn wsX0_countTorn (wsV RX0 110 RX0 yX0_isTorn wsX0_isTorn) := goodIn_app (goodIn_r _ [4, 5, 6, 7] rfl (by decide +kernel)) ggX0_countTorn_X0_isTorn
theorem dX0_countTorn_0 : decode cX0_countTorn 0 = .ok (.iconst 0, 1) := by decide +kernel
theorem dX0_countTorn_1 : decode cX0_countTorn 1 = .ok (.istore_n 1, 1) := by decide +kernel
theorem dX0_countTorn_2 : decode cX0_countTorn 2 = .ok (.iconst 0, 1) := by decide +kernel
theorem dX0_countTorn_3 : decode cX0_countTorn 3 = .ok (.istore_n 2, 1) := by decide +kernel
theorem dX0_countTorn_4 : decode cX0_countTorn 4 = .ok (.iload_n 2, 1) := by decide +kernel
theorem dX0_countTorn_5 : decode cX0_countTorn 5 = .ok (.aload_n 0, 1) := by decide +kernel
theorem dX0_countTorn_6 : decode cX0_countTorn 6 = .ok (.getfield 9, 3) := by decide +kernel
theorem dX0_countTorn_9 : decode cX0_countTorn 9 = .ok (.getfield 91, 3) := by decide +kernel
theorem dX0_countTorn_12 : decode cX0_countTorn 12 = .ok (.if_icmp .ge 40, 3) := by decide +kernel
theorem dX0_countTorn_15 : decode cX0_countTorn 15 = .ok (.iconst 0, 1) := by decide +kernel
theorem dX0_countTorn_16 : decode cX0_countTorn 16 = .ok (.istore_n 3, 1) := by decide +kernel
theorem dX0_countTorn_17 : decode cX0_countTorn 17 = .ok (.iload_n 3, 1) := by decide +kernel
theorem dX0_countTorn_18 : decode cX0_countTorn 18 = .ok (.aload_n 0, 1) := by decide +kernel
theorem dX0_countTorn_19 : decode cX0_countTorn 19 = .ok (.getfield 9, 3) := by decide +kernel
theorem dX0_countTorn_22 : decode cX0_countTorn 22 = .ok (.getfield 63, 3) := by decide +kernel
theorem dX0_countTorn_25 : decode cX0_countTorn 25 = .ok (.if_icmp .ge 21, 3) := by decide +kernel
theorem dX0_countTorn_28 : decode cX0_countTorn 28 = .ok (.aload_n 0, 1) := by decide +kernel
theorem dX0_countTorn_29 : decode cX0_countTorn 29 = .ok (.iload_n 2, 1) := by decide +kernel
theorem dX0_countTorn_30 : decode cX0_countTorn 30 = .ok (.iload_n 3, 1) := by decide +kernel
theorem dX0_countTorn_31 : decode cX0_countTorn 31 = .ok (.invokevirtual 110, 3) := by decide +kernel
theorem dX0_countTorn_34 : decode cX0_countTorn 34 = .ok (.ifCond .eq 6, 3) := by decide +kernel
theorem dX0_countTorn_37 : decode cX0_countTorn 37 = .ok (.iinc 1 1, 3) := by decide +kernel
theorem dX0_countTorn_40 : decode cX0_countTorn 40 = .ok (.iinc 3 1, 3) := by decide +kernel
theorem dX0_countTorn_43 : decode cX0_countTorn 43 = .ok (.goto (-26), 3) := by decide +kernel
theorem dX0_countTorn_46 : decode cX0_countTorn 46 = .ok (.iinc 2 1, 3) := by decide +kernel
theorem dX0_countTorn_49 : decode cX0_countTorn 49 = .ok (.goto (-45), 3) := by decide +kernel
theorem dX0_countTorn_52 : decode cX0_countTorn 52 = .ok (.iload_n 1, 1) := by decide +kernel
theorem dX0_countTorn_53 : decode cX0_countTorn 53 = .ok (.ireturn, 1) := by decide +kernel
set_option maxRecDepth 20000 in
theorem ggX0_findTorn_X0_isTorn : GoodIn wsX0_findTorn wsX0_isTorn := goodIn_r _ [8, 1, 9, 10, 11, 12, 13, 14, 15, 16, 17, 18, 19, 20, 21, 22, 23, 24, 25, 26, 27, 28, 29, 30, 31, 32, 7, 33, 34, 35, 36, 37, 38, 39, 40, 41, 42, 43, 44, 45, 46, 47, 48, 49, 50, 51, 52, 53, 54, 55, 56, 57, 58, 59] rfl (by decide +kernel)
set_option maxRecDepth 20000 in
theorem gX0_findTorn_X0_isTorn : GoodIn wsX0_findTorn (wsV RX0 110 RX0 yX0_isTorn wsX0_isTorn) := goodIn_app (goodIn_r _ [4, 5, 6, 7] rfl (by decide +kernel)) ggX0_findTorn_X0_isTorn
theorem dX0_findTorn_0 : decode cX0_findTorn 0 = .ok (.iconst 0, 1) := by decide +kernel
theorem dX0_findTorn_1 : decode cX0_findTorn 1 = .ok (.istore_n 2, 1) := by decide +kernel
theorem dX0_findTorn_2 : decode cX0_findTorn 2 = .ok (.iconst 0, 1) := by decide +kernel
theorem dX0_findTorn_3 : decode cX0_findTorn 3 = .ok (.istore_n 3, 1) := by decide +kernel
theorem dX0_findTorn_4 : decode cX0_findTorn 4 = .ok (.iload_n 3, 1) := by decide +kernel
theorem dX0_findTorn_5 : decode cX0_findTorn 5 = .ok (.aload_n 0, 1) := by decide +kernel
theorem dX0_findTorn_6 : decode cX0_findTorn 6 = .ok (.getfield 9, 3) := by decide +kernel
theorem dX0_findTorn_9 : decode cX0_findTorn 9 = .ok (.getfield 91, 3) := by decide +kernel
theorem dX0_findTorn_12 : decode cX0_findTorn 12 = .ok (.if_icmp .ge 59, 3) := by decide +kernel
theorem dX0_findTorn_15 : decode cX0_findTorn 15 = .ok (.iconst 0, 1) := by decide +kernel
theorem dX0_findTorn_16 : decode cX0_findTorn 16 = .ok (.istore 4, 2) := by decide +kernel
theorem dX0_findTorn_18 : decode cX0_findTorn 18 = .ok (.iload 4, 2) := by decide +kernel
theorem dX0_findTorn_20 : decode cX0_findTorn 20 = .ok (.aload_n 0, 1) := by decide +kernel
theorem dX0_findTorn_21 : decode cX0_findTorn 21 = .ok (.getfield 9, 3) := by decide +kernel
theorem dX0_findTorn_24 : decode cX0_findTorn 24 = .ok (.getfield 63, 3) := by decide +kernel
theorem dX0_findTorn_27 : decode cX0_findTorn 27 = .ok (.if_icmp .ge 38, 3) := by decide +kernel
theorem dX0_findTorn_30 : decode cX0_findTorn 30 = .ok (.aload_n 0, 1) := by decide +kernel
theorem dX0_findTorn_31 : decode cX0_findTorn 31 = .ok (.iload_n 3, 1) := by decide +kernel
theorem dX0_findTorn_32 : decode cX0_findTorn 32 = .ok (.iload 4, 2) := by decide +kernel
theorem dX0_findTorn_34 : decode cX0_findTorn 34 = .ok (.invokevirtual 110, 3) := by decide +kernel
theorem dX0_findTorn_37 : decode cX0_findTorn 37 = .ok (.ifCond .ne 6, 3) := by decide +kernel
theorem dX0_findTorn_40 : decode cX0_findTorn 40 = .ok (.goto 19, 3) := by decide +kernel
theorem dX0_findTorn_43 : decode cX0_findTorn 43 = .ok (.iload_n 2, 1) := by decide +kernel
theorem dX0_findTorn_44 : decode cX0_findTorn 44 = .ok (.iload_n 1, 1) := by decide +kernel
theorem dX0_findTorn_45 : decode cX0_findTorn 45 = .ok (.if_icmp .ne 11, 3) := by decide +kernel
theorem dX0_findTorn_48 : decode cX0_findTorn 48 = .ok (.bipush 10, 2) := by decide +kernel
theorem dX0_findTorn_50 : decode cX0_findTorn 50 = .ok (.iload_n 3, 1) := by decide +kernel
theorem dX0_findTorn_51 : decode cX0_findTorn 51 = .ok (.imul, 1) := by decide +kernel
theorem dX0_findTorn_52 : decode cX0_findTorn 52 = .ok (.iload 4, 2) := by decide +kernel
theorem dX0_findTorn_54 : decode cX0_findTorn 54 = .ok (.iadd, 1) := by decide +kernel
theorem dX0_findTorn_55 : decode cX0_findTorn 55 = .ok (.ireturn, 1) := by decide +kernel
theorem dX0_findTorn_56 : decode cX0_findTorn 56 = .ok (.iinc 2 1, 3) := by decide +kernel
theorem dX0_findTorn_59 : decode cX0_findTorn 59 = .ok (.iinc 4 1, 3) := by decide +kernel
theorem dX0_findTorn_62 : decode cX0_findTorn 62 = .ok (.goto (-44), 3) := by decide +kernel
theorem dX0_findTorn_65 : decode cX0_findTorn 65 = .ok (.iinc 3 1, 3) := by decide +kernel
theorem dX0_findTorn_68 : decode cX0_findTorn 68 = .ok (.goto (-64), 3) := by decide +kernel
theorem dX0_findTorn_71 : decode cX0_findTorn 71 = .ok (.bipush (-9), 2) := by decide +kernel
theorem dX0_findTorn_73 : decode cX0_findTorn 73 = .ok (.ireturn, 1) := by decide +kernel
set_option maxRecDepth 20000 in
theorem ggX0_isTorn_X2_offerTo : GoodIn wsX0_isTorn wsX2_offerTo := goodIn_r _ [8, 9, 10, 11, 12, 13, 14, 15, 7, 16, 17, 18, 19, 20, 21, 22, 45, 46, 47, 48, 49, 50, 51, 52, 53] rfl (by decide +kernel)
set_option maxRecDepth 20000 in
theorem gX0_isTorn_X2_offerTo : GoodIn wsX0_isTorn (wsV RX0 76 RX2 yX2_offerTo wsX2_offerTo) := goodIn_app (goodIn_r _ [4, 5, 6, 7] rfl (by decide +kernel)) ggX0_isTorn_X2_offerTo
set_option maxRecDepth 20000 in
theorem ggX0_isTorn_X0_isBound : GoodIn wsX0_isTorn wsX0_isBound := goodIn_r _ [27, 2, 37, 38, 39, 40, 41, 42, 43, 44] rfl (by decide +kernel)
set_option maxRecDepth 20000 in
theorem gX0_isTorn_X0_isBound : GoodIn wsX0_isTorn (wsV RX0 101 RX0 yX0_isBound wsX0_isBound) := goodIn_app (goodIn_r _ [23, 24, 25, 26] rfl (by decide +kernel)) ggX0_isTorn_X0_isBound
set_option maxRecDepth 20000 in
theorem ggX0_isTorn_X0_wouldRather : GoodIn wsX0_isTorn wsX0_wouldRather := goodIn_r _ [31, 32, 1, 3, 33, 34, 35, 7, 36, 18, 19, 20, 21, 22, 37, 38, 39, 40, 41, 42, 43, 44, 45, 46, 47, 48, 49, 50, 51, 52, 53] rfl (by decide +kernel)
set_option maxRecDepth 20000 in
theorem gX0_isTorn_X0_wouldRather : GoodIn wsX0_isTorn (wsV RX0 113 RX0 yX0_wouldRather wsX0_wouldRather) := goodIn_app (goodIn_r _ [28, 29, 30, 26] rfl (by decide +kernel)) ggX0_isTorn_X0_wouldRather
theorem dX0_isTorn_0 : decode cX0_isTorn 0 = .ok (.aload_n 0, 1) := by decide +kernel
theorem dX0_isTorn_1 : decode cX0_isTorn 1 = .ok (.getfield 9, 3) := by decide +kernel
theorem dX0_isTorn_4 : decode cX0_isTorn 4 = .ok (.iload_n 2, 1) := by decide +kernel
theorem dX0_isTorn_5 : decode cX0_isTorn 5 = .ok (.iload_n 1, 1) := by decide +kernel
theorem dX0_isTorn_6 : decode cX0_isTorn 6 = .ok (.invokevirtual 76, 3) := by decide +kernel
theorem dX0_isTorn_9 : decode cX0_isTorn 9 = .ok (.istore_n 3, 1) := by decide +kernel
theorem dX0_isTorn_10 : decode cX0_isTorn 10 = .ok (.iload_n 3, 1) := by decide +kernel
theorem dX0_isTorn_11 : decode cX0_isTorn 11 = .ok (.bipush (-9), 2) := by decide +kernel
theorem dX0_isTorn_13 : decode cX0_isTorn 13 = .ok (.if_icmp .eq 13, 3) := by decide +kernel
theorem dX0_isTorn_16 : decode cX0_isTorn 16 = .ok (.aload_n 0, 1) := by decide +kernel
theorem dX0_isTorn_17 : decode cX0_isTorn 17 = .ok (.getfield 19, 3) := by decide +kernel
theorem dX0_isTorn_20 : decode cX0_isTorn 20 = .ok (.iload_n 1, 1) := by decide +kernel
theorem dX0_isTorn_21 : decode cX0_isTorn 21 = .ok (.iaload, 1) := by decide +kernel
theorem dX0_isTorn_22 : decode cX0_isTorn 22 = .ok (.iload_n 2, 1) := by decide +kernel
theorem dX0_isTorn_23 : decode cX0_isTorn 23 = .ok (.if_icmp .ne 5, 3) := by decide +kernel
theorem dX0_isTorn_26 : decode cX0_isTorn 26 = .ok (.iconst 0, 1) := by decide +kernel
theorem dX0_isTorn_27 : decode cX0_isTorn 27 = .ok (.ireturn, 1) := by decide +kernel
theorem dX0_isTorn_28 : decode cX0_isTorn 28 = .ok (.aload_n 0, 1) := by decide +kernel
theorem dX0_isTorn_29 : decode cX0_isTorn 29 = .ok (.iload_n 1, 1) := by decide +kernel
theorem dX0_isTorn_30 : decode cX0_isTorn 30 = .ok (.invokevirtual 101, 3) := by decide +kernel
theorem dX0_isTorn_33 : decode cX0_isTorn 33 = .ok (.ifCond .eq 13, 3) := by decide +kernel
theorem dX0_isTorn_36 : decode cX0_isTorn 36 = .ok (.aload_n 0, 1) := by decide +kernel
theorem dX0_isTorn_37 : decode cX0_isTorn 37 = .ok (.getfield 23, 3) := by decide +kernel
theorem dX0_isTorn_40 : decode cX0_isTorn 40 = .ok (.iload_n 1, 1) := by decide +kernel
theorem dX0_isTorn_41 : decode cX0_isTorn 41 = .ok (.iaload, 1) := by decide +kernel
theorem dX0_isTorn_42 : decode cX0_isTorn 42 = .ok (.iload_n 3, 1) := by decide +kernel
theorem dX0_isTorn_43 : decode cX0_isTorn 43 = .ok (.if_icmp .ge 7, 3) := by decide +kernel
theorem dX0_isTorn_46 : decode cX0_isTorn 46 = .ok (.iconst 1, 1) := by decide +kernel
theorem dX0_isTorn_47 : decode cX0_isTorn 47 = .ok (.goto 4, 3) := by decide +kernel
theorem dX0_isTorn_50 : decode cX0_isTorn 50 = .ok (.iconst 0, 1) := by decide +kernel
theorem dX0_isTorn_51 : decode cX0_isTorn 51 = .ok (.istore 4, 2) := by decide +kernel
theorem dX0_isTorn_53 : decode cX0_isTorn 53 = .ok (.iload 4, 2) := by decide +kernel
theorem dX0_isTorn_55 : decode cX0_isTorn 55 = .ok (.ifCond .eq 17, 3) := by decide +kernel
theorem dX0_isTorn_58 : decode cX0_isTorn 58 = .ok (.aload_n 0, 1) := by decide +kernel
theorem dX0_isTorn_59 : decode cX0_isTorn 59 = .ok (.iload_n 2, 1) := by decide +kernel
theorem dX0_isTorn_60 : decode cX0_isTorn 60 = .ok (.iload_n 1, 1) := by decide +kernel
theorem dX0_isTorn_61 : decode cX0_isTorn 61 = .ok (.iload_n 3, 1) := by decide +kernel
theorem dX0_isTorn_62 : decode cX0_isTorn 62 = .ok (.invokevirtual 113, 3) := by decide +kernel
theorem dX0_isTorn_65 : decode cX0_isTorn 65 = .ok (.ifCond .eq 7, 3) := by decide +kernel
theorem dX0_isTorn_68 : decode cX0_isTorn 68 = .ok (.iconst 1, 1) := by decide +kernel
theorem dX0_isTorn_69 : decode cX0_isTorn 69 = .ok (.goto 4, 3) := by decide +kernel
theorem dX0_isTorn_72 : decode cX0_isTorn 72 = .ok (.iconst 0, 1) := by decide +kernel
theorem dX0_isTorn_73 : decode cX0_isTorn 73 = .ok (.ireturn, 1) := by decide +kernel
set_option maxRecDepth 20000 in
theorem ggX0_wouldRather_X2_likingAt : GoodIn wsX0_wouldRather wsX2_likingAt := goodIn_r _ [8, 9, 10, 11, 7, 12, 13, 22, 23, 24, 25, 26, 27, 28, 29, 30] rfl (by decide +kernel)
set_option maxRecDepth 20000 in
theorem gX0_wouldRather_X2_likingAt : GoodIn wsX0_wouldRather (wsV RX0 97 RX2 yX2_likingAt wsX2_likingAt) := goodIn_app (goodIn_r _ [4, 5, 6, 7] rfl (by decide +kernel)) ggX0_wouldRather_X2_likingAt
theorem dX0_wouldRather_0 : decode cX0_wouldRather 0 = .ok (.aload_n 0, 1) := by decide +kernel
theorem dX0_wouldRather_1 : decode cX0_wouldRather 1 = .ok (.getfield 29, 3) := by decide +kernel
theorem dX0_wouldRather_4 : decode cX0_wouldRather 4 = .ok (.iload_n 1, 1) := by decide +kernel
theorem dX0_wouldRather_5 : decode cX0_wouldRather 5 = .ok (.iaload, 1) := by decide +kernel
theorem dX0_wouldRather_6 : decode cX0_wouldRather 6 = .ok (.istore 4, 2) := by decide +kernel
theorem dX0_wouldRather_8 : decode cX0_wouldRather 8 = .ok (.iload 4, 2) := by decide +kernel
theorem dX0_wouldRather_10 : decode cX0_wouldRather 10 = .ok (.bipush (-9), 2) := by decide +kernel
theorem dX0_wouldRather_12 : decode cX0_wouldRather 12 = .ok (.if_icmp .eq 33, 3) := by decide +kernel
theorem dX0_wouldRather_15 : decode cX0_wouldRather 15 = .ok (.aload_n 0, 1) := by decide +kernel
theorem dX0_wouldRather_16 : decode cX0_wouldRather 16 = .ok (.getfield 9, 3) := by decide +kernel
theorem dX0_wouldRather_19 : decode cX0_wouldRather 19 = .ok (.iload_n 1, 1) := by decide +kernel
theorem dX0_wouldRather_20 : decode cX0_wouldRather 20 = .ok (.iload 4, 2) := by decide +kernel
theorem dX0_wouldRather_22 : decode cX0_wouldRather 22 = .ok (.aload_n 0, 1) := by decide +kernel
theorem dX0_wouldRather_23 : decode cX0_wouldRather 23 = .ok (.getfield 23, 3) := by decide +kernel
theorem dX0_wouldRather_26 : decode cX0_wouldRather 26 = .ok (.iload 4, 2) := by decide +kernel
theorem dX0_wouldRather_28 : decode cX0_wouldRather 28 = .ok (.iaload, 1) := by decide +kernel
theorem dX0_wouldRather_29 : decode cX0_wouldRather 29 = .ok (.invokevirtual 97, 3) := by decide +kernel
theorem dX0_wouldRather_32 : decode cX0_wouldRather 32 = .ok (.aload_n 0, 1) := by decide +kernel
theorem dX0_wouldRather_33 : decode cX0_wouldRather 33 = .ok (.getfield 9, 3) := by decide +kernel
theorem dX0_wouldRather_36 : decode cX0_wouldRather 36 = .ok (.iload_n 1, 1) := by decide +kernel
theorem dX0_wouldRather_37 : decode cX0_wouldRather 37 = .ok (.iload_n 2, 1) := by decide +kernel
theorem dX0_wouldRather_38 : decode cX0_wouldRather 38 = .ok (.iload_n 3, 1) := by decide +kernel
theorem dX0_wouldRather_39 : decode cX0_wouldRather 39 = .ok (.invokevirtual 97, 3) := by decide +kernel
theorem dX0_wouldRather_42 : decode cX0_wouldRather 42 = .ok (.if_icmp .ge 7, 3) := by decide +kernel
theorem dX0_wouldRather_45 : decode cX0_wouldRather 45 = .ok (.iconst 1, 1) := by decide +kernel
theorem dX0_wouldRather_46 : decode cX0_wouldRather 46 = .ok (.goto 4, 3) := by decide +kernel
theorem dX0_wouldRather_49 : decode cX0_wouldRather 49 = .ok (.iconst 0, 1) := by decide +kernel
theorem dX0_wouldRather_50 : decode cX0_wouldRather 50 = .ok (.ireturn, 1) := by decide +kernel
theorem dX1_init_0 : decode cX1_init 0 = .ok (.aload_n 0, 1) := by decide +kernel
theorem dX1_init_1 : decode cX1_init 1 = .ok (.invokespecial 1, 3) := by decide +kernel
theorem dX1_init_4 : decode cX1_init 4 = .ok (.aload_n 0, 1) := by decide +kernel
theorem dX1_init_5 : decode cX1_init 5 = .ok (.iload_n 1, 1) := by decide +kernel
theorem dX1_init_6 : decode cX1_init 6 = .ok (.iconst 0, 1) := by decide +kernel
theorem dX1_init_7 : decode cX1_init 7 = .ok (.invokestatic 7, 3) := by decide +kernel
theorem dX1_init_10 : decode cX1_init 10 = .ok (.putfield 13, 3) := by decide +kernel
theorem dX1_init_13 : decode cX1_init 13 = .ok (.aload_n 0, 1) := by decide +kernel
theorem dX1_init_14 : decode cX1_init 14 = .ok (.aload_n 0, 1) := by decide +kernel
theorem dX1_init_15 : decode cX1_init 15 = .ok (.getfield 13, 3) := by decide +kernel
theorem dX1_init_18 : decode cX1_init 18 = .ok (.bipush 6, 2) := by decide +kernel
theorem dX1_init_20 : decode cX1_init 20 = .ok (.imul, 1) := by decide +kernel
theorem dX1_init_21 : decode cX1_init 21 = .ok (.newarray .int, 2) := by decide +kernel
theorem dX1_init_23 : decode cX1_init 23 = .ok (.putfield 19, 3) := by decide +kernel
theorem dX1_init_26 : decode cX1_init 26 = .ok (.return_, 1) := by decide +kernel
theorem dX1_write_0 : decode cX1_write 0 = .ok (.aload_n 0, 1) := by decide +kernel
theorem dX1_write_1 : decode cX1_write 1 = .ok (.getfield 23, 3) := by decide +kernel
theorem dX1_write_4 : decode cX1_write 4 = .ok (.aload_n 0, 1) := by decide +kernel
theorem dX1_write_5 : decode cX1_write 5 = .ok (.getfield 13, 3) := by decide +kernel
theorem dX1_write_8 : decode cX1_write 8 = .ok (.if_icmp .lt 4, 3) := by decide +kernel
theorem dX1_write_11 : decode cX1_write 11 = .ok (.return_, 1) := by decide +kernel
theorem dX1_write_12 : decode cX1_write 12 = .ok (.aload_n 0, 1) := by decide +kernel
theorem dX1_write_13 : decode cX1_write 13 = .ok (.getfield 23, 3) := by decide +kernel
theorem dX1_write_16 : decode cX1_write 16 = .ok (.bipush 6, 2) := by decide +kernel
theorem dX1_write_18 : decode cX1_write 18 = .ok (.imul, 1) := by decide +kernel
theorem dX1_write_19 : decode cX1_write 19 = .ok (.istore 7, 2) := by decide +kernel
theorem dX1_write_21 : decode cX1_write 21 = .ok (.aload_n 0, 1) := by decide +kernel
theorem dX1_write_22 : decode cX1_write 22 = .ok (.getfield 19, 3) := by decide +kernel
theorem dX1_write_25 : decode cX1_write 25 = .ok (.iload 7, 2) := by decide +kernel
theorem dX1_write_27 : decode cX1_write 27 = .ok (.iload_n 1, 1) := by decide +kernel
theorem dX1_write_28 : decode cX1_write 28 = .ok (.iastore, 1) := by decide +kernel
theorem dX1_write_29 : decode cX1_write 29 = .ok (.aload_n 0, 1) := by decide +kernel
theorem dX1_write_30 : decode cX1_write 30 = .ok (.getfield 19, 3) := by decide +kernel
theorem dX1_write_33 : decode cX1_write 33 = .ok (.iload 7, 2) := by decide +kernel
theorem dX1_write_35 : decode cX1_write 35 = .ok (.iconst 1, 1) := by decide +kernel
theorem dX1_write_36 : decode cX1_write 36 = .ok (.iadd, 1) := by decide +kernel
theorem dX1_write_37 : decode cX1_write 37 = .ok (.iload_n 2, 1) := by decide +kernel
theorem dX1_write_38 : decode cX1_write 38 = .ok (.iastore, 1) := by decide +kernel
theorem dX1_write_39 : decode cX1_write 39 = .ok (.aload_n 0, 1) := by decide +kernel
theorem dX1_write_40 : decode cX1_write 40 = .ok (.getfield 19, 3) := by decide +kernel
theorem dX1_write_43 : decode cX1_write 43 = .ok (.iload 7, 2) := by decide +kernel
theorem dX1_write_45 : decode cX1_write 45 = .ok (.iconst 2, 1) := by decide +kernel
theorem dX1_write_46 : decode cX1_write 46 = .ok (.iadd, 1) := by decide +kernel
theorem dX1_write_47 : decode cX1_write 47 = .ok (.iload_n 3, 1) := by decide +kernel
theorem dX1_write_48 : decode cX1_write 48 = .ok (.iastore, 1) := by decide +kernel
theorem dX1_write_49 : decode cX1_write 49 = .ok (.aload_n 0, 1) := by decide +kernel
theorem dX1_write_50 : decode cX1_write 50 = .ok (.getfield 19, 3) := by decide +kernel
theorem dX1_write_53 : decode cX1_write 53 = .ok (.iload 7, 2) := by decide +kernel
theorem dX1_write_55 : decode cX1_write 55 = .ok (.iconst 3, 1) := by decide +kernel
theorem dX1_write_56 : decode cX1_write 56 = .ok (.iadd, 1) := by decide +kernel
theorem dX1_write_57 : decode cX1_write 57 = .ok (.iload 4, 2) := by decide +kernel
theorem dX1_write_59 : decode cX1_write 59 = .ok (.iastore, 1) := by decide +kernel
theorem dX1_write_60 : decode cX1_write 60 = .ok (.aload_n 0, 1) := by decide +kernel
theorem dX1_write_61 : decode cX1_write 61 = .ok (.getfield 19, 3) := by decide +kernel
theorem dX1_write_64 : decode cX1_write 64 = .ok (.iload 7, 2) := by decide +kernel
theorem dX1_write_66 : decode cX1_write 66 = .ok (.iconst 4, 1) := by decide +kernel
theorem dX1_write_67 : decode cX1_write 67 = .ok (.iadd, 1) := by decide +kernel
theorem dX1_write_68 : decode cX1_write 68 = .ok (.iload 5, 2) := by decide +kernel
theorem dX1_write_70 : decode cX1_write 70 = .ok (.iastore, 1) := by decide +kernel
theorem dX1_write_71 : decode cX1_write 71 = .ok (.aload_n 0, 1) := by decide +kernel
theorem dX1_write_72 : decode cX1_write 72 = .ok (.getfield 19, 3) := by decide +kernel
theorem dX1_write_75 : decode cX1_write 75 = .ok (.iload 7, 2) := by decide +kernel
theorem dX1_write_77 : decode cX1_write 77 = .ok (.iconst 5, 1) := by decide +kernel
theorem dX1_write_78 : decode cX1_write 78 = .ok (.iadd, 1) := by decide +kernel
theorem dX1_write_79 : decode cX1_write 79 = .ok (.iload 6, 2) := by decide +kernel
theorem dX1_write_81 : decode cX1_write 81 = .ok (.iastore, 1) := by decide +kernel
theorem dX1_write_82 : decode cX1_write 82 = .ok (.aload_n 0, 1) := by decide +kernel
theorem dX1_write_83 : decode cX1_write 83 = .ok (.dup, 1) := by decide +kernel
theorem dX1_write_84 : decode cX1_write 84 = .ok (.getfield 23, 3) := by decide +kernel
theorem dX1_write_87 : decode cX1_write 87 = .ok (.iconst 1, 1) := by decide +kernel
theorem dX1_write_88 : decode cX1_write 88 = .ok (.iadd, 1) := by decide +kernel
theorem dX1_write_89 : decode cX1_write 89 = .ok (.putfield 23, 3) := by decide +kernel
theorem dX1_write_92 : decode cX1_write 92 = .ok (.return_, 1) := by decide +kernel
theorem dX1_has_0 : decode cX1_has 0 = .ok (.iload_n 1, 1) := by decide +kernel
theorem dX1_has_1 : decode cX1_has 1 = .ok (.ifCond .lt 15, 3) := by decide +kernel
theorem dX1_has_4 : decode cX1_has 4 = .ok (.iload_n 1, 1) := by decide +kernel
theorem dX1_has_5 : decode cX1_has 5 = .ok (.aload_n 0, 1) := by decide +kernel
theorem dX1_has_6 : decode cX1_has 6 = .ok (.getfield 23, 3) := by decide +kernel
theorem dX1_has_9 : decode cX1_has 9 = .ok (.if_icmp .ge 7, 3) := by decide +kernel
theorem dX1_has_12 : decode cX1_has 12 = .ok (.iconst 1, 1) := by decide +kernel
theorem dX1_has_13 : decode cX1_has 13 = .ok (.goto 4, 3) := by decide +kernel
theorem dX1_has_16 : decode cX1_has 16 = .ok (.iconst 0, 1) := by decide +kernel
theorem dX1_has_17 : decode cX1_has 17 = .ok (.ireturn, 1) := by decide +kernel
theorem dX1_read_0 : decode cX1_read 0 = .ok (.aload_n 0, 1) := by decide +kernel
theorem dX1_read_1 : decode cX1_read 1 = .ok (.getfield 19, 3) := by decide +kernel
theorem dX1_read_4 : decode cX1_read 4 = .ok (.iload_n 1, 1) := by decide +kernel
theorem dX1_read_5 : decode cX1_read 5 = .ok (.bipush 6, 2) := by decide +kernel
theorem dX1_read_7 : decode cX1_read 7 = .ok (.imul, 1) := by decide +kernel
theorem dX1_read_8 : decode cX1_read 8 = .ok (.iload_n 2, 1) := by decide +kernel
theorem dX1_read_9 : decode cX1_read 9 = .ok (.iadd, 1) := by decide +kernel
theorem dX1_read_10 : decode cX1_read 10 = .ok (.iaload, 1) := by decide +kernel
theorem dX1_read_11 : decode cX1_read 11 = .ok (.ireturn, 1) := by decide +kernel
end
section
theorem dX2_init_0 : decode cX2_init 0 = .ok (.aload_n 0, 1) := by decide +kernel
theorem dX2_init_1 : decode cX2_init 1 = .ok (.invokespecial 3, 3) := by decide +kernel
theorem dX2_init_4 : decode cX2_init 4 = .ok (.aload_n 0, 1) := by decide +kernel
theorem dX2_init_5 : decode cX2_init 5 = .ok (.bipush 10, 2) := by decide +kernel
theorem dX2_init_7 : decode cX2_init 7 = .ok (.newarray .int, 2) := by decide +kernel
theorem dX2_init_9 : decode cX2_init 9 = .ok (.putfield 9, 3) := by decide +kernel
theorem dX2_init_12 : decode cX2_init 12 = .ok (.aload_n 0, 1) := by decide +kernel
theorem dX2_init_13 : decode cX2_init 13 = .ok (.bipush 10, 2) := by decide +kernel
theorem dX2_init_15 : decode cX2_init 15 = .ok (.newarray .int, 2) := by decide +kernel
theorem dX2_init_17 : decode cX2_init 17 = .ok (.putfield 15, 3) := by decide +kernel
theorem dX2_init_20 : decode cX2_init 20 = .ok (.aload_n 0, 1) := by decide +kernel
theorem dX2_init_21 : decode cX2_init 21 = .ok (.bipush 10, 2) := by decide +kernel
theorem dX2_init_23 : decode cX2_init 23 = .ok (.newarray .int, 2) := by decide +kernel
theorem dX2_init_25 : decode cX2_init 25 = .ok (.putfield 18, 3) := by decide +kernel
theorem dX2_init_28 : decode cX2_init 28 = .ok (.aload_n 0, 1) := by decide +kernel
theorem dX2_init_29 : decode cX2_init 29 = .ok (.bipush 10, 2) := by decide +kernel
theorem dX2_init_31 : decode cX2_init 31 = .ok (.newarray .int, 2) := by decide +kernel
theorem dX2_init_33 : decode cX2_init 33 = .ok (.putfield 21, 3) := by decide +kernel
theorem dX2_init_36 : decode cX2_init 36 = .ok (.aload_n 0, 1) := by decide +kernel
theorem dX2_init_37 : decode cX2_init 37 = .ok (.bipush 10, 2) := by decide +kernel
theorem dX2_init_39 : decode cX2_init 39 = .ok (.newarray .int, 2) := by decide +kernel
theorem dX2_init_41 : decode cX2_init 41 = .ok (.putfield 24, 3) := by decide +kernel
theorem dX2_init_44 : decode cX2_init 44 = .ok (.aload_n 0, 1) := by decide +kernel
theorem dX2_init_45 : decode cX2_init 45 = .ok (.bipush 10, 2) := by decide +kernel
theorem dX2_init_47 : decode cX2_init 47 = .ok (.bipush 10, 2) := by decide +kernel
theorem dX2_init_49 : decode cX2_init 49 = .ok (.multianewarray 27 2, 4) := by decide +kernel
theorem dX2_init_53 : decode cX2_init 53 = .ok (.putfield 29, 3) := by decide +kernel
theorem dX2_init_56 : decode cX2_init 56 = .ok (.aload_n 0, 1) := by decide +kernel
theorem dX2_init_57 : decode cX2_init 57 = .ok (.bipush 10, 2) := by decide +kernel
theorem dX2_init_59 : decode cX2_init 59 = .ok (.newarray .int, 2) := by decide +kernel
theorem dX2_init_61 : decode cX2_init 61 = .ok (.putfield 32, 3) := by decide +kernel
theorem dX2_init_64 : decode cX2_init 64 = .ok (.return_, 1) := by decide +kernel
theorem dX2_addServant_0 : decode cX2_addServant 0 = .ok (.aload_n 0, 1) := by decide +kernel
theorem dX2_addServant_1 : decode cX2_addServant 1 = .ok (.getfield 35, 3) := by decide +kernel
theorem dX2_addServant_4 : decode cX2_addServant 4 = .ok (.bipush 10, 2) := by decide +kernel
theorem dX2_addServant_6 : decode cX2_addServant 6 = .ok (.if_icmp .lt 6, 3) := by decide +kernel
theorem dX2_addServant_9 : decode cX2_addServant 9 = .ok (.bipush (-4), 2) := by decide +kernel
theorem dX2_addServant_11 : decode cX2_addServant 11 = .ok (.ireturn, 1) := by decide +kernel
theorem dX2_addServant_12 : decode cX2_addServant 12 = .ok (.aload_n 0, 1) := by decide +kernel
theorem dX2_addServant_13 : decode cX2_addServant 13 = .ok (.getfield 9, 3) := by decide +kernel
theorem dX2_addServant_16 : decode cX2_addServant 16 = .ok (.aload_n 0, 1) := by decide +kernel
theorem dX2_addServant_17 : decode cX2_addServant 17 = .ok (.getfield 35, 3) := by decide +kernel
theorem dX2_addServant_20 : decode cX2_addServant 20 = .ok (.iload_n 1, 1) := by decide +kernel
theorem dX2_addServant_21 : decode cX2_addServant 21 = .ok (.iastore, 1) := by decide +kernel
theorem dX2_addServant_22 : decode cX2_addServant 22 = .ok (.aload_n 0, 1) := by decide +kernel
theorem dX2_addServant_23 : decode cX2_addServant 23 = .ok (.getfield 15, 3) := by decide +kernel
theorem dX2_addServant_26 : decode cX2_addServant 26 = .ok (.aload_n 0, 1) := by decide +kernel
theorem dX2_addServant_27 : decode cX2_addServant 27 = .ok (.getfield 35, 3) := by decide +kernel
theorem dX2_addServant_30 : decode cX2_addServant 30 = .ok (.iload_n 2, 1) := by decide +kernel
theorem dX2_addServant_31 : decode cX2_addServant 31 = .ok (.iastore, 1) := by decide +kernel
theorem dX2_addServant_32 : decode cX2_addServant 32 = .ok (.aload_n 0, 1) := by decide +kernel
theorem dX2_addServant_33 : decode cX2_addServant 33 = .ok (.getfield 18, 3) := by decide +kernel
theorem dX2_addServant_36 : decode cX2_addServant 36 = .ok (.aload_n 0, 1) := by decide +kernel
theorem dX2_addServant_37 : decode cX2_addServant 37 = .ok (.getfield 35, 3) := by decide +kernel
theorem dX2_addServant_40 : decode cX2_addServant 40 = .ok (.iload_n 3, 1) := by decide +kernel
theorem dX2_addServant_41 : decode cX2_addServant 41 = .ok (.iastore, 1) := by decide +kernel
theorem dX2_addServant_42 : decode cX2_addServant 42 = .ok (.aload_n 0, 1) := by decide +kernel
theorem dX2_addServant_43 : decode cX2_addServant 43 = .ok (.dup, 1) := by decide +kernel
theorem dX2_addServant_44 : decode cX2_addServant 44 = .ok (.getfield 35, 3) := by decide +kernel
theorem dX2_addServant_47 : decode cX2_addServant 47 = .ok (.iconst 1, 1) := by decide +kernel
theorem dX2_addServant_48 : decode cX2_addServant 48 = .ok (.iadd, 1) := by decide +kernel
theorem dX2_addServant_49 : decode cX2_addServant 49 = .ok (.putfield 35, 3) := by decide +kernel
theorem dX2_addServant_52 : decode cX2_addServant 52 = .ok (.aload_n 0, 1) := by decide +kernel
theorem dX2_addServant_53 : decode cX2_addServant 53 = .ok (.getfield 35, 3) := by decide +kernel
theorem dX2_addServant_56 : decode cX2_addServant 56 = .ok (.iconst 1, 1) := by decide +kernel
theorem dX2_addServant_57 : decode cX2_addServant 57 = .ok (.isub, 1) := by decide +kernel
theorem dX2_addServant_58 : decode cX2_addServant 58 = .ok (.ireturn, 1) := by decide +kernel
theorem dX2_addMaster_0 : decode cX2_addMaster 0 = .ok (.aload_n 0, 1) := by decide +kernel
theorem dX2_addMaster_1 : decode cX2_addMaster 1 = .ok (.getfield 39, 3) := by decide +kernel
theorem dX2_addMaster_4 : decode cX2_addMaster 4 = .ok (.bipush 10, 2) := by decide +kernel
theorem dX2_addMaster_6 : decode cX2_addMaster 6 = .ok (.if_icmp .lt 6, 3) := by decide +kernel
theorem dX2_addMaster_9 : decode cX2_addMaster 9 = .ok (.bipush (-4), 2) := by decide +kernel
theorem dX2_addMaster_11 : decode cX2_addMaster 11 = .ok (.ireturn, 1) := by decide +kernel
theorem dX2_addMaster_12 : decode cX2_addMaster 12 = .ok (.aload_n 0, 1) := by decide +kernel
theorem dX2_addMaster_13 : decode cX2_addMaster 13 = .ok (.getfield 21, 3) := by decide +kernel
theorem dX2_addMaster_16 : decode cX2_addMaster 16 = .ok (.aload_n 0, 1) := by decide +kernel
theorem dX2_addMaster_17 : decode cX2_addMaster 17 = .ok (.getfield 39, 3) := by decide +kernel
theorem dX2_addMaster_20 : decode cX2_addMaster 20 = .ok (.iload_n 1, 1) := by decide +kernel
theorem dX2_addMaster_21 : decode cX2_addMaster 21 = .ok (.iastore, 1) := by decide +kernel
theorem dX2_addMaster_22 : decode cX2_addMaster 22 = .ok (.aload_n 0, 1) := by decide +kernel
theorem dX2_addMaster_23 : decode cX2_addMaster 23 = .ok (.getfield 24, 3) := by decide +kernel
theorem dX2_addMaster_26 : decode cX2_addMaster 26 = .ok (.aload_n 0, 1) := by decide +kernel
theorem dX2_addMaster_27 : decode cX2_addMaster 27 = .ok (.getfield 39, 3) := by decide +kernel
theorem dX2_addMaster_30 : decode cX2_addMaster 30 = .ok (.iload_n 2, 1) := by decide +kernel
theorem dX2_addMaster_31 : decode cX2_addMaster 31 = .ok (.iastore, 1) := by decide +kernel
theorem dX2_addMaster_32 : decode cX2_addMaster 32 = .ok (.aload_n 0, 1) := by decide +kernel
theorem dX2_addMaster_33 : decode cX2_addMaster 33 = .ok (.dup, 1) := by decide +kernel
theorem dX2_addMaster_34 : decode cX2_addMaster 34 = .ok (.getfield 39, 3) := by decide +kernel
theorem dX2_addMaster_37 : decode cX2_addMaster 37 = .ok (.iconst 1, 1) := by decide +kernel
theorem dX2_addMaster_38 : decode cX2_addMaster 38 = .ok (.iadd, 1) := by decide +kernel
theorem dX2_addMaster_39 : decode cX2_addMaster 39 = .ok (.putfield 39, 3) := by decide +kernel
theorem dX2_addMaster_42 : decode cX2_addMaster 42 = .ok (.aload_n 0, 1) := by decide +kernel
theorem dX2_addMaster_43 : decode cX2_addMaster 43 = .ok (.getfield 39, 3) := by decide +kernel
theorem dX2_addMaster_46 : decode cX2_addMaster 46 = .ok (.iconst 1, 1) := by decide +kernel
theorem dX2_addMaster_47 : decode cX2_addMaster 47 = .ok (.isub, 1) := by decide +kernel
theorem dX2_addMaster_48 : decode cX2_addMaster 48 = .ok (.ireturn, 1) := by decide +kernel
theorem dX2_hasServant_0 : decode cX2_hasServant 0 = .ok (.iload_n 1, 1) := by decide +kernel
theorem dX2_hasServant_1 : decode cX2_hasServant 1 = .ok (.ifCond .lt 15, 3) := by decide +kernel
theorem dX2_hasServant_4 : decode cX2_hasServant 4 = .ok (.iload_n 1, 1) := by decide +kernel
theorem dX2_hasServant_5 : decode cX2_hasServant 5 = .ok (.aload_n 0, 1) := by decide +kernel
theorem dX2_hasServant_6 : decode cX2_hasServant 6 = .ok (.getfield 35, 3) := by decide +kernel
theorem dX2_hasServant_9 : decode cX2_hasServant 9 = .ok (.if_icmp .ge 7, 3) := by decide +kernel
theorem dX2_hasServant_12 : decode cX2_hasServant 12 = .ok (.iconst 1, 1) := by decide +kernel
theorem dX2_hasServant_13 : decode cX2_hasServant 13 = .ok (.goto 4, 3) := by decide +kernel
theorem dX2_hasServant_16 : decode cX2_hasServant 16 = .ok (.iconst 0, 1) := by decide +kernel
theorem dX2_hasServant_17 : decode cX2_hasServant 17 = .ok (.ireturn, 1) := by decide +kernel
theorem dX2_hasMaster_0 : decode cX2_hasMaster 0 = .ok (.iload_n 1, 1) := by decide +kernel
theorem dX2_hasMaster_1 : decode cX2_hasMaster 1 = .ok (.ifCond .lt 15, 3) := by decide +kernel
theorem dX2_hasMaster_4 : decode cX2_hasMaster 4 = .ok (.iload_n 1, 1) := by decide +kernel
theorem dX2_hasMaster_5 : decode cX2_hasMaster 5 = .ok (.aload_n 0, 1) := by decide +kernel
theorem dX2_hasMaster_6 : decode cX2_hasMaster 6 = .ok (.getfield 39, 3) := by decide +kernel
theorem dX2_hasMaster_9 : decode cX2_hasMaster 9 = .ok (.if_icmp .ge 7, 3) := by decide +kernel
theorem dX2_hasMaster_12 : decode cX2_hasMaster 12 = .ok (.iconst 1, 1) := by decide +kernel
theorem dX2_hasMaster_13 : decode cX2_hasMaster 13 = .ok (.goto 4, 3) := by decide +kernel
theorem dX2_hasMaster_16 : decode cX2_hasMaster 16 = .ok (.iconst 0, 1) := by decide +kernel
theorem dX2_hasMaster_17 : decode cX2_hasMaster 17 = .ok (.ireturn, 1) := by decide +kernel
set_option maxRecDepth 20000 in
theorem ggX2_hasBoth_X2_hasMaster : GoodIn wsX2_hasBoth wsX2_hasMaster := goodIn_r _ [5, 6, 12, 13, 14, 15, 16, 17, 18, 19, 20] rfl (by decide +kernel)
set_option maxRecDepth 20000 in
theorem gX2_hasBoth_X2_hasMaster : GoodIn wsX2_hasBoth (wsV RX2 42 RX2 yX2_hasMaster wsX2_hasMaster) := goodIn_app (goodIn_r _ [1, 2, 3, 4] rfl (by decide +kernel)) ggX2_hasBoth_X2_hasMaster
set_option maxRecDepth 20000 in
theorem ggX2_hasBoth_X2_hasServant : GoodIn wsX2_hasBoth wsX2_hasServant := goodIn_r _ [10, 11, 12, 13, 14, 15, 16, 17, 18, 19, 20] rfl (by decide +kernel)
set_option maxRecDepth 20000 in
theorem gX2_hasBoth_X2_hasServant : GoodIn wsX2_hasBoth (wsV RX2 46 RX2 yX2_hasServant wsX2_hasServant) := goodIn_app (goodIn_r _ [7, 8, 9, 4] rfl (by decide +kernel)) ggX2_hasBoth_X2_hasServant
theorem dX2_hasBoth_0 : decode cX2_hasBoth 0 = .ok (.aload_n 0, 1) := by decide +kernel
theorem dX2_hasBoth_1 : decode cX2_hasBoth 1 = .ok (.iload_n 1, 1) := by decide +kernel
theorem dX2_hasBoth_2 : decode cX2_hasBoth 2 = .ok (.invokevirtual 42, 3) := by decide +kernel
theorem dX2_hasBoth_5 : decode cX2_hasBoth 5 = .ok (.ifCond .eq 15, 3) := by decide +kernel
theorem dX2_hasBoth_8 : decode cX2_hasBoth 8 = .ok (.aload_n 0, 1) := by decide +kernel
theorem dX2_hasBoth_9 : decode cX2_hasBoth 9 = .ok (.iload_n 2, 1) := by decide +kernel
theorem dX2_hasBoth_10 : decode cX2_hasBoth 10 = .ok (.invokevirtual 46, 3) := by decide +kernel
theorem dX2_hasBoth_13 : decode cX2_hasBoth 13 = .ok (.ifCond .eq 7, 3) := by decide +kernel
theorem dX2_hasBoth_16 : decode cX2_hasBoth 16 = .ok (.iconst 1, 1) := by decide +kernel
theorem dX2_hasBoth_17 : decode cX2_hasBoth 17 = .ok (.goto 4, 3) := by decide +kernel
theorem dX2_hasBoth_20 : decode cX2_hasBoth 20 = .ok (.iconst 0, 1) := by decide +kernel
theorem dX2_hasBoth_21 : decode cX2_hasBoth 21 = .ok (.ireturn, 1) := by decide +kernel
theorem dX2_isBarred_0 : decode cX2_isBarred 0 = .ok (.aload_n 0, 1) := by decide +kernel
theorem dX2_isBarred_1 : decode cX2_isBarred 1 = .ok (.getfield 32, 3) := by decide +kernel
theorem dX2_isBarred_4 : decode cX2_isBarred 4 = .ok (.iload_n 1, 1) := by decide +kernel
theorem dX2_isBarred_5 : decode cX2_isBarred 5 = .ok (.iaload, 1) := by decide +kernel
theorem dX2_isBarred_6 : decode cX2_isBarred 6 = .ok (.iconst 1, 1) := by decide +kernel
theorem dX2_isBarred_7 : decode cX2_isBarred 7 = .ok (.iload_n 2, 1) := by decide +kernel
theorem dX2_isBarred_8 : decode cX2_isBarred 8 = .ok (.ishl, 1) := by decide +kernel
theorem dX2_isBarred_9 : decode cX2_isBarred 9 = .ok (.iand, 1) := by decide +kernel
theorem dX2_isBarred_10 : decode cX2_isBarred 10 = .ok (.ifCond .eq 7, 3) := by decide +kernel
theorem dX2_isBarred_13 : decode cX2_isBarred 13 = .ok (.iconst 1, 1) := by decide +kernel
theorem dX2_isBarred_14 : decode cX2_isBarred 14 = .ok (.goto 4, 3) := by decide +kernel
theorem dX2_isBarred_17 : decode cX2_isBarred 17 = .ok (.iconst 0, 1) := by decide +kernel
theorem dX2_isBarred_18 : decode cX2_isBarred 18 = .ok (.ireturn, 1) := by decide +kernel
theorem dX2_setBar_0 : decode cX2_setBar 0 = .ok (.iload_n 3, 1) := by decide +kernel
theorem dX2_setBar_1 : decode cX2_setBar 1 = .ok (.ifCond .eq 18, 3) := by decide +kernel
theorem dX2_setBar_4 : decode cX2_setBar 4 = .ok (.aload_n 0, 1) := by decide +kernel
theorem dX2_setBar_5 : decode cX2_setBar 5 = .ok (.getfield 32, 3) := by decide +kernel
theorem dX2_setBar_8 : decode cX2_setBar 8 = .ok (.iload_n 1, 1) := by decide +kernel
theorem dX2_setBar_9 : decode cX2_setBar 9 = .ok (.dup2, 1) := by decide +kernel
theorem dX2_setBar_10 : decode cX2_setBar 10 = .ok (.iaload, 1) := by decide +kernel
theorem dX2_setBar_11 : decode cX2_setBar 11 = .ok (.iconst 1, 1) := by decide +kernel
theorem dX2_setBar_12 : decode cX2_setBar 12 = .ok (.iload_n 2, 1) := by decide +kernel
theorem dX2_setBar_13 : decode cX2_setBar 13 = .ok (.ishl, 1) := by decide +kernel
theorem dX2_setBar_14 : decode cX2_setBar 14 = .ok (.ior, 1) := by decide +kernel
theorem dX2_setBar_15 : decode cX2_setBar 15 = .ok (.iastore, 1) := by decide +kernel
theorem dX2_setBar_16 : decode cX2_setBar 16 = .ok (.goto 17, 3) := by decide +kernel
theorem dX2_setBar_19 : decode cX2_setBar 19 = .ok (.aload_n 0, 1) := by decide +kernel
theorem dX2_setBar_20 : decode cX2_setBar 20 = .ok (.getfield 32, 3) := by decide +kernel
theorem dX2_setBar_23 : decode cX2_setBar 23 = .ok (.iload_n 1, 1) := by decide +kernel
theorem dX2_setBar_24 : decode cX2_setBar 24 = .ok (.dup2, 1) := by decide +kernel
theorem dX2_setBar_25 : decode cX2_setBar 25 = .ok (.iaload, 1) := by decide +kernel
theorem dX2_setBar_26 : decode cX2_setBar 26 = .ok (.iconst 1, 1) := by decide +kernel
theorem dX2_setBar_27 : decode cX2_setBar 27 = .ok (.iload_n 2, 1) := by decide +kernel
theorem dX2_setBar_28 : decode cX2_setBar 28 = .ok (.ishl, 1) := by decide +kernel
theorem dX2_setBar_29 : decode cX2_setBar 29 = .ok (.iconst (-1), 1) := by decide +kernel
theorem dX2_setBar_30 : decode cX2_setBar 30 = .ok (.ixor, 1) := by decide +kernel
theorem dX2_setBar_31 : decode cX2_setBar 31 = .ok (.iand, 1) := by decide +kernel
theorem dX2_setBar_32 : decode cX2_setBar 32 = .ok (.iastore, 1) := by decide +kernel
theorem dX2_setBar_33 : decode cX2_setBar 33 = .ok (.return_, 1) := by decide +kernel
theorem dX2_tell_0 : decode cX2_tell 0 = .ok (.aload_n 0, 1) := by decide +kernel
theorem dX2_tell_1 : decode cX2_tell 1 = .ok (.getfield 29, 3) := by decide +kernel
theorem dX2_tell_4 : decode cX2_tell 4 = .ok (.iload_n 1, 1) := by decide +kernel
theorem dX2_tell_5 : decode cX2_tell 5 = .ok (.aaload, 1) := by decide +kernel
theorem dX2_tell_6 : decode cX2_tell 6 = .ok (.iload_n 2, 1) := by decide +kernel
theorem dX2_tell_7 : decode cX2_tell 7 = .ok (.iload_n 3, 1) := by decide +kernel
theorem dX2_tell_8 : decode cX2_tell 8 = .ok (.iastore, 1) := by decide +kernel
theorem dX2_tell_9 : decode cX2_tell 9 = .ok (.return_, 1) := by decide +kernel
theorem dX2_hasHeard_0 : decode cX2_hasHeard 0 = .ok (.aload_n 0, 1) := by decide +kernel
theorem dX2_hasHeard_1 : decode cX2_hasHeard 1 = .ok (.getfield 29, 3) := by decide +kernel
theorem dX2_hasHeard_4 : decode cX2_hasHeard 4 = .ok (.iload_n 1, 1) := by decide +kernel
theorem dX2_hasHeard_5 : decode cX2_hasHeard 5 = .ok (.aaload, 1) := by decide +kernel
theorem dX2_hasHeard_6 : decode cX2_hasHeard 6 = .ok (.iload_n 2, 1) := by decide +kernel
theorem dX2_hasHeard_7 : decode cX2_hasHeard 7 = .ok (.iaload, 1) := by decide +kernel
theorem dX2_hasHeard_8 : decode cX2_hasHeard 8 = .ok (.ifCond .eq 7, 3) := by decide +kernel
theorem dX2_hasHeard_11 : decode cX2_hasHeard 11 = .ok (.iconst 1, 1) := by decide +kernel
theorem dX2_hasHeard_12 : decode cX2_hasHeard 12 = .ok (.goto 4, 3) := by decide +kernel
theorem dX2_hasHeard_15 : decode cX2_hasHeard 15 = .ok (.iconst 0, 1) := by decide +kernel
theorem dX2_hasHeard_16 : decode cX2_hasHeard 16 = .ok (.ireturn, 1) := by decide +kernel
theorem dX2_heldFor_0 : decode cX2_heldFor 0 = .ok (.aload_n 0, 1) := by decide +kernel
theorem dX2_heldFor_1 : decode cX2_heldFor 1 = .ok (.getfield 29, 3) := by decide +kernel
theorem dX2_heldFor_4 : decode cX2_heldFor 4 = .ok (.iload_n 1, 1) := by decide +kernel
theorem dX2_heldFor_5 : decode cX2_heldFor 5 = .ok (.aaload, 1) := by decide +kernel
theorem dX2_heldFor_6 : decode cX2_heldFor 6 = .ok (.iload_n 2, 1) := by decide +kernel
theorem dX2_heldFor_7 : decode cX2_heldFor 7 = .ok (.iaload, 1) := by decide +kernel
theorem dX2_heldFor_8 : decode cX2_heldFor 8 = .ok (.istore_n 3, 1) := by decide +kernel
theorem dX2_heldFor_9 : decode cX2_heldFor 9 = .ok (.iload_n 3, 1) := by decide +kernel
theorem dX2_heldFor_10 : decode cX2_heldFor 10 = .ok (.ifCond .ne 7, 3) := by decide +kernel
theorem dX2_heldFor_13 : decode cX2_heldFor 13 = .ok (.iconst 5, 1) := by decide +kernel
theorem dX2_heldFor_14 : decode cX2_heldFor 14 = .ok (.goto 4, 3) := by decide +kernel
theorem dX2_heldFor_17 : decode cX2_heldFor 17 = .ok (.iload_n 3, 1) := by decide +kernel
theorem dX2_heldFor_18 : decode cX2_heldFor 18 = .ok (.ireturn, 1) := by decide +kernel
set_option maxRecDepth 20000 in
theorem ggX2_offerTo_X2_isBarred : GoodIn wsX2_offerTo wsX2_isBarred := goodIn_r _ [9, 10, 16, 17, 18, 19, 20, 21, 22, 23, 24] rfl (by decide +kernel)
set_option maxRecDepth 20000 in
theorem gX2_offerTo_X2_isBarred : GoodIn wsX2_offerTo (wsV RX2 49 RX2 yX2_isBarred wsX2_isBarred) := goodIn_app (goodIn_r _ [5, 6, 7, 8] rfl (by decide +kernel)) ggX2_offerTo_X2_isBarred
set_option maxRecDepth 20000 in
theorem ggX2_offerTo_X2_heldFor : GoodIn wsX2_offerTo wsX2_heldFor := goodIn_r _ [14, 15, 16, 17, 18, 19, 20, 21, 22, 23, 24] rfl (by decide +kernel)
set_option maxRecDepth 20000 in
theorem gX2_offerTo_X2_heldFor : GoodIn wsX2_offerTo (wsV RX2 53 RX2 yX2_heldFor wsX2_heldFor) := goodIn_app (goodIn_r _ [11, 12, 13, 8] rfl (by decide +kernel)) ggX2_offerTo_X2_heldFor
theorem dX2_offerTo_0 : decode cX2_offerTo 0 = .ok (.aload_n 0, 1) := by decide +kernel
theorem dX2_offerTo_1 : decode cX2_offerTo 1 = .ok (.getfield 21, 3) := by decide +kernel
theorem dX2_offerTo_4 : decode cX2_offerTo 4 = .ok (.iload_n 1, 1) := by decide +kernel
theorem dX2_offerTo_5 : decode cX2_offerTo 5 = .ok (.iaload, 1) := by decide +kernel
theorem dX2_offerTo_6 : decode cX2_offerTo 6 = .ok (.aload_n 0, 1) := by decide +kernel
theorem dX2_offerTo_7 : decode cX2_offerTo 7 = .ok (.getfield 9, 3) := by decide +kernel
theorem dX2_offerTo_10 : decode cX2_offerTo 10 = .ok (.iload_n 2, 1) := by decide +kernel
theorem dX2_offerTo_11 : decode cX2_offerTo 11 = .ok (.iaload, 1) := by decide +kernel
theorem dX2_offerTo_12 : decode cX2_offerTo 12 = .ok (.if_icmp .ne 12, 3) := by decide +kernel
theorem dX2_offerTo_15 : decode cX2_offerTo 15 = .ok (.aload_n 0, 1) := by decide +kernel
theorem dX2_offerTo_16 : decode cX2_offerTo 16 = .ok (.iload_n 1, 1) := by decide +kernel
theorem dX2_offerTo_17 : decode cX2_offerTo 17 = .ok (.iload_n 2, 1) := by decide +kernel
theorem dX2_offerTo_18 : decode cX2_offerTo 18 = .ok (.invokevirtual 49, 3) := by decide +kernel
theorem dX2_offerTo_21 : decode cX2_offerTo 21 = .ok (.ifCond .eq 6, 3) := by decide +kernel
theorem dX2_offerTo_24 : decode cX2_offerTo 24 = .ok (.bipush (-9), 2) := by decide +kernel
theorem dX2_offerTo_26 : decode cX2_offerTo 26 = .ok (.ireturn, 1) := by decide +kernel
theorem dX2_offerTo_27 : decode cX2_offerTo 27 = .ok (.aload_n 0, 1) := by decide +kernel
theorem dX2_offerTo_28 : decode cX2_offerTo 28 = .ok (.getfield 24, 3) := by decide +kernel
theorem dX2_offerTo_31 : decode cX2_offerTo 31 = .ok (.iload_n 1, 1) := by decide +kernel
theorem dX2_offerTo_32 : decode cX2_offerTo 32 = .ok (.iaload, 1) := by decide +kernel
theorem dX2_offerTo_33 : decode cX2_offerTo 33 = .ok (.iconst 3, 1) := by decide +kernel
theorem dX2_offerTo_34 : decode cX2_offerTo 34 = .ok (.bipush 9, 2) := by decide +kernel
theorem dX2_offerTo_36 : decode cX2_offerTo 36 = .ok (.aload_n 0, 1) := by decide +kernel
theorem dX2_offerTo_37 : decode cX2_offerTo 37 = .ok (.iload_n 1, 1) := by decide +kernel
theorem dX2_offerTo_38 : decode cX2_offerTo 38 = .ok (.iload_n 2, 1) := by decide +kernel
theorem dX2_offerTo_39 : decode cX2_offerTo 39 = .ok (.invokevirtual 53, 3) := by decide +kernel
theorem dX2_offerTo_42 : decode cX2_offerTo 42 = .ok (.isub, 1) := by decide +kernel
theorem dX2_offerTo_43 : decode cX2_offerTo 43 = .ok (.imul, 1) := by decide +kernel
theorem dX2_offerTo_44 : decode cX2_offerTo 44 = .ok (.isub, 1) := by decide +kernel
theorem dX2_offerTo_45 : decode cX2_offerTo 45 = .ok (.istore_n 3, 1) := by decide +kernel
theorem dX2_offerTo_46 : decode cX2_offerTo 46 = .ok (.iload_n 3, 1) := by decide +kernel
theorem dX2_offerTo_47 : decode cX2_offerTo 47 = .ok (.aload_n 0, 1) := by decide +kernel
theorem dX2_offerTo_48 : decode cX2_offerTo 48 = .ok (.getfield 18, 3) := by decide +kernel
theorem dX2_offerTo_51 : decode cX2_offerTo 51 = .ok (.iload_n 2, 1) := by decide +kernel
theorem dX2_offerTo_52 : decode cX2_offerTo 52 = .ok (.iaload, 1) := by decide +kernel
theorem dX2_offerTo_53 : decode cX2_offerTo 53 = .ok (.if_icmp .ge 8, 3) := by decide +kernel
theorem dX2_offerTo_56 : decode cX2_offerTo 56 = .ok (.bipush (-9), 2) := by decide +kernel
theorem dX2_offerTo_58 : decode cX2_offerTo 58 = .ok (.goto 13, 3) := by decide +kernel
theorem dX2_offerTo_61 : decode cX2_offerTo 61 = .ok (.iload_n 3, 1) := by decide +kernel
theorem dX2_offerTo_62 : decode cX2_offerTo 62 = .ok (.aload_n 0, 1) := by decide +kernel
theorem dX2_offerTo_63 : decode cX2_offerTo 63 = .ok (.getfield 18, 3) := by decide +kernel
theorem dX2_offerTo_66 : decode cX2_offerTo 66 = .ok (.iload_n 2, 1) := by decide +kernel
theorem dX2_offerTo_67 : decode cX2_offerTo 67 = .ok (.iaload, 1) := by decide +kernel
theorem dX2_offerTo_68 : decode cX2_offerTo 68 = .ok (.iadd, 1) := by decide +kernel
theorem dX2_offerTo_69 : decode cX2_offerTo 69 = .ok (.iconst 2, 1) := by decide +kernel
theorem dX2_offerTo_70 : decode cX2_offerTo 70 = .ok (.idiv, 1) := by decide +kernel
theorem dX2_offerTo_71 : decode cX2_offerTo 71 = .ok (.ireturn, 1) := by decide +kernel
set_option maxRecDepth 20000 in
theorem ggX2_likingAt_X2_heldFor : GoodIn wsX2_likingAt wsX2_heldFor := goodIn_r _ [5, 6, 7, 8, 9, 10, 11, 12, 13, 14, 15] rfl (by decide +kernel)
set_option maxRecDepth 20000 in
theorem gX2_likingAt_X2_heldFor : GoodIn wsX2_likingAt (wsV RX2 53 RX2 yX2_heldFor wsX2_heldFor) := goodIn_app (goodIn_r _ [1, 2, 3, 4] rfl (by decide +kernel)) ggX2_likingAt_X2_heldFor
theorem dX2_likingAt_0 : decode cX2_likingAt 0 = .ok (.bipush 10, 2) := by decide +kernel
theorem dX2_likingAt_2 : decode cX2_likingAt 2 = .ok (.aload_n 0, 1) := by decide +kernel
theorem dX2_likingAt_3 : decode cX2_likingAt 3 = .ok (.iload_n 1, 1) := by decide +kernel
theorem dX2_likingAt_4 : decode cX2_likingAt 4 = .ok (.iload_n 2, 1) := by decide +kernel
theorem dX2_likingAt_5 : decode cX2_likingAt 5 = .ok (.invokevirtual 53, 3) := by decide +kernel
theorem dX2_likingAt_8 : decode cX2_likingAt 8 = .ok (.imul, 1) := by decide +kernel
theorem dX2_likingAt_9 : decode cX2_likingAt 9 = .ok (.iload_n 3, 1) := by decide +kernel
theorem dX2_likingAt_10 : decode cX2_likingAt 10 = .ok (.isub, 1) := by decide +kernel
theorem dX2_likingAt_11 : decode cX2_likingAt 11 = .ok (.ireturn, 1) := by decide +kernel
set_option maxRecDepth 20000 in
theorem ggX3_init_J7_fill_53178 : GoodIn wsX3_init wsJ7_fill_53178 := goodIn_r _ [16] rfl (by decide +kernel)
set_option maxRecDepth 20000 in
theorem gX3_init_J7_fill_53178 : GoodIn wsX3_init (va_wsS RX3 23 yJ7_fill_53178 wsJ7_fill_53178) := goodIn_app (goodIn_r _ [13, 14, 15] rfl (by decide +kernel)) ggX3_init_J7_fill_53178
theorem dX3_init_0 : decode cX3_init 0 = .ok (.aload_n 0, 1) := by decide +kernel
theorem dX3_init_1 : decode cX3_init 1 = .ok (.invokespecial 3, 3) := by decide +kernel
theorem dX3_init_4 : decode cX3_init 4 = .ok (.aload_n 0, 1) := by decide +kernel
theorem dX3_init_5 : decode cX3_init 5 = .ok (.aload_n 1, 1) := by decide +kernel
theorem dX3_init_6 : decode cX3_init 6 = .ok (.putfield 9, 3) := by decide +kernel
theorem dX3_init_9 : decode cX3_init 9 = .ok (.aload_n 0, 1) := by decide +kernel
theorem dX3_init_10 : decode cX3_init 10 = .ok (.bipush (-9), 2) := by decide +kernel
theorem dX3_init_12 : decode cX3_init 12 = .ok (.putfield 15, 3) := by decide +kernel
theorem dX3_init_15 : decode cX3_init 15 = .ok (.aload_n 0, 1) := by decide +kernel
theorem dX3_init_16 : decode cX3_init 16 = .ok (.bipush 10, 2) := by decide +kernel
theorem dX3_init_18 : decode cX3_init 18 = .ok (.newarray .int, 2) := by decide +kernel
theorem dX3_init_20 : decode cX3_init 20 = .ok (.putfield 19, 3) := by decide +kernel
theorem dX3_init_23 : decode cX3_init 23 = .ok (.aload_n 0, 1) := by decide +kernel
theorem dX3_init_24 : decode cX3_init 24 = .ok (.getfield 19, 3) := by decide +kernel
theorem dX3_init_27 : decode cX3_init 27 = .ok (.sipush 363, 3) := by decide +kernel
theorem dX3_init_30 : decode cX3_init 30 = .ok (.invokestatic 23, 3) := by decide +kernel
theorem dX3_init_33 : decode cX3_init 33 = .ok (.aload_n 0, 1) := by decide +kernel
theorem dX3_init_34 : decode cX3_init 34 = .ok (.bipush 10, 2) := by decide +kernel
theorem dX3_init_36 : decode cX3_init 36 = .ok (.newarray .boolean, 2) := by decide +kernel
theorem dX3_init_38 : decode cX3_init 38 = .ok (.putfield 29, 3) := by decide +kernel
theorem dX3_init_41 : decode cX3_init 41 = .ok (.aload_n 0, 1) := by decide +kernel
theorem dX3_init_42 : decode cX3_init 42 = .ok (.bipush 10, 2) := by decide +kernel
theorem dX3_init_44 : decode cX3_init 44 = .ok (.newarray .boolean, 2) := by decide +kernel
theorem dX3_init_46 : decode cX3_init 46 = .ok (.putfield 33, 3) := by decide +kernel
theorem dX3_init_49 : decode cX3_init 49 = .ok (.aload_n 0, 1) := by decide +kernel
theorem dX3_init_50 : decode cX3_init 50 = .ok (.bipush 60, 2) := by decide +kernel
theorem dX3_init_52 : decode cX3_init 52 = .ok (.newarray .long, 2) := by decide +kernel
theorem dX3_init_54 : decode cX3_init 54 = .ok (.putfield 36, 3) := by decide +kernel
theorem dX3_init_57 : decode cX3_init 57 = .ok (.return_, 1) := by decide +kernel
theorem dX3_begin_0 : decode cX3_begin 0 = .ok (.aload_n 0, 1) := by decide +kernel
theorem dX3_begin_1 : decode cX3_begin 1 = .ok (.iconst 0, 1) := by decide +kernel
theorem dX3_begin_2 : decode cX3_begin 2 = .ok (.putfield 15, 3) := by decide +kernel
theorem dX3_begin_5 : decode cX3_begin 5 = .ok (.return_, 1) := by decide +kernel
theorem dX3_hasBegun_0 : decode cX3_hasBegun 0 = .ok (.aload_n 0, 1) := by decide +kernel
theorem dX3_hasBegun_1 : decode cX3_hasBegun 1 = .ok (.getfield 15, 3) := by decide +kernel
theorem dX3_hasBegun_4 : decode cX3_hasBegun 4 = .ok (.bipush (-9), 2) := by decide +kernel
theorem dX3_hasBegun_6 : decode cX3_hasBegun 6 = .ok (.if_icmp .eq 7, 3) := by decide +kernel
theorem dX3_hasBegun_9 : decode cX3_hasBegun 9 = .ok (.iconst 1, 1) := by decide +kernel
theorem dX3_hasBegun_10 : decode cX3_hasBegun 10 = .ok (.goto 4, 3) := by decide +kernel
theorem dX3_hasBegun_13 : decode cX3_hasBegun 13 = .ok (.iconst 0, 1) := by decide +kernel
theorem dX3_hasBegun_14 : decode cX3_hasBegun 14 = .ok (.ireturn, 1) := by decide +kernel
set_option maxRecDepth 20000 in
theorem ggX3_servesOn_X0_isBound : GoodIn wsX3_servesOn wsX0_isBound := goodIn_r _ [7, 8, 15, 16, 17, 18, 19, 20, 21, 22] rfl (by decide +kernel)
set_option maxRecDepth 20000 in
theorem gX3_servesOn_X0_isBound : GoodIn wsX3_servesOn (wsV RX3 40 RX0 yX0_isBound wsX0_isBound) := goodIn_app (goodIn_r _ [3, 4, 5, 6] rfl (by decide +kernel)) ggX3_servesOn_X0_isBound
theorem dX3_servesOn_0 : decode cX3_servesOn 0 = .ok (.aload_n 0, 1) := by decide +kernel
theorem dX3_servesOn_1 : decode cX3_servesOn 1 = .ok (.getfield 9, 3) := by decide +kernel
theorem dX3_servesOn_4 : decode cX3_servesOn 4 = .ok (.iload_n 1, 1) := by decide +kernel
theorem dX3_servesOn_5 : decode cX3_servesOn 5 = .ok (.invokevirtual 40, 3) := by decide +kernel
theorem dX3_servesOn_8 : decode cX3_servesOn 8 = .ok (.ifCond .eq 17, 3) := by decide +kernel
theorem dX3_servesOn_11 : decode cX3_servesOn 11 = .ok (.iload_n 2, 1) := by decide +kernel
theorem dX3_servesOn_12 : decode cX3_servesOn 12 = .ok (.aload_n 0, 1) := by decide +kernel
theorem dX3_servesOn_13 : decode cX3_servesOn 13 = .ok (.getfield 19, 3) := by decide +kernel
theorem dX3_servesOn_16 : decode cX3_servesOn 16 = .ok (.iload_n 1, 1) := by decide +kernel
theorem dX3_servesOn_17 : decode cX3_servesOn 17 = .ok (.iaload, 1) := by decide +kernel
theorem dX3_servesOn_18 : decode cX3_servesOn 18 = .ok (.if_icmp .gt 7, 3) := by decide +kernel
theorem dX3_servesOn_21 : decode cX3_servesOn 21 = .ok (.iconst 1, 1) := by decide +kernel
theorem dX3_servesOn_22 : decode cX3_servesOn 22 = .ok (.goto 4, 3) := by decide +kernel
theorem dX3_servesOn_25 : decode cX3_servesOn 25 = .ok (.iconst 0, 1) := by decide +kernel
theorem dX3_servesOn_26 : decode cX3_servesOn 26 = .ok (.ireturn, 1) := by decide +kernel
set_option maxRecDepth 20000 in
theorem ggX3_servesNow_X3_hasBegun : GoodIn wsX3_servesNow wsX3_hasBegun := goodIn_r _ [6, 1, 19, 20, 21, 22, 23, 24] rfl (by decide +kernel)
set_option maxRecDepth 20000 in
theorem gX3_servesNow_X3_hasBegun : GoodIn wsX3_servesNow (wsV RX3 46 RX3 yX3_hasBegun wsX3_hasBegun) := goodIn_app (goodIn_r _ [2, 3, 4, 5] rfl (by decide +kernel)) ggX3_servesNow_X3_hasBegun
set_option maxRecDepth 20000 in
theorem ggX3_servesNow_X3_servesOn : GoodIn wsX3_servesNow wsX3_servesOn := goodIn_r _ [10, 11, 12, 13, 14, 15, 16, 17, 18, 19, 20, 21, 22, 23, 24, 25, 26, 27, 28, 29, 30, 31, 32] rfl (by decide +kernel)
set_option maxRecDepth 20000 in
theorem gX3_servesNow_X3_servesOn : GoodIn wsX3_servesNow (wsV RX3 50 RX3 yX3_servesOn wsX3_servesOn) := goodIn_app (goodIn_r _ [7, 8, 9, 5] rfl (by decide +kernel)) ggX3_servesNow_X3_servesOn
theorem dX3_servesNow_0 : decode cX3_servesNow 0 = .ok (.aload_n 0, 1) := by decide +kernel
theorem dX3_servesNow_1 : decode cX3_servesNow 1 = .ok (.invokevirtual 46, 3) := by decide +kernel
theorem dX3_servesNow_4 : decode cX3_servesNow 4 = .ok (.ifCond .eq 19, 3) := by decide +kernel
theorem dX3_servesNow_7 : decode cX3_servesNow 7 = .ok (.aload_n 0, 1) := by decide +kernel
theorem dX3_servesNow_8 : decode cX3_servesNow 8 = .ok (.iload_n 1, 1) := by decide +kernel
theorem dX3_servesNow_9 : decode cX3_servesNow 9 = .ok (.aload_n 0, 1) := by decide +kernel
theorem dX3_servesNow_10 : decode cX3_servesNow 10 = .ok (.getfield 15, 3) := by decide +kernel
theorem dX3_servesNow_13 : decode cX3_servesNow 13 = .ok (.invokevirtual 50, 3) := by decide +kernel
theorem dX3_servesNow_16 : decode cX3_servesNow 16 = .ok (.ifCond .eq 7, 3) := by decide +kernel
theorem dX3_servesNow_19 : decode cX3_servesNow 19 = .ok (.iconst 1, 1) := by decide +kernel
theorem dX3_servesNow_20 : decode cX3_servesNow 20 = .ok (.goto 4, 3) := by decide +kernel
theorem dX3_servesNow_23 : decode cX3_servesNow 23 = .ok (.iconst 0, 1) := by decide +kernel
theorem dX3_servesNow_24 : decode cX3_servesNow 24 = .ok (.ireturn, 1) := by decide +kernel
set_option maxRecDepth 20000 in
theorem ggX3_endOf_X3_hasBegun : GoodIn wsX3_endOf wsX3_hasBegun := goodIn_r _ [7, 8, 15, 16, 17, 18, 19, 20] rfl (by decide +kernel)
set_option maxRecDepth 20000 in
theorem gX3_endOf_X3_hasBegun : GoodIn wsX3_endOf (wsV RX3 46 RX3 yX3_hasBegun wsX3_hasBegun) := goodIn_app (goodIn_r _ [3, 4, 5, 6] rfl (by decide +kernel)) ggX3_endOf_X3_hasBegun
set_option maxRecDepth 20000 in
theorem ggX3_endOf_X0_isBound : GoodIn wsX3_endOf wsX0_isBound := goodIn_r _ [13, 14, 21, 22, 23, 24, 25, 26, 27, 28] rfl (by decide +kernel)
set_option maxRecDepth 20000 in
theorem gX3_endOf_X0_isBound : GoodIn wsX3_endOf (wsV RX3 40 RX0 yX0_isBound wsX0_isBound) := goodIn_app (goodIn_r _ [9, 10, 11, 12] rfl (by decide +kernel)) ggX3_endOf_X0_isBound
theorem dX3_endOf_0 : decode cX3_endOf 0 = .ok (.aload_n 0, 1) := by decide +kernel
theorem dX3_endOf_1 : decode cX3_endOf 1 = .ok (.invokevirtual 46, 3) := by decide +kernel
theorem dX3_endOf_4 : decode cX3_endOf 4 = .ok (.ifCond .eq 23, 3) := by decide +kernel
theorem dX3_endOf_7 : decode cX3_endOf 7 = .ok (.aload_n 0, 1) := by decide +kernel
theorem dX3_endOf_8 : decode cX3_endOf 8 = .ok (.getfield 9, 3) := by decide +kernel
theorem dX3_endOf_11 : decode cX3_endOf 11 = .ok (.iload_n 1, 1) := by decide +kernel
theorem dX3_endOf_12 : decode cX3_endOf 12 = .ok (.invokevirtual 40, 3) := by decide +kernel
theorem dX3_endOf_15 : decode cX3_endOf 15 = .ok (.ifCond .eq 12, 3) := by decide +kernel
theorem dX3_endOf_18 : decode cX3_endOf 18 = .ok (.aload_n 0, 1) := by decide +kernel
theorem dX3_endOf_19 : decode cX3_endOf 19 = .ok (.getfield 19, 3) := by decide +kernel
theorem dX3_endOf_22 : decode cX3_endOf 22 = .ok (.iload_n 1, 1) := by decide +kernel
theorem dX3_endOf_23 : decode cX3_endOf 23 = .ok (.iaload, 1) := by decide +kernel
theorem dX3_endOf_24 : decode cX3_endOf 24 = .ok (.goto 5, 3) := by decide +kernel
theorem dX3_endOf_27 : decode cX3_endOf 27 = .ok (.bipush (-9), 2) := by decide +kernel
theorem dX3_endOf_29 : decode cX3_endOf 29 = .ok (.ireturn, 1) := by decide +kernel
set_option maxRecDepth 20000 in
theorem ggX3_fallSick_X3_wordOf : GoodIn wsX3_fallSick wsX3_wordOf := goodIn_r _ [10] rfl (by decide +kernel)
set_option maxRecDepth 20000 in
theorem gX3_fallSick_X3_wordOf : GoodIn wsX3_fallSick (va_wsS RX3 60 yX3_wordOf wsX3_wordOf) := goodIn_app (goodIn_r _ [7, 8, 9] rfl (by decide +kernel)) ggX3_fallSick_X3_wordOf
set_option maxRecDepth 20000 in
theorem ggX3_fallSick_X3_dayBit : GoodIn wsX3_fallSick wsX3_dayBit := goodIn_r _ [13] rfl (by decide +kernel)
set_option maxRecDepth 20000 in
theorem gX3_fallSick_X3_dayBit : GoodIn wsX3_fallSick (va_wsS RX3 63 yX3_dayBit wsX3_dayBit) := goodIn_app (goodIn_r _ [11, 12, 9] rfl (by decide +kernel)) ggX3_fallSick_X3_dayBit
theorem dX3_fallSick_0 : decode cX3_fallSick 0 = .ok (.aload_n 0, 1) := by decide +kernel
theorem dX3_fallSick_1 : decode cX3_fallSick 1 = .ok (.getfield 15, 3) := by decide +kernel
theorem dX3_fallSick_4 : decode cX3_fallSick 4 = .ok (.iload_n 2, 1) := by decide +kernel
theorem dX3_fallSick_5 : decode cX3_fallSick 5 = .ok (.iadd, 1) := by decide +kernel
theorem dX3_fallSick_6 : decode cX3_fallSick 6 = .ok (.iconst 1, 1) := by decide +kernel
theorem dX3_fallSick_7 : decode cX3_fallSick 7 = .ok (.isub, 1) := by decide +kernel
theorem dX3_fallSick_8 : decode cX3_fallSick 8 = .ok (.sipush 363, 3) := by decide +kernel
theorem dX3_fallSick_11 : decode cX3_fallSick 11 = .ok (.invokestatic 54, 3) := by decide +kernel
theorem dX3_fallSick_14 : decode cX3_fallSick 14 = .ok (.istore_n 3, 1) := by decide +kernel
theorem dX3_fallSick_15 : decode cX3_fallSick 15 = .ok (.aload_n 0, 1) := by decide +kernel
theorem dX3_fallSick_16 : decode cX3_fallSick 16 = .ok (.getfield 15, 3) := by decide +kernel
theorem dX3_fallSick_19 : decode cX3_fallSick 19 = .ok (.istore 4, 2) := by decide +kernel
theorem dX3_fallSick_21 : decode cX3_fallSick 21 = .ok (.iload 4, 2) := by decide +kernel
theorem dX3_fallSick_23 : decode cX3_fallSick 23 = .ok (.iload_n 3, 1) := by decide +kernel
theorem dX3_fallSick_24 : decode cX3_fallSick 24 = .ok (.if_icmp .gt 28, 3) := by decide +kernel
theorem dX3_fallSick_27 : decode cX3_fallSick 27 = .ok (.aload_n 0, 1) := by decide +kernel
theorem dX3_fallSick_28 : decode cX3_fallSick 28 = .ok (.getfield 36, 3) := by decide +kernel
theorem dX3_fallSick_31 : decode cX3_fallSick 31 = .ok (.iload_n 1, 1) := by decide +kernel
theorem dX3_fallSick_32 : decode cX3_fallSick 32 = .ok (.iload 4, 2) := by decide +kernel
theorem dX3_fallSick_34 : decode cX3_fallSick 34 = .ok (.invokestatic 60, 3) := by decide +kernel
theorem dX3_fallSick_37 : decode cX3_fallSick 37 = .ok (.dup2, 1) := by decide +kernel
theorem dX3_fallSick_38 : decode cX3_fallSick 38 = .ok (.laload, 1) := by decide +kernel
theorem dX3_fallSick_39 : decode cX3_fallSick 39 = .ok (.iload 4, 2) := by decide +kernel
theorem dX3_fallSick_41 : decode cX3_fallSick 41 = .ok (.invokestatic 63, 3) := by decide +kernel
theorem dX3_fallSick_44 : decode cX3_fallSick 44 = .ok (.lor, 1) := by decide +kernel
theorem dX3_fallSick_45 : decode cX3_fallSick 45 = .ok (.lastore, 1) := by decide +kernel
theorem dX3_fallSick_46 : decode cX3_fallSick 46 = .ok (.iinc 4 1, 3) := by decide +kernel
theorem dX3_fallSick_49 : decode cX3_fallSick 49 = .ok (.goto (-28), 3) := by decide +kernel
theorem dX3_fallSick_52 : decode cX3_fallSick 52 = .ok (.return_, 1) := by decide +kernel
set_option maxRecDepth 20000 in
theorem ggX3_countSick_X3_wordOf : GoodIn wsX3_countSick wsX3_wordOf := goodIn_r _ [5] rfl (by decide +kernel)
set_option maxRecDepth 20000 in
theorem gX3_countSick_X3_wordOf : GoodIn wsX3_countSick (va_wsS RX3 60 yX3_wordOf wsX3_wordOf) := goodIn_app (goodIn_r _ [2, 3, 4] rfl (by decide +kernel)) ggX3_countSick_X3_wordOf
set_option maxRecDepth 20000 in
theorem ggX3_countSick_X3_dayBit : GoodIn wsX3_countSick wsX3_dayBit := goodIn_r _ [8] rfl (by decide +kernel)
set_option maxRecDepth 20000 in
theorem gX3_countSick_X3_dayBit : GoodIn wsX3_countSick (va_wsS RX3 63 yX3_dayBit wsX3_dayBit) := goodIn_app (goodIn_r _ [6, 7, 4] rfl (by decide +kernel)) ggX3_countSick_X3_dayBit
theorem dX3_countSick_0 : decode cX3_countSick 0 = .ok (.iconst 0, 1) := by decide +kernel
theorem dX3_countSick_1 : decode cX3_countSick 1 = .ok (.istore_n 3, 1) := by decide +kernel
theorem dX3_countSick_2 : decode cX3_countSick 2 = .ok (.iconst 0, 1) := by decide +kernel
theorem dX3_countSick_3 : decode cX3_countSick 3 = .ok (.istore 4, 2) := by decide +kernel
theorem dX3_countSick_5 : decode cX3_countSick 5 = .ok (.iload 4, 2) := by decide +kernel
theorem dX3_countSick_7 : decode cX3_countSick 7 = .ok (.iload_n 2, 1) := by decide +kernel
theorem dX3_countSick_8 : decode cX3_countSick 8 = .ok (.if_icmp .gt 34, 3) := by decide +kernel
theorem dX3_countSick_11 : decode cX3_countSick 11 = .ok (.aload_n 0, 1) := by decide +kernel
theorem dX3_countSick_12 : decode cX3_countSick 12 = .ok (.getfield 36, 3) := by decide +kernel
theorem dX3_countSick_15 : decode cX3_countSick 15 = .ok (.iload_n 1, 1) := by decide +kernel
theorem dX3_countSick_16 : decode cX3_countSick 16 = .ok (.iload 4, 2) := by decide +kernel
theorem dX3_countSick_18 : decode cX3_countSick 18 = .ok (.invokestatic 60, 3) := by decide +kernel
theorem dX3_countSick_21 : decode cX3_countSick 21 = .ok (.laload, 1) := by decide +kernel
theorem dX3_countSick_22 : decode cX3_countSick 22 = .ok (.iload 4, 2) := by decide +kernel
theorem dX3_countSick_24 : decode cX3_countSick 24 = .ok (.invokestatic 63, 3) := by decide +kernel
theorem dX3_countSick_27 : decode cX3_countSick 27 = .ok (.land, 1) := by decide +kernel
theorem dX3_countSick_28 : decode cX3_countSick 28 = .ok (.lconst 0, 1) := by decide +kernel
theorem dX3_countSick_29 : decode cX3_countSick 29 = .ok (.lcmp, 1) := by decide +kernel
theorem dX3_countSick_30 : decode cX3_countSick 30 = .ok (.ifCond .eq 6, 3) := by decide +kernel
theorem dX3_countSick_33 : decode cX3_countSick 33 = .ok (.iinc 3 1, 3) := by decide +kernel
theorem dX3_countSick_36 : decode cX3_countSick 36 = .ok (.iinc 4 1, 3) := by decide +kernel
theorem dX3_countSick_39 : decode cX3_countSick 39 = .ok (.goto (-34), 3) := by decide +kernel
theorem dX3_countSick_42 : decode cX3_countSick 42 = .ok (.iload_n 3, 1) := by decide +kernel
theorem dX3_countSick_43 : decode cX3_countSick 43 = .ok (.ireturn, 1) := by decide +kernel
theorem dX3_wordOf_0 : decode cX3_wordOf 0 = .ok (.iload_n 0, 1) := by decide +kernel
theorem dX3_wordOf_1 : decode cX3_wordOf 1 = .ok (.bipush 6, 2) := by decide +kernel
theorem dX3_wordOf_3 : decode cX3_wordOf 3 = .ok (.imul, 1) := by decide +kernel
theorem dX3_wordOf_4 : decode cX3_wordOf 4 = .ok (.iload_n 1, 1) := by decide +kernel
theorem dX3_wordOf_5 : decode cX3_wordOf 5 = .ok (.bipush 64, 2) := by decide +kernel
theorem dX3_wordOf_7 : decode cX3_wordOf 7 = .ok (.idiv, 1) := by decide +kernel
theorem dX3_wordOf_8 : decode cX3_wordOf 8 = .ok (.iadd, 1) := by decide +kernel
theorem dX3_wordOf_9 : decode cX3_wordOf 9 = .ok (.ireturn, 1) := by decide +kernel
theorem dX3_dayBit_0 : decode cX3_dayBit 0 = .ok (.lconst 1, 1) := by decide +kernel
theorem dX3_dayBit_1 : decode cX3_dayBit 1 = .ok (.iload_n 0, 1) := by decide +kernel
theorem dX3_dayBit_2 : decode cX3_dayBit 2 = .ok (.bipush 64, 2) := by decide +kernel
theorem dX3_dayBit_4 : decode cX3_dayBit 4 = .ok (.irem, 1) := by decide +kernel
theorem dX3_dayBit_5 : decode cX3_dayBit 5 = .ok (.lshl, 1) := by decide +kernel
theorem dX3_dayBit_6 : decode cX3_dayBit 6 = .ok (.lreturn, 1) := by decide +kernel
theorem dX3_giveWarning_0 : decode cX3_giveWarning 0 = .ok (.aload_n 0, 1) := by decide +kernel
theorem dX3_giveWarning_1 : decode cX3_giveWarning 1 = .ok (.getfield 29, 3) := by decide +kernel
theorem dX3_giveWarning_4 : decode cX3_giveWarning 4 = .ok (.iload_n 1, 1) := by decide +kernel
theorem dX3_giveWarning_5 : decode cX3_giveWarning 5 = .ok (.iconst 1, 1) := by decide +kernel
theorem dX3_giveWarning_6 : decode cX3_giveWarning 6 = .ok (.bastore, 1) := by decide +kernel
theorem dX3_giveWarning_7 : decode cX3_giveWarning 7 = .ok (.aload_n 0, 1) := by decide +kernel
theorem dX3_giveWarning_8 : decode cX3_giveWarning 8 = .ok (.getfield 19, 3) := by decide +kernel
theorem dX3_giveWarning_11 : decode cX3_giveWarning 11 = .ok (.iload_n 1, 1) := by decide +kernel
theorem dX3_giveWarning_12 : decode cX3_giveWarning 12 = .ok (.aload_n 0, 1) := by decide +kernel
theorem dX3_giveWarning_13 : decode cX3_giveWarning 13 = .ok (.getfield 15, 3) := by decide +kernel
theorem dX3_giveWarning_16 : decode cX3_giveWarning 16 = .ok (.bipush 27, 2) := by decide +kernel
theorem dX3_giveWarning_18 : decode cX3_giveWarning 18 = .ok (.iadd, 1) := by decide +kernel
theorem dX3_giveWarning_19 : decode cX3_giveWarning 19 = .ok (.sipush 363, 3) := by decide +kernel
theorem dX3_giveWarning_22 : decode cX3_giveWarning 22 = .ok (.invokestatic 54, 3) := by decide +kernel
theorem dX3_giveWarning_25 : decode cX3_giveWarning 25 = .ok (.iastore, 1) := by decide +kernel
theorem dX3_giveWarning_26 : decode cX3_giveWarning 26 = .ok (.aload_n 0, 1) := by decide +kernel
theorem dX3_giveWarning_27 : decode cX3_giveWarning 27 = .ok (.getfield 19, 3) := by decide +kernel
theorem dX3_giveWarning_30 : decode cX3_giveWarning 30 = .ok (.iload_n 1, 1) := by decide +kernel
theorem dX3_giveWarning_31 : decode cX3_giveWarning 31 = .ok (.iaload, 1) := by decide +kernel
theorem dX3_giveWarning_32 : decode cX3_giveWarning 32 = .ok (.ireturn, 1) := by decide +kernel
theorem dX3_leave_0 : decode cX3_leave 0 = .ok (.aload_n 0, 1) := by decide +kernel
theorem dX3_leave_1 : decode cX3_leave 1 = .ok (.getfield 19, 3) := by decide +kernel
theorem dX3_leave_4 : decode cX3_leave 4 = .ok (.iload_n 1, 1) := by decide +kernel
theorem dX3_leave_5 : decode cX3_leave 5 = .ok (.aload_n 0, 1) := by decide +kernel
theorem dX3_leave_6 : decode cX3_leave 6 = .ok (.getfield 15, 3) := by decide +kernel
theorem dX3_leave_9 : decode cX3_leave 9 = .ok (.iconst 1, 1) := by decide +kernel
theorem dX3_leave_10 : decode cX3_leave 10 = .ok (.isub, 1) := by decide +kernel
theorem dX3_leave_11 : decode cX3_leave 11 = .ok (.iastore, 1) := by decide +kernel
theorem dX3_leave_12 : decode cX3_leave 12 = .ok (.aload_n 0, 1) := by decide +kernel
theorem dX3_leave_13 : decode cX3_leave 13 = .ok (.getfield 19, 3) := by decide +kernel
theorem dX3_leave_16 : decode cX3_leave 16 = .ok (.iload_n 1, 1) := by decide +kernel
theorem dX3_leave_17 : decode cX3_leave 17 = .ok (.iaload, 1) := by decide +kernel
theorem dX3_leave_18 : decode cX3_leave 18 = .ok (.ireturn, 1) := by decide +kernel
set_option maxRecDepth 20000 in
theorem ggX3_wagesDue_X3_countSick : GoodIn wsX3_wagesDue wsX3_countSick := goodIn_r _ [13, 14, 15, 16, 12, 17, 18, 19, 20, 21, 22, 23, 24, 25, 26] rfl (by decide +kernel)
set_option maxRecDepth 20000 in
theorem gX3_wagesDue_X3_countSick : GoodIn wsX3_wagesDue (wsV RX3 67 RX3 yX3_countSick wsX3_countSick) := goodIn_app (goodIn_r _ [9, 10, 11, 12] rfl (by decide +kernel)) ggX3_wagesDue_X3_countSick
theorem dX3_wagesDue_0 : decode cX3_wagesDue 0 = .ok (.aload_n 0, 1) := by decide +kernel
theorem dX3_wagesDue_1 : decode cX3_wagesDue 1 = .ok (.getfield 33, 3) := by decide +kernel
theorem dX3_wagesDue_4 : decode cX3_wagesDue 4 = .ok (.iload_n 1, 1) := by decide +kernel
theorem dX3_wagesDue_5 : decode cX3_wagesDue 5 = .ok (.baload, 1) := by decide +kernel
theorem dX3_wagesDue_6 : decode cX3_wagesDue 6 = .ok (.ifCond .eq 5, 3) := by decide +kernel
theorem dX3_wagesDue_9 : decode cX3_wagesDue 9 = .ok (.iconst 0, 1) := by decide +kernel
theorem dX3_wagesDue_10 : decode cX3_wagesDue 10 = .ok (.ireturn, 1) := by decide +kernel
theorem dX3_wagesDue_11 : decode cX3_wagesDue 11 = .ok (.iload_n 2, 1) := by decide +kernel
theorem dX3_wagesDue_12 : decode cX3_wagesDue 12 = .ok (.aload_n 0, 1) := by decide +kernel
theorem dX3_wagesDue_13 : decode cX3_wagesDue 13 = .ok (.getfield 19, 3) := by decide +kernel
theorem dX3_wagesDue_16 : decode cX3_wagesDue 16 = .ok (.iload_n 1, 1) := by decide +kernel
theorem dX3_wagesDue_17 : decode cX3_wagesDue 17 = .ok (.iaload, 1) := by decide +kernel
theorem dX3_wagesDue_18 : decode cX3_wagesDue 18 = .ok (.invokestatic 54, 3) := by decide +kernel
theorem dX3_wagesDue_21 : decode cX3_wagesDue 21 = .ok (.istore_n 3, 1) := by decide +kernel
theorem dX3_wagesDue_22 : decode cX3_wagesDue 22 = .ok (.iconst 2, 1) := by decide +kernel
theorem dX3_wagesDue_23 : decode cX3_wagesDue 23 = .ok (.iload_n 3, 1) := by decide +kernel
theorem dX3_wagesDue_24 : decode cX3_wagesDue 24 = .ok (.iconst 1, 1) := by decide +kernel
theorem dX3_wagesDue_25 : decode cX3_wagesDue 25 = .ok (.iadd, 1) := by decide +kernel
theorem dX3_wagesDue_26 : decode cX3_wagesDue 26 = .ok (.imul, 1) := by decide +kernel
theorem dX3_wagesDue_27 : decode cX3_wagesDue 27 = .ok (.aload_n 0, 1) := by decide +kernel
theorem dX3_wagesDue_28 : decode cX3_wagesDue 28 = .ok (.iload_n 1, 1) := by decide +kernel
theorem dX3_wagesDue_29 : decode cX3_wagesDue 29 = .ok (.iload_n 3, 1) := by decide +kernel
theorem dX3_wagesDue_30 : decode cX3_wagesDue 30 = .ok (.invokevirtual 67, 3) := by decide +kernel
theorem dX3_wagesDue_33 : decode cX3_wagesDue 33 = .ok (.isub, 1) := by decide +kernel
theorem dX3_wagesDue_34 : decode cX3_wagesDue 34 = .ok (.istore 4, 2) := by decide +kernel
theorem dX3_wagesDue_36 : decode cX3_wagesDue 36 = .ok (.bipush 12, 2) := by decide +kernel
theorem dX3_wagesDue_38 : decode cX3_wagesDue 38 = .ok (.aload_n 0, 1) := by decide +kernel
theorem dX3_wagesDue_39 : decode cX3_wagesDue 39 = .ok (.getfield 9, 3) := by decide +kernel
theorem dX3_wagesDue_42 : decode cX3_wagesDue 42 = .ok (.getfield 70, 3) := by decide +kernel
theorem dX3_wagesDue_45 : decode cX3_wagesDue 45 = .ok (.iload_n 1, 1) := by decide +kernel
theorem dX3_wagesDue_46 : decode cX3_wagesDue 46 = .ok (.iaload, 1) := by decide +kernel
theorem dX3_wagesDue_47 : decode cX3_wagesDue 47 = .ok (.imul, 1) := by decide +kernel
theorem dX3_wagesDue_48 : decode cX3_wagesDue 48 = .ok (.iload 4, 2) := by decide +kernel
theorem dX3_wagesDue_50 : decode cX3_wagesDue 50 = .ok (.imul, 1) := by decide +kernel
theorem dX3_wagesDue_51 : decode cX3_wagesDue 51 = .ok (.sipush 728, 3) := by decide +kernel
theorem dX3_wagesDue_54 : decode cX3_wagesDue 54 = .ok (.idiv, 1) := by decide +kernel
theorem dX3_wagesDue_55 : decode cX3_wagesDue 55 = .ok (.ireturn, 1) := by decide +kernel
end
section
set_option maxRecDepth 20000 in
theorem ggX4_init_X2_init : GoodIn wsX4_init wsX2_init := goodIn_r _ [23, 24, 2, 3, 25, 26, 27, 28, 29, 30, 31, 32, 33, 78, 79, 80, 81, 82, 83, 84, 85, 86] rfl (by decide +kernel)
set_option maxRecDepth 20000 in
theorem gX4_init_X2_init : GoodIn wsX4_init (wsX2_init) := ggX4_init_X2_init
set_option maxRecDepth 20000 in
theorem ggX4_init_X1_init : GoodIn wsX4_init wsX1_init := goodIn_r _ [36, 37, 2, 3, 38, 39, 40, 41, 42, 25, 43, 100, 101, 102] rfl (by decide +kernel)
set_option maxRecDepth 20000 in
theorem gX4_init_X1_init : GoodIn wsX4_init (wsX1_init) := ggX4_init_X1_init
set_option maxRecDepth 20000 in
theorem ggX4_init_X0_init : GoodIn wsX4_init wsX0_init := goodIn_r _ [46, 47, 2, 3, 48, 49, 25, 50, 51, 52, 53, 54, 55, 56, 57, 10, 58, 59, 60, 61, 62, 63, 64, 92, 93, 94, 95, 96, 97, 98, 99, 100, 101, 102] rfl (by decide +kernel)
set_option maxRecDepth 20000 in
theorem gX4_init_X0_init : GoodIn wsX4_init (wsX0_init) := ggX4_init_X0_init
set_option maxRecDepth 20000 in
theorem ggX4_init_X3_init : GoodIn wsX4_init wsX3_init := goodIn_r _ [67, 68, 2, 3, 69, 70, 25, 71, 72, 73, 74, 75, 76, 77, 62, 63, 64, 103, 104, 105, 106, 107, 108] rfl (by decide +kernel)
set_option maxRecDepth 20000 in
theorem gX4_init_X3_init : GoodIn wsX4_init (wsX3_init) := ggX4_init_X3_init
theorem dX4_init_0 : decode cX4_init 0 = .ok (.aload_n 0, 1) := by decide +kernel
theorem dX4_init_1 : decode cX4_init 1 = .ok (.invokespecial 3, 3) := by decide +kernel
theorem dX4_init_4 : decode cX4_init 4 = .ok (.aload_n 0, 1) := by decide +kernel
theorem dX4_init_5 : decode cX4_init 5 = .ok (.new 9, 3) := by decide +kernel
theorem dX4_init_8 : decode cX4_init 8 = .ok (.dup, 1) := by decide +kernel
theorem dX4_init_9 : decode cX4_init 9 = .ok (.invokespecial 11, 3) := by decide +kernel
theorem dX4_init_12 : decode cX4_init 12 = .ok (.putfield 12, 3) := by decide +kernel
theorem dX4_init_15 : decode cX4_init 15 = .ok (.aload_n 0, 1) := by decide +kernel
theorem dX4_init_16 : decode cX4_init 16 = .ok (.new 16, 3) := by decide +kernel
theorem dX4_init_19 : decode cX4_init 19 = .ok (.dup, 1) := by decide +kernel
theorem dX4_init_20 : decode cX4_init 20 = .ok (.aload_n 0, 1) := by decide +kernel
theorem dX4_init_21 : decode cX4_init 21 = .ok (.getfield 12, 3) := by decide +kernel
theorem dX4_init_24 : decode cX4_init 24 = .ok (.new 18, 3) := by decide +kernel
theorem dX4_init_27 : decode cX4_init 27 = .ok (.dup, 1) := by decide +kernel
theorem dX4_init_28 : decode cX4_init 28 = .ok (.bipush 100, 2) := by decide +kernel
theorem dX4_init_30 : decode cX4_init 30 = .ok (.invokespecial 20, 3) := by decide +kernel
theorem dX4_init_33 : decode cX4_init 33 = .ok (.invokespecial 23, 3) := by decide +kernel
theorem dX4_init_36 : decode cX4_init 36 = .ok (.putfield 26, 3) := by decide +kernel
theorem dX4_init_39 : decode cX4_init 39 = .ok (.aload_n 0, 1) := by decide +kernel
theorem dX4_init_40 : decode cX4_init 40 = .ok (.new 16, 3) := by decide +kernel
theorem dX4_init_43 : decode cX4_init 43 = .ok (.dup, 1) := by decide +kernel
theorem dX4_init_44 : decode cX4_init 44 = .ok (.aload_n 0, 1) := by decide +kernel
theorem dX4_init_45 : decode cX4_init 45 = .ok (.getfield 12, 3) := by decide +kernel
theorem dX4_init_48 : decode cX4_init 48 = .ok (.new 18, 3) := by decide +kernel
theorem dX4_init_51 : decode cX4_init 51 = .ok (.dup, 1) := by decide +kernel
theorem dX4_init_52 : decode cX4_init 52 = .ok (.iconst 0, 1) := by decide +kernel
theorem dX4_init_53 : decode cX4_init 53 = .ok (.invokespecial 20, 3) := by decide +kernel
theorem dX4_init_56 : decode cX4_init 56 = .ok (.invokespecial 23, 3) := by decide +kernel
theorem dX4_init_59 : decode cX4_init 59 = .ok (.putfield 30, 3) := by decide +kernel
theorem dX4_init_62 : decode cX4_init 62 = .ok (.aload_n 0, 1) := by decide +kernel
theorem dX4_init_63 : decode cX4_init 63 = .ok (.new 33, 3) := by decide +kernel
theorem dX4_init_66 : decode cX4_init 66 = .ok (.dup, 1) := by decide +kernel
theorem dX4_init_67 : decode cX4_init 67 = .ok (.aload_n 0, 1) := by decide +kernel
theorem dX4_init_68 : decode cX4_init 68 = .ok (.getfield 26, 3) := by decide +kernel
theorem dX4_init_71 : decode cX4_init 71 = .ok (.invokespecial 35, 3) := by decide +kernel
theorem dX4_init_74 : decode cX4_init 74 = .ok (.putfield 38, 3) := by decide +kernel
theorem dX4_init_77 : decode cX4_init 77 = .ok (.aload_n 0, 1) := by decide +kernel
theorem dX4_init_78 : decode cX4_init 78 = .ok (.iconst 0, 1) := by decide +kernel
theorem dX4_init_79 : decode cX4_init 79 = .ok (.putfield 42, 3) := by decide +kernel
theorem dX4_init_82 : decode cX4_init 82 = .ok (.return_, 1) := by decide +kernel
set_option maxRecDepth 20000 in
theorem ggX4_servant_X4_isKind : GoodIn wsX4_servant wsX4_isKind := goodIn_r _ [6, 7, 8, 5, 9] rfl (by decide +kernel)
set_option maxRecDepth 20000 in
theorem gX4_servant_X4_isKind : GoodIn wsX4_servant (va_wsS RX4 46 yX4_isKind wsX4_isKind) := goodIn_app (goodIn_r _ [3, 4, 5] rfl (by decide +kernel)) ggX4_servant_X4_isKind
set_option maxRecDepth 20000 in
theorem ggX4_servant_X4_isWithin : GoodIn wsX4_servant wsX4_isWithin := goodIn_r _ [9] rfl (by decide +kernel)
set_option maxRecDepth 20000 in
theorem gX4_servant_X4_isWithin : GoodIn wsX4_servant (va_wsS RX4 50 yX4_isWithin wsX4_isWithin) := goodIn_app (goodIn_r _ [7, 8, 5] rfl (by decide +kernel)) ggX4_servant_X4_isWithin
set_option maxRecDepth 20000 in
theorem ggX4_servant_X3_hasBegun : GoodIn wsX4_servant wsX3_hasBegun := goodIn_r _ [14, 15, 30, 31, 32, 33, 34, 35] rfl (by decide +kernel)
set_option maxRecDepth 20000 in
theorem gX4_servant_X3_hasBegun : GoodIn wsX4_servant (wsV RX4 54 RX3 yX3_hasBegun wsX3_hasBegun) := goodIn_app (goodIn_r _ [10, 11, 12, 13] rfl (by decide +kernel)) ggX4_servant_X3_hasBegun
set_option maxRecDepth 20000 in
theorem ggX4_servant_X2_addServant : GoodIn wsX4_servant wsX2_addServant := goodIn_r _ [20, 21, 22, 23, 24, 36, 37, 38, 39, 40, 41, 42, 43, 44] rfl (by decide +kernel)
set_option maxRecDepth 20000 in
theorem gX4_servant_X2_addServant : GoodIn wsX4_servant (wsV RX4 58 RX2 yX2_addServant wsX2_addServant) := goodIn_app (goodIn_r _ [16, 17, 18, 19] rfl (by decide +kernel)) ggX4_servant_X2_addServant
theorem dX4_servant_0 : decode cX4_servant 0 = .ok (.iload_n 1, 1) := by decide +kernel
theorem dX4_servant_1 : decode cX4_servant 1 = .ok (.invokestatic 46, 3) := by decide +kernel
theorem dX4_servant_4 : decode cX4_servant 4 = .ok (.ifCond .eq 23, 3) := by decide +kernel
theorem dX4_servant_7 : decode cX4_servant 7 = .ok (.iload_n 2, 1) := by decide +kernel
theorem dX4_servant_8 : decode cX4_servant 8 = .ok (.iconst 1, 1) := by decide +kernel
theorem dX4_servant_9 : decode cX4_servant 9 = .ok (.bipush 9, 2) := by decide +kernel
theorem dX4_servant_11 : decode cX4_servant 11 = .ok (.invokestatic 50, 3) := by decide +kernel
theorem dX4_servant_14 : decode cX4_servant 14 = .ok (.ifCond .eq 13, 3) := by decide +kernel
theorem dX4_servant_17 : decode cX4_servant 17 = .ok (.iload_n 3, 1) := by decide +kernel
theorem dX4_servant_18 : decode cX4_servant 18 = .ok (.iconst 1, 1) := by decide +kernel
theorem dX4_servant_19 : decode cX4_servant 19 = .ok (.bipush 60, 2) := by decide +kernel
theorem dX4_servant_21 : decode cX4_servant 21 = .ok (.invokestatic 50, 3) := by decide +kernel
theorem dX4_servant_24 : decode cX4_servant 24 = .ok (.ifCond .ne 6, 3) := by decide +kernel
theorem dX4_servant_27 : decode cX4_servant 27 = .ok (.bipush (-2), 2) := by decide +kernel
theorem dX4_servant_29 : decode cX4_servant 29 = .ok (.ireturn, 1) := by decide +kernel
theorem dX4_servant_30 : decode cX4_servant 30 = .ok (.aload_n 0, 1) := by decide +kernel
theorem dX4_servant_31 : decode cX4_servant 31 = .ok (.getfield 38, 3) := by decide +kernel
theorem dX4_servant_34 : decode cX4_servant 34 = .ok (.invokevirtual 54, 3) := by decide +kernel
theorem dX4_servant_37 : decode cX4_servant 37 = .ok (.ifCond .eq 6, 3) := by decide +kernel
theorem dX4_servant_40 : decode cX4_servant 40 = .ok (.bipush (-3), 2) := by decide +kernel
theorem dX4_servant_42 : decode cX4_servant 42 = .ok (.ireturn, 1) := by decide +kernel
theorem dX4_servant_43 : decode cX4_servant 43 = .ok (.aload_n 0, 1) := by decide +kernel
theorem dX4_servant_44 : decode cX4_servant 44 = .ok (.getfield 12, 3) := by decide +kernel
theorem dX4_servant_47 : decode cX4_servant 47 = .ok (.iload_n 1, 1) := by decide +kernel
theorem dX4_servant_48 : decode cX4_servant 48 = .ok (.iload_n 2, 1) := by decide +kernel
theorem dX4_servant_49 : decode cX4_servant 49 = .ok (.iload_n 3, 1) := by decide +kernel
theorem dX4_servant_50 : decode cX4_servant 50 = .ok (.invokevirtual 58, 3) := by decide +kernel
theorem dX4_servant_53 : decode cX4_servant 53 = .ok (.ireturn, 1) := by decide +kernel
set_option maxRecDepth 20000 in
theorem ggX4_master_X4_isKind : GoodIn wsX4_master wsX4_isKind := goodIn_r _ [6, 7, 8, 5, 9] rfl (by decide +kernel)
set_option maxRecDepth 20000 in
theorem gX4_master_X4_isKind : GoodIn wsX4_master (va_wsS RX4 46 yX4_isKind wsX4_isKind) := goodIn_app (goodIn_r _ [3, 4, 5] rfl (by decide +kernel)) ggX4_master_X4_isKind
set_option maxRecDepth 20000 in
theorem ggX4_master_X4_isWithin : GoodIn wsX4_master wsX4_isWithin := goodIn_r _ [9] rfl (by decide +kernel)
set_option maxRecDepth 20000 in
theorem gX4_master_X4_isWithin : GoodIn wsX4_master (va_wsS RX4 50 yX4_isWithin wsX4_isWithin) := goodIn_app (goodIn_r _ [7, 8, 5] rfl (by decide +kernel)) ggX4_master_X4_isWithin
set_option maxRecDepth 20000 in
theorem ggX4_master_X3_hasBegun : GoodIn wsX4_master wsX3_hasBegun := goodIn_r _ [14, 15, 29, 30, 31, 32, 33, 34] rfl (by decide +kernel)
set_option maxRecDepth 20000 in
theorem gX4_master_X3_hasBegun : GoodIn wsX4_master (wsV RX4 54 RX3 yX3_hasBegun wsX3_hasBegun) := goodIn_app (goodIn_r _ [10, 11, 12, 13] rfl (by decide +kernel)) ggX4_master_X3_hasBegun
set_option maxRecDepth 20000 in
theorem ggX4_master_X2_addMaster : GoodIn wsX4_master wsX2_addMaster := goodIn_r _ [20, 21, 22, 23, 35, 36, 37, 38, 39, 40, 41, 42, 43] rfl (by decide +kernel)
set_option maxRecDepth 20000 in
theorem gX4_master_X2_addMaster : GoodIn wsX4_master (wsV RX4 62 RX2 yX2_addMaster wsX2_addMaster) := goodIn_app (goodIn_r _ [16, 17, 18, 19] rfl (by decide +kernel)) ggX4_master_X2_addMaster
theorem dX4_master_0 : decode cX4_master 0 = .ok (.iload_n 1, 1) := by decide +kernel
theorem dX4_master_1 : decode cX4_master 1 = .ok (.invokestatic 46, 3) := by decide +kernel
theorem dX4_master_4 : decode cX4_master 4 = .ok (.ifCond .eq 13, 3) := by decide +kernel
theorem dX4_master_7 : decode cX4_master 7 = .ok (.iload_n 2, 1) := by decide +kernel
theorem dX4_master_8 : decode cX4_master 8 = .ok (.iconst 1, 1) := by decide +kernel
theorem dX4_master_9 : decode cX4_master 9 = .ok (.bipush 90, 2) := by decide +kernel
theorem dX4_master_11 : decode cX4_master 11 = .ok (.invokestatic 50, 3) := by decide +kernel
theorem dX4_master_14 : decode cX4_master 14 = .ok (.ifCond .ne 6, 3) := by decide +kernel
theorem dX4_master_17 : decode cX4_master 17 = .ok (.bipush (-2), 2) := by decide +kernel
theorem dX4_master_19 : decode cX4_master 19 = .ok (.ireturn, 1) := by decide +kernel
theorem dX4_master_20 : decode cX4_master 20 = .ok (.aload_n 0, 1) := by decide +kernel
theorem dX4_master_21 : decode cX4_master 21 = .ok (.getfield 38, 3) := by decide +kernel
theorem dX4_master_24 : decode cX4_master 24 = .ok (.invokevirtual 54, 3) := by decide +kernel
theorem dX4_master_27 : decode cX4_master 27 = .ok (.ifCond .eq 6, 3) := by decide +kernel
theorem dX4_master_30 : decode cX4_master 30 = .ok (.bipush (-3), 2) := by decide +kernel
theorem dX4_master_32 : decode cX4_master 32 = .ok (.ireturn, 1) := by decide +kernel
theorem dX4_master_33 : decode cX4_master 33 = .ok (.aload_n 0, 1) := by decide +kernel
theorem dX4_master_34 : decode cX4_master 34 = .ok (.getfield 12, 3) := by decide +kernel
theorem dX4_master_37 : decode cX4_master 37 = .ok (.iload_n 1, 1) := by decide +kernel
theorem dX4_master_38 : decode cX4_master 38 = .ok (.iload_n 2, 1) := by decide +kernel
theorem dX4_master_39 : decode cX4_master 39 = .ok (.invokevirtual 62, 3) := by decide +kernel
theorem dX4_master_42 : decode cX4_master 42 = .ok (.ireturn, 1) := by decide +kernel
set_option maxRecDepth 20000 in
theorem ggX4_bar_X2_hasBoth : GoodIn wsX4_bar wsX2_hasBoth := goodIn_r _ [6, 7, 8, 9, 5, 10, 11, 12, 13, 14, 15, 16, 31, 32, 33, 34, 35, 36, 37, 38, 39] rfl (by decide +kernel)
set_option maxRecDepth 20000 in
theorem gX4_bar_X2_hasBoth : GoodIn wsX4_bar (wsV RX4 66 RX2 yX2_hasBoth wsX2_hasBoth) := goodIn_app (goodIn_r _ [2, 3, 4, 5] rfl (by decide +kernel)) ggX4_bar_X2_hasBoth
set_option maxRecDepth 20000 in
theorem ggX4_bar_X2_isBarred : GoodIn wsX4_bar wsX2_isBarred := goodIn_r _ [20, 21, 31, 32, 33, 34, 35, 36, 37, 38, 39] rfl (by decide +kernel)
set_option maxRecDepth 20000 in
theorem gX4_bar_X2_isBarred : GoodIn wsX4_bar (wsV RX4 70 RX2 yX2_isBarred wsX2_isBarred) := goodIn_app (goodIn_r _ [17, 18, 19, 5] rfl (by decide +kernel)) ggX4_bar_X2_isBarred
set_option maxRecDepth 20000 in
theorem ggX4_bar_X2_setBar : GoodIn wsX4_bar wsX2_setBar := goodIn_r _ [25, 21, 31, 32, 33, 34, 35, 36, 37, 38, 39] rfl (by decide +kernel)
set_option maxRecDepth 20000 in
theorem gX4_bar_X2_setBar : GoodIn wsX4_bar (wsV RX4 73 RX2 yX2_setBar wsX2_setBar) := goodIn_app (goodIn_r _ [22, 23, 24, 5] rfl (by decide +kernel)) ggX4_bar_X2_setBar
theorem dX4_bar_0 : decode cX4_bar 0 = .ok (.aload_n 0, 1) := by decide +kernel
theorem dX4_bar_1 : decode cX4_bar 1 = .ok (.getfield 12, 3) := by decide +kernel
theorem dX4_bar_4 : decode cX4_bar 4 = .ok (.iload_n 2, 1) := by decide +kernel
theorem dX4_bar_5 : decode cX4_bar 5 = .ok (.iload_n 1, 1) := by decide +kernel
theorem dX4_bar_6 : decode cX4_bar 6 = .ok (.invokevirtual 66, 3) := by decide +kernel
theorem dX4_bar_9 : decode cX4_bar 9 = .ok (.ifCond .ne 5, 3) := by decide +kernel
theorem dX4_bar_12 : decode cX4_bar 12 = .ok (.iconst (-1), 1) := by decide +kernel
theorem dX4_bar_13 : decode cX4_bar 13 = .ok (.ireturn, 1) := by decide +kernel
theorem dX4_bar_14 : decode cX4_bar 14 = .ok (.aload_n 0, 1) := by decide +kernel
theorem dX4_bar_15 : decode cX4_bar 15 = .ok (.getfield 12, 3) := by decide +kernel
theorem dX4_bar_18 : decode cX4_bar 18 = .ok (.iload_n 2, 1) := by decide +kernel
theorem dX4_bar_19 : decode cX4_bar 19 = .ok (.iload_n 1, 1) := by decide +kernel
theorem dX4_bar_20 : decode cX4_bar 20 = .ok (.invokevirtual 70, 3) := by decide +kernel
theorem dX4_bar_23 : decode cX4_bar 23 = .ok (.ifCond .eq 7, 3) := by decide +kernel
theorem dX4_bar_26 : decode cX4_bar 26 = .ok (.iconst 1, 1) := by decide +kernel
theorem dX4_bar_27 : decode cX4_bar 27 = .ok (.goto 4, 3) := by decide +kernel
theorem dX4_bar_30 : decode cX4_bar 30 = .ok (.iconst 0, 1) := by decide +kernel
theorem dX4_bar_31 : decode cX4_bar 31 = .ok (.istore 4, 2) := by decide +kernel
theorem dX4_bar_33 : decode cX4_bar 33 = .ok (.aload_n 0, 1) := by decide +kernel
theorem dX4_bar_34 : decode cX4_bar 34 = .ok (.getfield 12, 3) := by decide +kernel
theorem dX4_bar_37 : decode cX4_bar 37 = .ok (.iload_n 2, 1) := by decide +kernel
theorem dX4_bar_38 : decode cX4_bar 38 = .ok (.iload_n 1, 1) := by decide +kernel
theorem dX4_bar_39 : decode cX4_bar 39 = .ok (.iload_n 3, 1) := by decide +kernel
theorem dX4_bar_40 : decode cX4_bar 40 = .ok (.invokevirtual 73, 3) := by decide +kernel
theorem dX4_bar_43 : decode cX4_bar 43 = .ok (.iload 4, 2) := by decide +kernel
theorem dX4_bar_45 : decode cX4_bar 45 = .ok (.ireturn, 1) := by decide +kernel
set_option maxRecDepth 20000 in
theorem ggX4_hear_X2_hasBoth : GoodIn wsX4_hear wsX2_hasBoth := goodIn_r _ [6, 7, 8, 9, 5, 10, 11, 12, 13, 14, 15, 16, 35, 36, 37, 38, 39, 40, 41, 42, 43] rfl (by decide +kernel)
set_option maxRecDepth 20000 in
theorem gX4_hear_X2_hasBoth : GoodIn wsX4_hear (wsV RX4 66 RX2 yX2_hasBoth wsX2_hasBoth) := goodIn_app (goodIn_r _ [2, 3, 4, 5] rfl (by decide +kernel)) ggX4_hear_X2_hasBoth
set_option maxRecDepth 20000 in
theorem ggX4_hear_X4_isWithin : GoodIn wsX4_hear wsX4_isWithin := goodIn_r _ [20] rfl (by decide +kernel)
set_option maxRecDepth 20000 in
theorem gX4_hear_X4_isWithin : GoodIn wsX4_hear (va_wsS RX4 50 yX4_isWithin wsX4_isWithin) := goodIn_app (goodIn_r _ [17, 18, 19] rfl (by decide +kernel)) ggX4_hear_X4_isWithin
set_option maxRecDepth 20000 in
theorem ggX4_hear_X2_heldFor : GoodIn wsX4_hear wsX2_heldFor := goodIn_r _ [24, 25, 35, 36, 37, 38, 39, 40, 41, 42, 43] rfl (by decide +kernel)
set_option maxRecDepth 20000 in
theorem gX4_hear_X2_heldFor : GoodIn wsX4_hear (wsV RX4 77 RX2 yX2_heldFor wsX2_heldFor) := goodIn_app (goodIn_r _ [21, 22, 23, 5] rfl (by decide +kernel)) ggX4_hear_X2_heldFor
set_option maxRecDepth 20000 in
theorem ggX4_hear_X2_tell : GoodIn wsX4_hear wsX2_tell := goodIn_r _ [29, 25, 35, 36, 37, 38, 39, 40, 41, 42, 43] rfl (by decide +kernel)
set_option maxRecDepth 20000 in
theorem gX4_hear_X2_tell : GoodIn wsX4_hear (wsV RX4 80 RX2 yX2_tell wsX2_tell) := goodIn_app (goodIn_r _ [26, 27, 28, 5] rfl (by decide +kernel)) ggX4_hear_X2_tell
theorem dX4_hear_0 : decode cX4_hear 0 = .ok (.aload_n 0, 1) := by decide +kernel
theorem dX4_hear_1 : decode cX4_hear 1 = .ok (.getfield 12, 3) := by decide +kernel
theorem dX4_hear_4 : decode cX4_hear 4 = .ok (.iload_n 1, 1) := by decide +kernel
theorem dX4_hear_5 : decode cX4_hear 5 = .ok (.iload_n 2, 1) := by decide +kernel
theorem dX4_hear_6 : decode cX4_hear 6 = .ok (.invokevirtual 66, 3) := by decide +kernel
theorem dX4_hear_9 : decode cX4_hear 9 = .ok (.ifCond .ne 5, 3) := by decide +kernel
theorem dX4_hear_12 : decode cX4_hear 12 = .ok (.iconst (-1), 1) := by decide +kernel
theorem dX4_hear_13 : decode cX4_hear 13 = .ok (.ireturn, 1) := by decide +kernel
theorem dX4_hear_14 : decode cX4_hear 14 = .ok (.iload_n 3, 1) := by decide +kernel
theorem dX4_hear_15 : decode cX4_hear 15 = .ok (.iconst 1, 1) := by decide +kernel
theorem dX4_hear_16 : decode cX4_hear 16 = .ok (.bipush 9, 2) := by decide +kernel
theorem dX4_hear_18 : decode cX4_hear 18 = .ok (.invokestatic 50, 3) := by decide +kernel
theorem dX4_hear_21 : decode cX4_hear 21 = .ok (.ifCond .ne 6, 3) := by decide +kernel
theorem dX4_hear_24 : decode cX4_hear 24 = .ok (.bipush (-2), 2) := by decide +kernel
theorem dX4_hear_26 : decode cX4_hear 26 = .ok (.ireturn, 1) := by decide +kernel
theorem dX4_hear_27 : decode cX4_hear 27 = .ok (.aload_n 0, 1) := by decide +kernel
theorem dX4_hear_28 : decode cX4_hear 28 = .ok (.getfield 12, 3) := by decide +kernel
theorem dX4_hear_31 : decode cX4_hear 31 = .ok (.iload_n 1, 1) := by decide +kernel
theorem dX4_hear_32 : decode cX4_hear 32 = .ok (.iload_n 2, 1) := by decide +kernel
theorem dX4_hear_33 : decode cX4_hear 33 = .ok (.invokevirtual 77, 3) := by decide +kernel
theorem dX4_hear_36 : decode cX4_hear 36 = .ok (.istore 4, 2) := by decide +kernel
theorem dX4_hear_38 : decode cX4_hear 38 = .ok (.aload_n 0, 1) := by decide +kernel
theorem dX4_hear_39 : decode cX4_hear 39 = .ok (.getfield 12, 3) := by decide +kernel
theorem dX4_hear_42 : decode cX4_hear 42 = .ok (.iload_n 1, 1) := by decide +kernel
theorem dX4_hear_43 : decode cX4_hear 43 = .ok (.iload_n 2, 1) := by decide +kernel
theorem dX4_hear_44 : decode cX4_hear 44 = .ok (.iload_n 3, 1) := by decide +kernel
theorem dX4_hear_45 : decode cX4_hear 45 = .ok (.invokevirtual 80, 3) := by decide +kernel
theorem dX4_hear_48 : decode cX4_hear 48 = .ok (.iload 4, 2) := by decide +kernel
theorem dX4_hear_50 : decode cX4_hear 50 = .ok (.ireturn, 1) := by decide +kernel
set_option maxRecDepth 20000 in
theorem ggX4_pass_X2_hasBoth : GoodIn wsX4_pass wsX2_hasBoth := goodIn_r _ [6, 7, 8, 9, 5, 10, 11, 12, 13, 14, 15, 16, 36, 37, 38, 39, 40, 41, 42, 43, 44] rfl (by decide +kernel)
set_option maxRecDepth 20000 in
theorem gX4_pass_X2_hasBoth : GoodIn wsX4_pass (wsV RX4 66 RX2 yX2_hasBoth wsX2_hasBoth) := goodIn_app (goodIn_r _ [2, 3, 4, 5] rfl (by decide +kernel)) ggX4_pass_X2_hasBoth
set_option maxRecDepth 20000 in
theorem ggX4_pass_X2_hasMaster : GoodIn wsX4_pass wsX2_hasMaster := goodIn_r _ [10, 11, 36, 37, 38, 39, 40, 41, 42, 43, 44] rfl (by decide +kernel)
set_option maxRecDepth 20000 in
theorem gX4_pass_X2_hasMaster : GoodIn wsX4_pass (wsV RX4 84 RX2 yX2_hasMaster wsX2_hasMaster) := goodIn_app (goodIn_r _ [17, 8, 9, 5] rfl (by decide +kernel)) ggX4_pass_X2_hasMaster
set_option maxRecDepth 20000 in
theorem ggX4_pass_X2_hasHeard : GoodIn wsX4_pass wsX2_hasHeard := goodIn_r _ [21, 22, 36, 37, 38, 39, 40, 41, 42, 43, 44] rfl (by decide +kernel)
set_option maxRecDepth 20000 in
theorem gX4_pass_X2_hasHeard : GoodIn wsX4_pass (wsV RX4 87 RX2 yX2_hasHeard wsX2_hasHeard) := goodIn_app (goodIn_r _ [18, 19, 20, 5] rfl (by decide +kernel)) ggX4_pass_X2_hasHeard
set_option maxRecDepth 20000 in
theorem ggX4_pass_X2_heldFor : GoodIn wsX4_pass wsX2_heldFor := goodIn_r _ [26, 22, 36, 37, 38, 39, 40, 41, 42, 43, 44] rfl (by decide +kernel)
set_option maxRecDepth 20000 in
theorem gX4_pass_X2_heldFor : GoodIn wsX4_pass (wsV RX4 77 RX2 yX2_heldFor wsX2_heldFor) := goodIn_app (goodIn_r _ [23, 24, 25, 5] rfl (by decide +kernel)) ggX4_pass_X2_heldFor
set_option maxRecDepth 20000 in
theorem ggX4_pass_X2_tell : GoodIn wsX4_pass wsX2_tell := goodIn_r _ [30, 22, 36, 37, 38, 39, 40, 41, 42, 43, 44] rfl (by decide +kernel)
set_option maxRecDepth 20000 in
theorem gX4_pass_X2_tell : GoodIn wsX4_pass (wsV RX4 80 RX2 yX2_tell wsX2_tell) := goodIn_app (goodIn_r _ [27, 28, 29, 5] rfl (by decide +kernel)) ggX4_pass_X2_tell
theorem dX4_pass_0 : decode cX4_pass 0 = .ok (.aload_n 0, 1) := by decide +kernel
theorem dX4_pass_1 : decode cX4_pass 1 = .ok (.getfield 12, 3) := by decide +kernel
theorem dX4_pass_4 : decode cX4_pass 4 = .ok (.iload_n 1, 1) := by decide +kernel
theorem dX4_pass_5 : decode cX4_pass 5 = .ok (.iload_n 3, 1) := by decide +kernel
theorem dX4_pass_6 : decode cX4_pass 6 = .ok (.invokevirtual 66, 3) := by decide +kernel
theorem dX4_pass_9 : decode cX4_pass 9 = .ok (.ifCond .eq 14, 3) := by decide +kernel
theorem dX4_pass_12 : decode cX4_pass 12 = .ok (.aload_n 0, 1) := by decide +kernel
theorem dX4_pass_13 : decode cX4_pass 13 = .ok (.getfield 12, 3) := by decide +kernel
theorem dX4_pass_16 : decode cX4_pass 16 = .ok (.iload_n 2, 1) := by decide +kernel
theorem dX4_pass_17 : decode cX4_pass 17 = .ok (.invokevirtual 84, 3) := by decide +kernel
theorem dX4_pass_20 : decode cX4_pass 20 = .ok (.ifCond .ne 5, 3) := by decide +kernel
theorem dX4_pass_23 : decode cX4_pass 23 = .ok (.iconst (-1), 1) := by decide +kernel
theorem dX4_pass_24 : decode cX4_pass 24 = .ok (.ireturn, 1) := by decide +kernel
theorem dX4_pass_25 : decode cX4_pass 25 = .ok (.iload_n 1, 1) := by decide +kernel
theorem dX4_pass_26 : decode cX4_pass 26 = .ok (.iload_n 2, 1) := by decide +kernel
theorem dX4_pass_27 : decode cX4_pass 27 = .ok (.if_icmp .eq 15, 3) := by decide +kernel
theorem dX4_pass_30 : decode cX4_pass 30 = .ok (.aload_n 0, 1) := by decide +kernel
theorem dX4_pass_31 : decode cX4_pass 31 = .ok (.getfield 12, 3) := by decide +kernel
theorem dX4_pass_34 : decode cX4_pass 34 = .ok (.iload_n 1, 1) := by decide +kernel
theorem dX4_pass_35 : decode cX4_pass 35 = .ok (.iload_n 3, 1) := by decide +kernel
theorem dX4_pass_36 : decode cX4_pass 36 = .ok (.invokevirtual 87, 3) := by decide +kernel
theorem dX4_pass_39 : decode cX4_pass 39 = .ok (.ifCond .ne 6, 3) := by decide +kernel
theorem dX4_pass_42 : decode cX4_pass 42 = .ok (.bipush (-3), 2) := by decide +kernel
theorem dX4_pass_44 : decode cX4_pass 44 = .ok (.ireturn, 1) := by decide +kernel
theorem dX4_pass_45 : decode cX4_pass 45 = .ok (.aload_n 0, 1) := by decide +kernel
theorem dX4_pass_46 : decode cX4_pass 46 = .ok (.getfield 12, 3) := by decide +kernel
theorem dX4_pass_49 : decode cX4_pass 49 = .ok (.iload_n 1, 1) := by decide +kernel
theorem dX4_pass_50 : decode cX4_pass 50 = .ok (.iload_n 3, 1) := by decide +kernel
theorem dX4_pass_51 : decode cX4_pass 51 = .ok (.invokevirtual 77, 3) := by decide +kernel
theorem dX4_pass_54 : decode cX4_pass 54 = .ok (.istore 4, 2) := by decide +kernel
theorem dX4_pass_56 : decode cX4_pass 56 = .ok (.aload_n 0, 1) := by decide +kernel
theorem dX4_pass_57 : decode cX4_pass 57 = .ok (.getfield 12, 3) := by decide +kernel
theorem dX4_pass_60 : decode cX4_pass 60 = .ok (.iload_n 2, 1) := by decide +kernel
theorem dX4_pass_61 : decode cX4_pass 61 = .ok (.iload_n 3, 1) := by decide +kernel
theorem dX4_pass_62 : decode cX4_pass 62 = .ok (.iload 4, 2) := by decide +kernel
theorem dX4_pass_64 : decode cX4_pass 64 = .ok (.invokevirtual 80, 3) := by decide +kernel
theorem dX4_pass_67 : decode cX4_pass 67 = .ok (.iload 4, 2) := by decide +kernel
theorem dX4_pass_69 : decode cX4_pass 69 = .ok (.ireturn, 1) := by decide +kernel
set_option maxRecDepth 20000 in
theorem ggX4_about_X2_hasServant : GoodIn wsX4_about wsX2_hasServant := goodIn_r _ [14, 15, 39, 40, 41, 42, 43, 44, 45, 46, 47] rfl (by decide +kernel)
set_option maxRecDepth 20000 in
theorem gX4_about_X2_hasServant : GoodIn wsX4_about (wsV RX4 90 RX2 yX2_hasServant wsX2_hasServant) := goodIn_app (goodIn_r _ [10, 11, 12, 13] rfl (by decide +kernel)) ggX4_about_X2_hasServant
set_option maxRecDepth 20000 in
theorem ggX4_about_X3_endOf : GoodIn wsX4_about wsX3_endOf := goodIn_r _ [20, 21, 22, 23, 24, 25, 19, 26, 27, 28, 29, 30, 31, 32, 33, 56, 57, 58, 59, 60, 61, 48, 49, 50, 51, 52, 53, 54, 55] rfl (by decide +kernel)
set_option maxRecDepth 20000 in
theorem gX4_about_X3_endOf : GoodIn wsX4_about (wsV RX4 112 RX3 yX3_endOf wsX3_endOf) := goodIn_app (goodIn_r _ [16, 17, 18, 19] rfl (by decide +kernel)) ggX4_about_X3_endOf
theorem dX4_about_0 : decode cX4_about 0 = .ok (.aload_n 0, 1) := by decide +kernel
theorem dX4_about_1 : decode cX4_about 1 = .ok (.getfield 12, 3) := by decide +kernel
theorem dX4_about_4 : decode cX4_about 4 = .ok (.iload_n 1, 1) := by decide +kernel
theorem dX4_about_5 : decode cX4_about 5 = .ok (.invokevirtual 90, 3) := by decide +kernel
theorem dX4_about_8 : decode cX4_about 8 = .ok (.ifCond .ne 5, 3) := by decide +kernel
theorem dX4_about_11 : decode cX4_about 11 = .ok (.iconst (-1), 1) := by decide +kernel
theorem dX4_about_12 : decode cX4_about 12 = .ok (.ireturn, 1) := by decide +kernel
theorem dX4_about_13 : decode cX4_about 13 = .ok (.iload_n 2, 1) := by decide +kernel
theorem dX4_about_14 : decode cX4_about 14 = .ok (.tableswitch 111 0 6 #[42, 52, 62, 72, 82, 92, 102], 42) := by decide +kernel
theorem dX4_about_56 : decode cX4_about 56 = .ok (.aload_n 0, 1) := by decide +kernel
theorem dX4_about_57 : decode cX4_about 57 = .ok (.getfield 12, 3) := by decide +kernel
theorem dX4_about_60 : decode cX4_about 60 = .ok (.getfield 93, 3) := by decide +kernel
theorem dX4_about_63 : decode cX4_about 63 = .ok (.iload_n 1, 1) := by decide +kernel
theorem dX4_about_64 : decode cX4_about 64 = .ok (.iaload, 1) := by decide +kernel
theorem dX4_about_65 : decode cX4_about 65 = .ok (.ireturn, 1) := by decide +kernel
theorem dX4_about_66 : decode cX4_about 66 = .ok (.aload_n 0, 1) := by decide +kernel
theorem dX4_about_67 : decode cX4_about 67 = .ok (.getfield 12, 3) := by decide +kernel
theorem dX4_about_70 : decode cX4_about 70 = .ok (.getfield 97, 3) := by decide +kernel
theorem dX4_about_73 : decode cX4_about 73 = .ok (.iload_n 1, 1) := by decide +kernel
theorem dX4_about_74 : decode cX4_about 74 = .ok (.iaload, 1) := by decide +kernel
theorem dX4_about_75 : decode cX4_about 75 = .ok (.ireturn, 1) := by decide +kernel
theorem dX4_about_76 : decode cX4_about 76 = .ok (.aload_n 0, 1) := by decide +kernel
theorem dX4_about_77 : decode cX4_about 77 = .ok (.getfield 12, 3) := by decide +kernel
theorem dX4_about_80 : decode cX4_about 80 = .ok (.getfield 100, 3) := by decide +kernel
theorem dX4_about_83 : decode cX4_about 83 = .ok (.iload_n 1, 1) := by decide +kernel
theorem dX4_about_84 : decode cX4_about 84 = .ok (.iaload, 1) := by decide +kernel
theorem dX4_about_85 : decode cX4_about 85 = .ok (.ireturn, 1) := by decide +kernel
theorem dX4_about_86 : decode cX4_about 86 = .ok (.aload_n 0, 1) := by decide +kernel
theorem dX4_about_87 : decode cX4_about 87 = .ok (.getfield 26, 3) := by decide +kernel
theorem dX4_about_90 : decode cX4_about 90 = .ok (.getfield 103, 3) := by decide +kernel
theorem dX4_about_93 : decode cX4_about 93 = .ok (.iload_n 1, 1) := by decide +kernel
theorem dX4_about_94 : decode cX4_about 94 = .ok (.iaload, 1) := by decide +kernel
theorem dX4_about_95 : decode cX4_about 95 = .ok (.ireturn, 1) := by decide +kernel
theorem dX4_about_96 : decode cX4_about 96 = .ok (.aload_n 0, 1) := by decide +kernel
theorem dX4_about_97 : decode cX4_about 97 = .ok (.getfield 26, 3) := by decide +kernel
theorem dX4_about_100 : decode cX4_about 100 = .ok (.getfield 106, 3) := by decide +kernel
theorem dX4_about_103 : decode cX4_about 103 = .ok (.iload_n 1, 1) := by decide +kernel
theorem dX4_about_104 : decode cX4_about 104 = .ok (.iaload, 1) := by decide +kernel
theorem dX4_about_105 : decode cX4_about 105 = .ok (.ireturn, 1) := by decide +kernel
theorem dX4_about_106 : decode cX4_about 106 = .ok (.aload_n 0, 1) := by decide +kernel
theorem dX4_about_107 : decode cX4_about 107 = .ok (.getfield 26, 3) := by decide +kernel
theorem dX4_about_110 : decode cX4_about 110 = .ok (.getfield 109, 3) := by decide +kernel
theorem dX4_about_113 : decode cX4_about 113 = .ok (.iload_n 1, 1) := by decide +kernel
theorem dX4_about_114 : decode cX4_about 114 = .ok (.iaload, 1) := by decide +kernel
theorem dX4_about_115 : decode cX4_about 115 = .ok (.ireturn, 1) := by decide +kernel
theorem dX4_about_116 : decode cX4_about 116 = .ok (.aload_n 0, 1) := by decide +kernel
theorem dX4_about_117 : decode cX4_about 117 = .ok (.getfield 38, 3) := by decide +kernel
theorem dX4_about_120 : decode cX4_about 120 = .ok (.iload_n 1, 1) := by decide +kernel
theorem dX4_about_121 : decode cX4_about 121 = .ok (.invokevirtual 112, 3) := by decide +kernel
theorem dX4_about_124 : decode cX4_about 124 = .ok (.ireturn, 1) := by decide +kernel
theorem dX4_about_125 : decode cX4_about 125 = .ok (.bipush (-2), 2) := by decide +kernel
theorem dX4_about_127 : decode cX4_about 127 = .ok (.ireturn, 1) := by decide +kernel
set_option maxRecDepth 20000 in
theorem ggX4_house_X2_hasMaster : GoodIn wsX4_house wsX2_hasMaster := goodIn_r _ [10, 11, 30, 31, 32, 33, 34, 35, 36, 37, 38] rfl (by decide +kernel)
set_option maxRecDepth 20000 in
theorem gX4_house_X2_hasMaster : GoodIn wsX4_house (wsV RX4 84 RX2 yX2_hasMaster wsX2_hasMaster) := goodIn_app (goodIn_r _ [6, 7, 8, 9] rfl (by decide +kernel)) ggX4_house_X2_hasMaster
set_option maxRecDepth 20000 in
theorem ggX4_house_X0_countAsked : GoodIn wsX4_house wsX0_countAsked := goodIn_r _ [16, 17, 18, 19, 20, 21, 22, 23, 24, 39, 40, 41, 42, 43, 44, 45, 46] rfl (by decide +kernel)
set_option maxRecDepth 20000 in
theorem gX4_house_X0_countAsked : GoodIn wsX4_house (wsV RX4 125 RX0 yX0_countAsked wsX0_countAsked) := goodIn_app (goodIn_r _ [12, 13, 14, 15] rfl (by decide +kernel)) ggX4_house_X0_countAsked
theorem dX4_house_0 : decode cX4_house 0 = .ok (.aload_n 0, 1) := by decide +kernel
theorem dX4_house_1 : decode cX4_house 1 = .ok (.getfield 12, 3) := by decide +kernel
theorem dX4_house_4 : decode cX4_house 4 = .ok (.iload_n 1, 1) := by decide +kernel
theorem dX4_house_5 : decode cX4_house 5 = .ok (.invokevirtual 84, 3) := by decide +kernel
theorem dX4_house_8 : decode cX4_house 8 = .ok (.ifCond .ne 5, 3) := by decide +kernel
theorem dX4_house_11 : decode cX4_house 11 = .ok (.iconst (-1), 1) := by decide +kernel
theorem dX4_house_12 : decode cX4_house 12 = .ok (.ireturn, 1) := by decide +kernel
theorem dX4_house_13 : decode cX4_house 13 = .ok (.iload_n 2, 1) := by decide +kernel
theorem dX4_house_14 : decode cX4_house 14 = .ok (.tableswitch 69 0 3 #[30, 40, 50, 60], 30) := by decide +kernel
theorem dX4_house_44 : decode cX4_house 44 = .ok (.aload_n 0, 1) := by decide +kernel
theorem dX4_house_45 : decode cX4_house 45 = .ok (.getfield 12, 3) := by decide +kernel
theorem dX4_house_48 : decode cX4_house 48 = .ok (.getfield 116, 3) := by decide +kernel
theorem dX4_house_51 : decode cX4_house 51 = .ok (.iload_n 1, 1) := by decide +kernel
theorem dX4_house_52 : decode cX4_house 52 = .ok (.iaload, 1) := by decide +kernel
theorem dX4_house_53 : decode cX4_house 53 = .ok (.ireturn, 1) := by decide +kernel
theorem dX4_house_54 : decode cX4_house 54 = .ok (.aload_n 0, 1) := by decide +kernel
theorem dX4_house_55 : decode cX4_house 55 = .ok (.getfield 12, 3) := by decide +kernel
theorem dX4_house_58 : decode cX4_house 58 = .ok (.getfield 119, 3) := by decide +kernel
theorem dX4_house_61 : decode cX4_house 61 = .ok (.iload_n 1, 1) := by decide +kernel
theorem dX4_house_62 : decode cX4_house 62 = .ok (.iaload, 1) := by decide +kernel
theorem dX4_house_63 : decode cX4_house 63 = .ok (.ireturn, 1) := by decide +kernel
theorem dX4_house_64 : decode cX4_house 64 = .ok (.aload_n 0, 1) := by decide +kernel
theorem dX4_house_65 : decode cX4_house 65 = .ok (.getfield 26, 3) := by decide +kernel
theorem dX4_house_68 : decode cX4_house 68 = .ok (.getfield 122, 3) := by decide +kernel
theorem dX4_house_71 : decode cX4_house 71 = .ok (.iload_n 1, 1) := by decide +kernel
theorem dX4_house_72 : decode cX4_house 72 = .ok (.iaload, 1) := by decide +kernel
theorem dX4_house_73 : decode cX4_house 73 = .ok (.ireturn, 1) := by decide +kernel
theorem dX4_house_74 : decode cX4_house 74 = .ok (.aload_n 0, 1) := by decide +kernel
theorem dX4_house_75 : decode cX4_house 75 = .ok (.getfield 26, 3) := by decide +kernel
theorem dX4_house_78 : decode cX4_house 78 = .ok (.iload_n 1, 1) := by decide +kernel
theorem dX4_house_79 : decode cX4_house 79 = .ok (.invokevirtual 125, 3) := by decide +kernel
theorem dX4_house_82 : decode cX4_house 82 = .ok (.ireturn, 1) := by decide +kernel
theorem dX4_house_83 : decode cX4_house 83 = .ok (.bipush (-2), 2) := by decide +kernel
theorem dX4_house_85 : decode cX4_house 85 = .ok (.ireturn, 1) := by decide +kernel
set_option maxRecDepth 20000 in
theorem ggX4_holds_X2_hasBoth : GoodIn wsX4_holds wsX2_hasBoth := goodIn_r _ [6, 7, 8, 9, 5, 10, 11, 12, 13, 14, 15, 16, 27, 28, 29, 30, 31, 32, 33, 34, 35] rfl (by decide +kernel)
set_option maxRecDepth 20000 in
theorem gX4_holds_X2_hasBoth : GoodIn wsX4_holds (wsV RX4 66 RX2 yX2_hasBoth wsX2_hasBoth) := goodIn_app (goodIn_r _ [2, 3, 4, 5] rfl (by decide +kernel)) ggX4_holds_X2_hasBoth
set_option maxRecDepth 20000 in
theorem ggX4_holds_X2_heldFor : GoodIn wsX4_holds wsX2_heldFor := goodIn_r _ [20, 21, 27, 28, 29, 30, 31, 32, 33, 34, 35] rfl (by decide +kernel)
set_option maxRecDepth 20000 in
theorem gX4_holds_X2_heldFor : GoodIn wsX4_holds (wsV RX4 77 RX2 yX2_heldFor wsX2_heldFor) := goodIn_app (goodIn_r _ [17, 18, 19, 5] rfl (by decide +kernel)) ggX4_holds_X2_heldFor
theorem dX4_holds_0 : decode cX4_holds 0 = .ok (.aload_n 0, 1) := by decide +kernel
theorem dX4_holds_1 : decode cX4_holds 1 = .ok (.getfield 12, 3) := by decide +kernel
theorem dX4_holds_4 : decode cX4_holds 4 = .ok (.iload_n 1, 1) := by decide +kernel
theorem dX4_holds_5 : decode cX4_holds 5 = .ok (.iload_n 2, 1) := by decide +kernel
theorem dX4_holds_6 : decode cX4_holds 6 = .ok (.invokevirtual 66, 3) := by decide +kernel
theorem dX4_holds_9 : decode cX4_holds 9 = .ok (.ifCond .eq 15, 3) := by decide +kernel
theorem dX4_holds_12 : decode cX4_holds 12 = .ok (.aload_n 0, 1) := by decide +kernel
theorem dX4_holds_13 : decode cX4_holds 13 = .ok (.getfield 12, 3) := by decide +kernel
theorem dX4_holds_16 : decode cX4_holds 16 = .ok (.iload_n 1, 1) := by decide +kernel
theorem dX4_holds_17 : decode cX4_holds 17 = .ok (.iload_n 2, 1) := by decide +kernel
theorem dX4_holds_18 : decode cX4_holds 18 = .ok (.invokevirtual 77, 3) := by decide +kernel
theorem dX4_holds_21 : decode cX4_holds 21 = .ok (.goto 4, 3) := by decide +kernel
theorem dX4_holds_24 : decode cX4_holds 24 = .ok (.iconst (-1), 1) := by decide +kernel
theorem dX4_holds_25 : decode cX4_holds 25 = .ok (.ireturn, 1) := by decide +kernel
set_option maxRecDepth 20000 in
theorem ggX4_offer_X2_hasBoth : GoodIn wsX4_offer wsX2_hasBoth := goodIn_r _ [6, 7, 8, 9, 5, 10, 11, 12, 13, 14, 15, 16, 40, 41, 42, 43, 44, 45, 46, 47, 48] rfl (by decide +kernel)
set_option maxRecDepth 20000 in
theorem gX4_offer_X2_hasBoth : GoodIn wsX4_offer (wsV RX4 66 RX2 yX2_hasBoth wsX2_hasBoth) := goodIn_app (goodIn_r _ [2, 3, 4, 5] rfl (by decide +kernel)) ggX4_offer_X2_hasBoth
set_option maxRecDepth 20000 in
theorem ggX4_offer_X2_offerTo : GoodIn wsX4_offer wsX2_offerTo := goodIn_r _ [20, 21, 22, 23, 24, 25, 26, 27, 5, 28, 29, 30, 31, 32, 33, 34, 40, 41, 42, 43, 44, 45, 46, 47, 48] rfl (by decide +kernel)
set_option maxRecDepth 20000 in
theorem gX4_offer_X2_offerTo : GoodIn wsX4_offer (wsV RX4 128 RX2 yX2_offerTo wsX2_offerTo) := goodIn_app (goodIn_r _ [17, 18, 19, 5] rfl (by decide +kernel)) ggX4_offer_X2_offerTo
theorem dX4_offer_0 : decode cX4_offer 0 = .ok (.aload_n 0, 1) := by decide +kernel
theorem dX4_offer_1 : decode cX4_offer 1 = .ok (.getfield 12, 3) := by decide +kernel
theorem dX4_offer_4 : decode cX4_offer 4 = .ok (.iload_n 1, 1) := by decide +kernel
theorem dX4_offer_5 : decode cX4_offer 5 = .ok (.iload_n 2, 1) := by decide +kernel
theorem dX4_offer_6 : decode cX4_offer 6 = .ok (.invokevirtual 66, 3) := by decide +kernel
theorem dX4_offer_9 : decode cX4_offer 9 = .ok (.ifCond .eq 15, 3) := by decide +kernel
theorem dX4_offer_12 : decode cX4_offer 12 = .ok (.aload_n 0, 1) := by decide +kernel
theorem dX4_offer_13 : decode cX4_offer 13 = .ok (.getfield 12, 3) := by decide +kernel
theorem dX4_offer_16 : decode cX4_offer 16 = .ok (.iload_n 1, 1) := by decide +kernel
theorem dX4_offer_17 : decode cX4_offer 17 = .ok (.iload_n 2, 1) := by decide +kernel
theorem dX4_offer_18 : decode cX4_offer 18 = .ok (.invokevirtual 128, 3) := by decide +kernel
theorem dX4_offer_21 : decode cX4_offer 21 = .ok (.goto 4, 3) := by decide +kernel
theorem dX4_offer_24 : decode cX4_offer 24 = .ok (.iconst (-1), 1) := by decide +kernel
theorem dX4_offer_25 : decode cX4_offer 25 = .ok (.ireturn, 1) := by decide +kernel
set_option maxRecDepth 20000 in
theorem ggX4_next_X2_hasMaster : GoodIn wsX4_next wsX2_hasMaster := goodIn_r _ [7, 8, 48, 49, 50, 51, 52, 53, 54, 55, 56] rfl (by decide +kernel)
set_option maxRecDepth 20000 in
theorem gX4_next_X2_hasMaster : GoodIn wsX4_next (wsV RX4 84 RX2 yX2_hasMaster wsX2_hasMaster) := goodIn_app (goodIn_r _ [3, 4, 5, 6] rfl (by decide +kernel)) ggX4_next_X2_hasMaster
set_option maxRecDepth 20000 in
theorem ggX4_next_X0_choiceOf : GoodIn wsX4_next wsX0_choiceOf := goodIn_r _ [13, 14, 15, 16, 17, 18, 6, 19, 20, 21, 22, 23, 24, 25, 26, 27, 28, 29, 30, 31, 32, 33, 34, 35, 36, 12, 37, 38, 39, 40, 41, 42, 57, 58, 59, 60, 61, 62, 63, 64, 48, 49, 50, 51, 52, 53, 54, 55, 56] rfl (by decide +kernel)
set_option maxRecDepth 20000 in
theorem gX4_next_X0_choiceOf : GoodIn wsX4_next (wsV RX4 131 RX0 yX0_choiceOf wsX0_choiceOf) := goodIn_app (goodIn_r _ [9, 10, 11, 12] rfl (by decide +kernel)) ggX4_next_X0_choiceOf
theorem dX4_next_0 : decode cX4_next 0 = .ok (.aload_n 0, 1) := by decide +kernel
theorem dX4_next_1 : decode cX4_next 1 = .ok (.getfield 12, 3) := by decide +kernel
theorem dX4_next_4 : decode cX4_next 4 = .ok (.iload_n 1, 1) := by decide +kernel
theorem dX4_next_5 : decode cX4_next 5 = .ok (.invokevirtual 84, 3) := by decide +kernel
theorem dX4_next_8 : decode cX4_next 8 = .ok (.ifCond .eq 14, 3) := by decide +kernel
theorem dX4_next_11 : decode cX4_next 11 = .ok (.aload_n 0, 1) := by decide +kernel
theorem dX4_next_12 : decode cX4_next 12 = .ok (.getfield 26, 3) := by decide +kernel
theorem dX4_next_15 : decode cX4_next 15 = .ok (.iload_n 1, 1) := by decide +kernel
theorem dX4_next_16 : decode cX4_next 16 = .ok (.invokevirtual 131, 3) := by decide +kernel
theorem dX4_next_19 : decode cX4_next 19 = .ok (.goto 4, 3) := by decide +kernel
theorem dX4_next_22 : decode cX4_next 22 = .ok (.iconst (-1), 1) := by decide +kernel
theorem dX4_next_23 : decode cX4_next 23 = .ok (.ireturn, 1) := by decide +kernel
set_option maxRecDepth 20000 in
theorem ggX4_go_X4_isWithin : GoodIn wsX4_go wsX4_isWithin := goodIn_r _ [7] rfl (by decide +kernel)
set_option maxRecDepth 20000 in
theorem gX4_go_X4_isWithin : GoodIn wsX4_go (va_wsS RX4 50 yX4_isWithin wsX4_isWithin) := goodIn_app (goodIn_r _ [4, 5, 6] rfl (by decide +kernel)) ggX4_go_X4_isWithin
set_option maxRecDepth 20000 in
theorem ggX4_go_X3_hasBegun : GoodIn wsX4_go wsX3_hasBegun := goodIn_r _ [12, 13, 109, 110, 111, 112, 113, 114] rfl (by decide +kernel)
set_option maxRecDepth 20000 in
theorem gX4_go_X3_hasBegun : GoodIn wsX4_go (wsV RX4 54 RX3 yX3_hasBegun wsX3_hasBegun) := goodIn_app (goodIn_r _ [8, 9, 10, 11] rfl (by decide +kernel)) ggX4_go_X3_hasBegun
set_option maxRecDepth 20000 in
theorem ggX4_go_X0_goOn : GoodIn wsX4_go wsX0_goOn := goodIn_r _ [18, 19, 20, 21, 22, 23, 24, 25, 26, 17, 27, 28, 29, 30, 31, 32, 33, 34, 35, 36, 37, 38, 39, 40, 41, 42, 43, 44, 45, 46, 47, 48, 49, 50, 51, 52, 53, 54, 55, 56, 57, 58, 59, 60, 61, 62, 63, 64, 65, 66, 67, 68, 69, 70, 71, 72, 73, 74, 75, 76, 77, 78, 79, 80, 81, 82, 83, 84, 85, 86, 87, 88, 89, 90, 91, 101, 102, 103, 104, 105, 106, 107, 108, 115, 116, 117, 118, 119, 120, 121, 122, 123, 124, 125, 126] rfl (by decide +kernel)
set_option maxRecDepth 20000 in
theorem gX4_go_X0_goOn : GoodIn wsX4_go (wsV RX4 134 RX0 yX0_goOn wsX0_goOn) := goodIn_app (goodIn_r _ [14, 15, 16, 17] rfl (by decide +kernel)) ggX4_go_X0_goOn
set_option maxRecDepth 20000 in
theorem ggX4_go_X3_begin : GoodIn wsX4_go wsX3_begin := goodIn_r _ [95, 13, 109, 110, 111, 112, 113, 114] rfl (by decide +kernel)
set_option maxRecDepth 20000 in
theorem gX4_go_X3_begin : GoodIn wsX4_go (wsV RX4 141 RX3 yX3_begin wsX3_begin) := goodIn_app (goodIn_r _ [92, 93, 94, 11] rfl (by decide +kernel)) ggX4_go_X3_begin
theorem dX4_go_0 : decode cX4_go 0 = .ok (.iload_n 1, 1) := by decide +kernel
theorem dX4_go_1 : decode cX4_go 1 = .ok (.iconst 1, 1) := by decide +kernel
theorem dX4_go_2 : decode cX4_go 2 = .ok (.sipush 240, 3) := by decide +kernel
theorem dX4_go_5 : decode cX4_go 5 = .ok (.invokestatic 50, 3) := by decide +kernel
theorem dX4_go_8 : decode cX4_go 8 = .ok (.ifCond .ne 6, 3) := by decide +kernel
theorem dX4_go_11 : decode cX4_go 11 = .ok (.bipush (-2), 2) := by decide +kernel
theorem dX4_go_13 : decode cX4_go 13 = .ok (.ireturn, 1) := by decide +kernel
theorem dX4_go_14 : decode cX4_go 14 = .ok (.aload_n 0, 1) := by decide +kernel
theorem dX4_go_15 : decode cX4_go 15 = .ok (.getfield 38, 3) := by decide +kernel
theorem dX4_go_18 : decode cX4_go 18 = .ok (.invokevirtual 54, 3) := by decide +kernel
theorem dX4_go_21 : decode cX4_go 21 = .ok (.ifCond .eq 6, 3) := by decide +kernel
theorem dX4_go_24 : decode cX4_go 24 = .ok (.bipush (-3), 2) := by decide +kernel
theorem dX4_go_26 : decode cX4_go 26 = .ok (.ireturn, 1) := by decide +kernel
theorem dX4_go_27 : decode cX4_go 27 = .ok (.aload_n 0, 1) := by decide +kernel
theorem dX4_go_28 : decode cX4_go 28 = .ok (.getfield 26, 3) := by decide +kernel
theorem dX4_go_31 : decode cX4_go 31 = .ok (.iload_n 1, 1) := by decide +kernel
theorem dX4_go_32 : decode cX4_go 32 = .ok (.iconst 0, 1) := by decide +kernel
theorem dX4_go_33 : decode cX4_go 33 = .ok (.invokevirtual 134, 3) := by decide +kernel
theorem dX4_go_36 : decode cX4_go 36 = .ok (.aload_n 0, 1) := by decide +kernel
theorem dX4_go_37 : decode cX4_go 37 = .ok (.getfield 26, 3) := by decide +kernel
theorem dX4_go_40 : decode cX4_go 40 = .ok (.getfield 138, 3) := by decide +kernel
theorem dX4_go_43 : decode cX4_go 43 = .ok (.sipush 240, 3) := by decide +kernel
theorem dX4_go_46 : decode cX4_go 46 = .ok (.if_icmp .ne 10, 3) := by decide +kernel
theorem dX4_go_49 : decode cX4_go 49 = .ok (.aload_n 0, 1) := by decide +kernel
theorem dX4_go_50 : decode cX4_go 50 = .ok (.getfield 38, 3) := by decide +kernel
theorem dX4_go_53 : decode cX4_go 53 = .ok (.invokevirtual 141, 3) := by decide +kernel
theorem dX4_go_56 : decode cX4_go 56 = .ok (.aload_n 0, 1) := by decide +kernel
theorem dX4_go_57 : decode cX4_go 57 = .ok (.getfield 26, 3) := by decide +kernel
theorem dX4_go_60 : decode cX4_go 60 = .ok (.getfield 138, 3) := by decide +kernel
theorem dX4_go_63 : decode cX4_go 63 = .ok (.ireturn, 1) := by decide +kernel
theorem dX4_bargains_0 : decode cX4_bargains 0 = .ok (.aload_n 0, 1) := by decide +kernel
theorem dX4_bargains_1 : decode cX4_bargains 1 = .ok (.getfield 26, 3) := by decide +kernel
theorem dX4_bargains_4 : decode cX4_bargains 4 = .ok (.getfield 144, 3) := by decide +kernel
theorem dX4_bargains_7 : decode cX4_bargains 7 = .ok (.getfield 148, 3) := by decide +kernel
theorem dX4_bargains_10 : decode cX4_bargains 10 = .ok (.ireturn, 1) := by decide +kernel
set_option maxRecDepth 20000 in
theorem ggX4_bargain_X1_has : GoodIn wsX4_bargain wsX1_has := goodIn_r _ [7, 8, 31, 32, 33] rfl (by decide +kernel)
set_option maxRecDepth 20000 in
theorem gX4_bargain_X1_has : GoodIn wsX4_bargain (wsV RX4 151 RX1 yX1_has wsX1_has) := goodIn_app (goodIn_r _ [3, 4, 5, 6] rfl (by decide +kernel)) ggX4_bargain_X1_has
set_option maxRecDepth 20000 in
theorem ggX4_bargain_X4_isWithin : GoodIn wsX4_bargain wsX4_isWithin := goodIn_r _ [12] rfl (by decide +kernel)
set_option maxRecDepth 20000 in
theorem gX4_bargain_X4_isWithin : GoodIn wsX4_bargain (va_wsS RX4 50 yX4_isWithin wsX4_isWithin) := goodIn_app (goodIn_r _ [9, 10, 11] rfl (by decide +kernel)) ggX4_bargain_X4_isWithin
set_option maxRecDepth 20000 in
theorem ggX4_bargain_X1_read : GoodIn wsX4_bargain wsX1_read := goodIn_r _ [16, 17, 31, 32, 33] rfl (by decide +kernel)
set_option maxRecDepth 20000 in
theorem gX4_bargain_X1_read : GoodIn wsX4_bargain (wsV RX4 154 RX1 yX1_read wsX1_read) := goodIn_app (goodIn_r _ [13, 14, 15, 6] rfl (by decide +kernel)) ggX4_bargain_X1_read
theorem dX4_bargain_0 : decode cX4_bargain 0 = .ok (.aload_n 0, 1) := by decide +kernel
theorem dX4_bargain_1 : decode cX4_bargain 1 = .ok (.getfield 26, 3) := by decide +kernel
theorem dX4_bargain_4 : decode cX4_bargain 4 = .ok (.getfield 144, 3) := by decide +kernel
theorem dX4_bargain_7 : decode cX4_bargain 7 = .ok (.iload_n 1, 1) := by decide +kernel
theorem dX4_bargain_8 : decode cX4_bargain 8 = .ok (.invokevirtual 151, 3) := by decide +kernel
theorem dX4_bargain_11 : decode cX4_bargain 11 = .ok (.ifCond .ne 5, 3) := by decide +kernel
theorem dX4_bargain_14 : decode cX4_bargain 14 = .ok (.iconst (-1), 1) := by decide +kernel
theorem dX4_bargain_15 : decode cX4_bargain 15 = .ok (.ireturn, 1) := by decide +kernel
theorem dX4_bargain_16 : decode cX4_bargain 16 = .ok (.iload_n 2, 1) := by decide +kernel
theorem dX4_bargain_17 : decode cX4_bargain 17 = .ok (.iconst 0, 1) := by decide +kernel
theorem dX4_bargain_18 : decode cX4_bargain 18 = .ok (.iconst 5, 1) := by decide +kernel
theorem dX4_bargain_19 : decode cX4_bargain 19 = .ok (.invokestatic 50, 3) := by decide +kernel
theorem dX4_bargain_22 : decode cX4_bargain 22 = .ok (.ifCond .ne 6, 3) := by decide +kernel
theorem dX4_bargain_25 : decode cX4_bargain 25 = .ok (.bipush (-2), 2) := by decide +kernel
theorem dX4_bargain_27 : decode cX4_bargain 27 = .ok (.ireturn, 1) := by decide +kernel
theorem dX4_bargain_28 : decode cX4_bargain 28 = .ok (.aload_n 0, 1) := by decide +kernel
theorem dX4_bargain_29 : decode cX4_bargain 29 = .ok (.getfield 26, 3) := by decide +kernel
theorem dX4_bargain_32 : decode cX4_bargain 32 = .ok (.getfield 144, 3) := by decide +kernel
theorem dX4_bargain_35 : decode cX4_bargain 35 = .ok (.iload_n 1, 1) := by decide +kernel
theorem dX4_bargain_36 : decode cX4_bargain 36 = .ok (.iload_n 2, 1) := by decide +kernel
theorem dX4_bargain_37 : decode cX4_bargain 37 = .ok (.invokevirtual 154, 3) := by decide +kernel
theorem dX4_bargain_40 : decode cX4_bargain 40 = .ok (.ireturn, 1) := by decide +kernel
set_option maxRecDepth 20000 in
theorem ggX4_torn_X0_countTorn : GoodIn wsX4_torn wsX0_countTorn := goodIn_r _ [6, 7, 8, 9, 10, 11, 12, 5, 13, 14, 15, 16, 17, 18, 19, 20, 21, 22, 23, 24, 25, 26, 27, 28, 29, 30, 31, 32, 33, 34, 35, 36, 37, 38, 39, 40, 41, 42, 43, 44, 45, 46, 47, 53, 54, 55, 56, 57, 58, 59, 60, 61, 62, 63, 64, 65, 66, 67, 68, 69] rfl (by decide +kernel)
set_option maxRecDepth 20000 in
theorem gX4_torn_X0_countTorn : GoodIn wsX4_torn (wsV RX4 157 RX0 yX0_countTorn wsX0_countTorn) := goodIn_app (goodIn_r _ [2, 3, 4, 5] rfl (by decide +kernel)) ggX4_torn_X0_countTorn
theorem dX4_torn_0 : decode cX4_torn 0 = .ok (.aload_n 0, 1) := by decide +kernel
theorem dX4_torn_1 : decode cX4_torn 1 = .ok (.getfield 26, 3) := by decide +kernel
theorem dX4_torn_4 : decode cX4_torn 4 = .ok (.invokevirtual 157, 3) := by decide +kernel
theorem dX4_torn_7 : decode cX4_torn 7 = .ok (.ireturn, 1) := by decide +kernel
set_option maxRecDepth 20000 in
theorem ggX4_pair_X0_findTorn : GoodIn wsX4_pair wsX0_findTorn := goodIn_r _ [6, 7, 8, 9, 10, 11, 12, 5, 13, 14, 15, 16, 17, 18, 19, 20, 21, 22, 23, 24, 25, 26, 27, 28, 29, 30, 31, 32, 33, 34, 35, 36, 37, 38, 39, 40, 41, 42, 43, 44, 45, 46, 47, 53, 54, 55, 56, 57, 58, 59, 60, 61, 62, 63, 64, 65, 66, 67, 68, 69] rfl (by decide +kernel)
set_option maxRecDepth 20000 in
theorem gX4_pair_X0_findTorn : GoodIn wsX4_pair (wsV RX4 161 RX0 yX0_findTorn wsX0_findTorn) := goodIn_app (goodIn_r _ [2, 3, 4, 5] rfl (by decide +kernel)) ggX4_pair_X0_findTorn
theorem dX4_pair_0 : decode cX4_pair 0 = .ok (.aload_n 0, 1) := by decide +kernel
theorem dX4_pair_1 : decode cX4_pair 1 = .ok (.getfield 26, 3) := by decide +kernel
theorem dX4_pair_4 : decode cX4_pair 4 = .ok (.iload_n 1, 1) := by decide +kernel
theorem dX4_pair_5 : decode cX4_pair 5 = .ok (.invokevirtual 161, 3) := by decide +kernel
theorem dX4_pair_8 : decode cX4_pair 8 = .ok (.ireturn, 1) := by decide +kernel
set_option maxRecDepth 20000 in
theorem ggX4_foretold_X4_isWithin : GoodIn wsX4_foretold wsX4_isWithin := goodIn_r _ [5] rfl (by decide +kernel)
set_option maxRecDepth 20000 in
theorem gX4_foretold_X4_isWithin : GoodIn wsX4_foretold (va_wsS RX4 50 yX4_isWithin wsX4_isWithin) := goodIn_app (goodIn_r _ [2, 3, 4] rfl (by decide +kernel)) ggX4_foretold_X4_isWithin
set_option maxRecDepth 20000 in
theorem ggX4_foretold_X0_startAnew : GoodIn wsX4_foretold wsX0_startAnew := goodIn_r _ [10, 11, 12, 13, 14, 15, 16, 17, 18, 19, 20, 21, 22, 118, 119, 120, 121, 122, 123, 124, 125, 126, 127, 128] rfl (by decide +kernel)
set_option maxRecDepth 20000 in
theorem gX4_foretold_X0_startAnew : GoodIn wsX4_foretold (wsV RX4 164 RX0 yX0_startAnew wsX0_startAnew) := goodIn_app (goodIn_r _ [6, 7, 8, 9] rfl (by decide +kernel)) ggX4_foretold_X0_startAnew
set_option maxRecDepth 20000 in
theorem ggX4_foretold_X0_goOn : GoodIn wsX4_foretold wsX0_goOn := goodIn_r _ [26, 11, 27, 28, 29, 30, 31, 32, 33, 9, 34, 35, 36, 17, 37, 38, 39, 40, 14, 18, 12, 41, 42, 43, 44, 45, 46, 47, 48, 49, 50, 51, 52, 53, 54, 55, 56, 57, 58, 59, 60, 61, 62, 63, 64, 65, 66, 67, 68, 69, 70, 71, 72, 73, 74, 75, 76, 15, 77, 78, 79, 80, 81, 82, 83, 84, 85, 86, 87, 88, 89, 90, 91, 92, 16, 118, 119, 120, 121, 122, 123, 124, 125, 129, 130, 131, 132, 133, 134, 135, 136, 137, 126, 127, 128] rfl (by decide +kernel)
set_option maxRecDepth 20000 in
theorem gX4_foretold_X0_goOn : GoodIn wsX4_foretold (wsV RX4 134 RX0 yX0_goOn wsX0_goOn) := goodIn_app (goodIn_r _ [23, 24, 25, 9] rfl (by decide +kernel)) ggX4_foretold_X0_goOn
set_option maxRecDepth 20000 in
theorem ggX4_foretold_X0_countBound : GoodIn wsX4_foretold wsX0_countBound := goodIn_r _ [96, 35, 45, 77, 78, 79, 9, 80, 14, 118, 119, 120, 121, 122, 123, 124, 125, 129, 130, 131, 132, 133, 134, 135, 136, 137] rfl (by decide +kernel)
set_option maxRecDepth 20000 in
theorem gX4_foretold_X0_countBound : GoodIn wsX4_foretold (wsV RX4 167 RX0 yX0_countBound wsX0_countBound) := goodIn_app (goodIn_r _ [93, 94, 95, 9] rfl (by decide +kernel)) ggX4_foretold_X0_countBound
set_option maxRecDepth 20000 in
theorem ggX4_foretold_X0_countTorn : GoodIn wsX4_foretold wsX0_countTorn := goodIn_r _ [100, 35, 45, 36, 101, 102, 103, 9, 104, 14, 15, 46, 47, 48, 49, 50, 51, 52, 53, 54, 55, 56, 57, 58, 59, 60, 61, 62, 63, 64, 77, 78, 79, 80, 105, 106, 107, 108, 17, 69, 70, 71, 72, 118, 119, 120, 121, 122, 123, 124, 125, 129, 130, 131, 132, 133, 134, 135, 136, 137] rfl (by decide +kernel)
set_option maxRecDepth 20000 in
theorem gX4_foretold_X0_countTorn : GoodIn wsX4_foretold (wsV RX4 157 RX0 yX0_countTorn wsX0_countTorn) := goodIn_app (goodIn_r _ [97, 98, 99, 9] rfl (by decide +kernel)) ggX4_foretold_X0_countTorn
set_option maxRecDepth 20000 in
theorem ggX4_foretold_X0_sumWages : GoodIn wsX4_foretold wsX0_sumWages := goodIn_r _ [112, 35, 45, 15, 77, 78, 79, 9, 80, 14, 118, 119, 120, 121, 122, 123, 124, 125, 129, 130, 131, 132, 133, 134, 135, 136, 137] rfl (by decide +kernel)
set_option maxRecDepth 20000 in
theorem gX4_foretold_X0_sumWages : GoodIn wsX4_foretold (wsV RX4 170 RX0 yX0_sumWages wsX0_sumWages) := goodIn_app (goodIn_r _ [109, 110, 111, 9] rfl (by decide +kernel)) ggX4_foretold_X0_sumWages
theorem dX4_foretold_0 : decode cX4_foretold 0 = .ok (.iload_n 1, 1) := by decide +kernel
theorem dX4_foretold_1 : decode cX4_foretold 1 = .ok (.iconst 0, 1) := by decide +kernel
theorem dX4_foretold_2 : decode cX4_foretold 2 = .ok (.iconst 1, 1) := by decide +kernel
theorem dX4_foretold_3 : decode cX4_foretold 3 = .ok (.invokestatic 50, 3) := by decide +kernel
theorem dX4_foretold_6 : decode cX4_foretold 6 = .ok (.ifCond .eq 12, 3) := by decide +kernel
theorem dX4_foretold_9 : decode cX4_foretold 9 = .ok (.iload_n 2, 1) := by decide +kernel
theorem dX4_foretold_10 : decode cX4_foretold 10 = .ok (.iconst 0, 1) := by decide +kernel
theorem dX4_foretold_11 : decode cX4_foretold 11 = .ok (.iconst 2, 1) := by decide +kernel
theorem dX4_foretold_12 : decode cX4_foretold 12 = .ok (.invokestatic 50, 3) := by decide +kernel
theorem dX4_foretold_15 : decode cX4_foretold 15 = .ok (.ifCond .ne 6, 3) := by decide +kernel
theorem dX4_foretold_18 : decode cX4_foretold 18 = .ok (.bipush (-2), 2) := by decide +kernel
theorem dX4_foretold_20 : decode cX4_foretold 20 = .ok (.ireturn, 1) := by decide +kernel
theorem dX4_foretold_21 : decode cX4_foretold 21 = .ok (.aload_n 0, 1) := by decide +kernel
theorem dX4_foretold_22 : decode cX4_foretold 22 = .ok (.getfield 30, 3) := by decide +kernel
theorem dX4_foretold_25 : decode cX4_foretold 25 = .ok (.invokevirtual 164, 3) := by decide +kernel
theorem dX4_foretold_28 : decode cX4_foretold 28 = .ok (.aload_n 0, 1) := by decide +kernel
theorem dX4_foretold_29 : decode cX4_foretold 29 = .ok (.getfield 30, 3) := by decide +kernel
theorem dX4_foretold_32 : decode cX4_foretold 32 = .ok (.sipush 240, 3) := by decide +kernel
theorem dX4_foretold_35 : decode cX4_foretold 35 = .ok (.iload_n 1, 1) := by decide +kernel
theorem dX4_foretold_36 : decode cX4_foretold 36 = .ok (.iconst 1, 1) := by decide +kernel
theorem dX4_foretold_37 : decode cX4_foretold 37 = .ok (.if_icmp .ne 7, 3) := by decide +kernel
theorem dX4_foretold_40 : decode cX4_foretold 40 = .ok (.iconst 1, 1) := by decide +kernel
theorem dX4_foretold_41 : decode cX4_foretold 41 = .ok (.goto 4, 3) := by decide +kernel
theorem dX4_foretold_44 : decode cX4_foretold 44 = .ok (.iconst 0, 1) := by decide +kernel
theorem dX4_foretold_45 : decode cX4_foretold 45 = .ok (.invokevirtual 134, 3) := by decide +kernel
theorem dX4_foretold_48 : decode cX4_foretold 48 = .ok (.iload_n 2, 1) := by decide +kernel
theorem dX4_foretold_49 : decode cX4_foretold 49 = .ok (.ifCond .ne 11, 3) := by decide +kernel
theorem dX4_foretold_52 : decode cX4_foretold 52 = .ok (.aload_n 0, 1) := by decide +kernel
theorem dX4_foretold_53 : decode cX4_foretold 53 = .ok (.getfield 30, 3) := by decide +kernel
theorem dX4_foretold_56 : decode cX4_foretold 56 = .ok (.invokevirtual 167, 3) := by decide +kernel
theorem dX4_foretold_59 : decode cX4_foretold 59 = .ok (.ireturn, 1) := by decide +kernel
theorem dX4_foretold_60 : decode cX4_foretold 60 = .ok (.iload_n 2, 1) := by decide +kernel
theorem dX4_foretold_61 : decode cX4_foretold 61 = .ok (.iconst 1, 1) := by decide +kernel
theorem dX4_foretold_62 : decode cX4_foretold 62 = .ok (.if_icmp .ne 13, 3) := by decide +kernel
theorem dX4_foretold_65 : decode cX4_foretold 65 = .ok (.aload_n 0, 1) := by decide +kernel
theorem dX4_foretold_66 : decode cX4_foretold 66 = .ok (.getfield 30, 3) := by decide +kernel
theorem dX4_foretold_69 : decode cX4_foretold 69 = .ok (.invokevirtual 157, 3) := by decide +kernel
theorem dX4_foretold_72 : decode cX4_foretold 72 = .ok (.goto 10, 3) := by decide +kernel
theorem dX4_foretold_75 : decode cX4_foretold 75 = .ok (.aload_n 0, 1) := by decide +kernel
theorem dX4_foretold_76 : decode cX4_foretold 76 = .ok (.getfield 30, 3) := by decide +kernel
theorem dX4_foretold_79 : decode cX4_foretold 79 = .ok (.invokevirtual 170, 3) := by decide +kernel
theorem dX4_foretold_82 : decode cX4_foretold 82 = .ok (.ireturn, 1) := by decide +kernel
set_option maxRecDepth 20000 in
theorem ggX4_text_X4_isWithin : GoodIn wsX4_text wsX4_isWithin := goodIn_r _ [5] rfl (by decide +kernel)
set_option maxRecDepth 20000 in
theorem gX4_text_X4_isWithin : GoodIn wsX4_text (va_wsS RX4 50 yX4_isWithin wsX4_isWithin) := goodIn_app (goodIn_r _ [2, 3, 4] rfl (by decide +kernel)) ggX4_text_X4_isWithin
theorem dX4_text_0 : decode cX4_text 0 = .ok (.iload_n 1, 1) := by decide +kernel
theorem dX4_text_1 : decode cX4_text 1 = .ok (.iconst 0, 1) := by decide +kernel
theorem dX4_text_2 : decode cX4_text 2 = .ok (.iconst 1, 1) := by decide +kernel
theorem dX4_text_3 : decode cX4_text 3 = .ok (.invokestatic 50, 3) := by decide +kernel
theorem dX4_text_6 : decode cX4_text 6 = .ok (.ifCond .ne 6, 3) := by decide +kernel
theorem dX4_text_9 : decode cX4_text 9 = .ok (.bipush (-2), 2) := by decide +kernel
theorem dX4_text_11 : decode cX4_text 11 = .ok (.ireturn, 1) := by decide +kernel
theorem dX4_text_12 : decode cX4_text 12 = .ok (.aload_n 0, 1) := by decide +kernel
theorem dX4_text_13 : decode cX4_text 13 = .ok (.getfield 42, 3) := by decide +kernel
theorem dX4_text_16 : decode cX4_text 16 = .ok (.istore_n 2, 1) := by decide +kernel
theorem dX4_text_17 : decode cX4_text 17 = .ok (.aload_n 0, 1) := by decide +kernel
theorem dX4_text_18 : decode cX4_text 18 = .ok (.iload_n 1, 1) := by decide +kernel
theorem dX4_text_19 : decode cX4_text 19 = .ok (.putfield 42, 3) := by decide +kernel
theorem dX4_text_22 : decode cX4_text 22 = .ok (.iload_n 2, 1) := by decide +kernel
theorem dX4_text_23 : decode cX4_text 23 = .ok (.ireturn, 1) := by decide +kernel
set_option maxRecDepth 20000 in
theorem ggX4_days_X4_isWithin : GoodIn wsX4_days wsX4_isWithin := goodIn_r _ [6] rfl (by decide +kernel)
set_option maxRecDepth 20000 in
theorem gX4_days_X4_isWithin : GoodIn wsX4_days (va_wsS RX4 50 yX4_isWithin wsX4_isWithin) := goodIn_app (goodIn_r _ [3, 4, 5] rfl (by decide +kernel)) ggX4_days_X4_isWithin
set_option maxRecDepth 20000 in
theorem ggX4_days_X3_hasBegun : GoodIn wsX4_days wsX3_hasBegun := goodIn_r _ [11, 12, 18, 19, 20, 21, 22, 23] rfl (by decide +kernel)
set_option maxRecDepth 20000 in
theorem gX4_days_X3_hasBegun : GoodIn wsX4_days (wsV RX4 54 RX3 yX3_hasBegun wsX3_hasBegun) := goodIn_app (goodIn_r _ [7, 8, 9, 10] rfl (by decide +kernel)) ggX4_days_X3_hasBegun
theorem dX4_days_0 : decode cX4_days 0 = .ok (.iload_n 1, 1) := by decide +kernel
theorem dX4_days_1 : decode cX4_days 1 = .ok (.iconst 1, 1) := by decide +kernel
theorem dX4_days_2 : decode cX4_days 2 = .ok (.sipush 363, 3) := by decide +kernel
theorem dX4_days_5 : decode cX4_days 5 = .ok (.invokestatic 50, 3) := by decide +kernel
theorem dX4_days_8 : decode cX4_days 8 = .ok (.ifCond .ne 6, 3) := by decide +kernel
theorem dX4_days_11 : decode cX4_days 11 = .ok (.bipush (-2), 2) := by decide +kernel
theorem dX4_days_13 : decode cX4_days 13 = .ok (.ireturn, 1) := by decide +kernel
theorem dX4_days_14 : decode cX4_days 14 = .ok (.aload_n 0, 1) := by decide +kernel
theorem dX4_days_15 : decode cX4_days 15 = .ok (.getfield 38, 3) := by decide +kernel
theorem dX4_days_18 : decode cX4_days 18 = .ok (.invokevirtual 54, 3) := by decide +kernel
theorem dX4_days_21 : decode cX4_days 21 = .ok (.ifCond .ne 6, 3) := by decide +kernel
theorem dX4_days_24 : decode cX4_days 24 = .ok (.bipush (-3), 2) := by decide +kernel
theorem dX4_days_26 : decode cX4_days 26 = .ok (.ireturn, 1) := by decide +kernel
theorem dX4_days_27 : decode cX4_days 27 = .ok (.aload_n 0, 1) := by decide +kernel
theorem dX4_days_28 : decode cX4_days 28 = .ok (.getfield 38, 3) := by decide +kernel
theorem dX4_days_31 : decode cX4_days 31 = .ok (.getfield 173, 3) := by decide +kernel
theorem dX4_days_34 : decode cX4_days 34 = .ok (.iload_n 1, 1) := by decide +kernel
theorem dX4_days_35 : decode cX4_days 35 = .ok (.iadd, 1) := by decide +kernel
theorem dX4_days_36 : decode cX4_days 36 = .ok (.sipush 363, 3) := by decide +kernel
theorem dX4_days_39 : decode cX4_days 39 = .ok (.if_icmp .le 6, 3) := by decide +kernel
theorem dX4_days_42 : decode cX4_days 42 = .ok (.bipush (-4), 2) := by decide +kernel
theorem dX4_days_44 : decode cX4_days 44 = .ok (.ireturn, 1) := by decide +kernel
theorem dX4_days_45 : decode cX4_days 45 = .ok (.aload_n 0, 1) := by decide +kernel
theorem dX4_days_46 : decode cX4_days 46 = .ok (.getfield 38, 3) := by decide +kernel
theorem dX4_days_49 : decode cX4_days 49 = .ok (.dup, 1) := by decide +kernel
theorem dX4_days_50 : decode cX4_days 50 = .ok (.getfield 173, 3) := by decide +kernel
theorem dX4_days_53 : decode cX4_days 53 = .ok (.iload_n 1, 1) := by decide +kernel
theorem dX4_days_54 : decode cX4_days 54 = .ok (.iadd, 1) := by decide +kernel
theorem dX4_days_55 : decode cX4_days 55 = .ok (.putfield 173, 3) := by decide +kernel
theorem dX4_days_58 : decode cX4_days 58 = .ok (.aload_n 0, 1) := by decide +kernel
theorem dX4_days_59 : decode cX4_days 59 = .ok (.getfield 38, 3) := by decide +kernel
theorem dX4_days_62 : decode cX4_days 62 = .ok (.getfield 173, 3) := by decide +kernel
theorem dX4_days_65 : decode cX4_days 65 = .ok (.ireturn, 1) := by decide +kernel
set_option maxRecDepth 20000 in
theorem ggX4_sick_X2_hasServant : GoodIn wsX4_sick wsX2_hasServant := goodIn_r _ [7, 8, 59, 60, 61, 62, 63, 64, 65, 66, 67] rfl (by decide +kernel)
set_option maxRecDepth 20000 in
theorem gX4_sick_X2_hasServant : GoodIn wsX4_sick (wsV RX4 90 RX2 yX2_hasServant wsX2_hasServant) := goodIn_app (goodIn_r _ [3, 4, 5, 6] rfl (by decide +kernel)) ggX4_sick_X2_hasServant
set_option maxRecDepth 20000 in
theorem ggX4_sick_X4_isWithin : GoodIn wsX4_sick wsX4_isWithin := goodIn_r _ [12] rfl (by decide +kernel)
set_option maxRecDepth 20000 in
theorem gX4_sick_X4_isWithin : GoodIn wsX4_sick (va_wsS RX4 50 yX4_isWithin wsX4_isWithin) := goodIn_app (goodIn_r _ [9, 10, 11] rfl (by decide +kernel)) ggX4_sick_X4_isWithin
set_option maxRecDepth 20000 in
theorem ggX4_sick_X3_servesNow : GoodIn wsX4_sick wsX3_servesNow := goodIn_r _ [17, 18, 19, 20, 21, 16, 22, 23, 24, 25, 26, 27, 28, 29, 30, 31, 32, 33, 34, 68, 69, 70, 71, 72, 73, 74, 75, 76, 77, 78, 79, 80, 81] rfl (by decide +kernel)
set_option maxRecDepth 20000 in
theorem gX4_sick_X3_servesNow : GoodIn wsX4_sick (wsV RX4 176 RX3 yX3_servesNow wsX3_servesNow) := goodIn_app (goodIn_r _ [13, 14, 15, 16] rfl (by decide +kernel)) ggX4_sick_X3_servesNow
set_option maxRecDepth 20000 in
theorem ggX4_sick_X3_fallSick : GoodIn wsX4_sick wsX3_fallSick := goodIn_r _ [38, 18, 39, 40, 41, 42, 43, 44, 45, 16, 46, 47, 48, 49, 68, 69, 70, 71, 72, 73] rfl (by decide +kernel)
set_option maxRecDepth 20000 in
theorem gX4_sick_X3_fallSick : GoodIn wsX4_sick (wsV RX4 179 RX3 yX3_fallSick wsX3_fallSick) := goodIn_app (goodIn_r _ [35, 36, 37, 16] rfl (by decide +kernel)) ggX4_sick_X3_fallSick
set_option maxRecDepth 20000 in
theorem ggX4_sick_X3_countSick : GoodIn wsX4_sick wsX3_countSick := goodIn_r _ [53, 43, 44, 45, 16, 46, 47, 48, 49, 68, 69, 70, 71, 72, 73] rfl (by decide +kernel)
set_option maxRecDepth 20000 in
theorem gX4_sick_X3_countSick : GoodIn wsX4_sick (wsV RX4 183 RX3 yX3_countSick wsX3_countSick) := goodIn_app (goodIn_r _ [50, 51, 52, 16] rfl (by decide +kernel)) ggX4_sick_X3_countSick
theorem dX4_sick_0 : decode cX4_sick 0 = .ok (.aload_n 0, 1) := by decide +kernel
theorem dX4_sick_1 : decode cX4_sick 1 = .ok (.getfield 12, 3) := by decide +kernel
theorem dX4_sick_4 : decode cX4_sick 4 = .ok (.iload_n 1, 1) := by decide +kernel
theorem dX4_sick_5 : decode cX4_sick 5 = .ok (.invokevirtual 90, 3) := by decide +kernel
theorem dX4_sick_8 : decode cX4_sick 8 = .ok (.ifCond .ne 5, 3) := by decide +kernel
theorem dX4_sick_11 : decode cX4_sick 11 = .ok (.iconst (-1), 1) := by decide +kernel
theorem dX4_sick_12 : decode cX4_sick 12 = .ok (.ireturn, 1) := by decide +kernel
theorem dX4_sick_13 : decode cX4_sick 13 = .ok (.iload_n 2, 1) := by decide +kernel
theorem dX4_sick_14 : decode cX4_sick 14 = .ok (.iconst 1, 1) := by decide +kernel
theorem dX4_sick_15 : decode cX4_sick 15 = .ok (.sipush 363, 3) := by decide +kernel
theorem dX4_sick_18 : decode cX4_sick 18 = .ok (.invokestatic 50, 3) := by decide +kernel
theorem dX4_sick_21 : decode cX4_sick 21 = .ok (.ifCond .ne 6, 3) := by decide +kernel
theorem dX4_sick_24 : decode cX4_sick 24 = .ok (.bipush (-2), 2) := by decide +kernel
theorem dX4_sick_26 : decode cX4_sick 26 = .ok (.ireturn, 1) := by decide +kernel
theorem dX4_sick_27 : decode cX4_sick 27 = .ok (.aload_n 0, 1) := by decide +kernel
theorem dX4_sick_28 : decode cX4_sick 28 = .ok (.getfield 38, 3) := by decide +kernel
theorem dX4_sick_31 : decode cX4_sick 31 = .ok (.iload_n 1, 1) := by decide +kernel
theorem dX4_sick_32 : decode cX4_sick 32 = .ok (.invokevirtual 176, 3) := by decide +kernel
theorem dX4_sick_35 : decode cX4_sick 35 = .ok (.ifCond .ne 6, 3) := by decide +kernel
theorem dX4_sick_38 : decode cX4_sick 38 = .ok (.bipush (-3), 2) := by decide +kernel
theorem dX4_sick_40 : decode cX4_sick 40 = .ok (.ireturn, 1) := by decide +kernel
theorem dX4_sick_41 : decode cX4_sick 41 = .ok (.aload_n 0, 1) := by decide +kernel
theorem dX4_sick_42 : decode cX4_sick 42 = .ok (.getfield 38, 3) := by decide +kernel
theorem dX4_sick_45 : decode cX4_sick 45 = .ok (.iload_n 1, 1) := by decide +kernel
theorem dX4_sick_46 : decode cX4_sick 46 = .ok (.iload_n 2, 1) := by decide +kernel
theorem dX4_sick_47 : decode cX4_sick 47 = .ok (.invokevirtual 179, 3) := by decide +kernel
theorem dX4_sick_50 : decode cX4_sick 50 = .ok (.aload_n 0, 1) := by decide +kernel
theorem dX4_sick_51 : decode cX4_sick 51 = .ok (.getfield 38, 3) := by decide +kernel
theorem dX4_sick_54 : decode cX4_sick 54 = .ok (.iload_n 1, 1) := by decide +kernel
theorem dX4_sick_55 : decode cX4_sick 55 = .ok (.sipush 363, 3) := by decide +kernel
theorem dX4_sick_58 : decode cX4_sick 58 = .ok (.invokevirtual 183, 3) := by decide +kernel
theorem dX4_sick_61 : decode cX4_sick 61 = .ok (.ireturn, 1) := by decide +kernel
set_option maxRecDepth 20000 in
theorem ggX4_warn_X2_hasServant : GoodIn wsX4_warn wsX2_hasServant := goodIn_r _ [8, 9, 52, 53, 54, 55, 56, 57, 58, 59, 60] rfl (by decide +kernel)
set_option maxRecDepth 20000 in
theorem gX4_warn_X2_hasServant : GoodIn wsX4_warn (wsV RX4 90 RX2 yX2_hasServant wsX2_hasServant) := goodIn_app (goodIn_r _ [4, 5, 6, 7] rfl (by decide +kernel)) ggX4_warn_X2_hasServant
set_option maxRecDepth 20000 in
theorem ggX4_warn_X3_servesNow : GoodIn wsX4_warn wsX3_servesNow := goodIn_r _ [14, 15, 16, 17, 18, 13, 19, 20, 21, 22, 23, 24, 25, 26, 27, 28, 29, 30, 31, 46, 47, 48, 49, 50, 51, 61, 62, 63, 64, 65, 66, 67, 68] rfl (by decide +kernel)
set_option maxRecDepth 20000 in
theorem gX4_warn_X3_servesNow : GoodIn wsX4_warn (wsV RX4 176 RX3 yX3_servesNow wsX3_servesNow) := goodIn_app (goodIn_r _ [10, 11, 12, 13] rfl (by decide +kernel)) ggX4_warn_X3_servesNow
set_option maxRecDepth 20000 in
theorem ggX4_warn_X3_giveWarning : GoodIn wsX4_warn wsX3_giveWarning := goodIn_r _ [35, 36, 25, 15, 37, 38, 39, 40, 46, 47, 48, 49, 50, 51] rfl (by decide +kernel)
set_option maxRecDepth 20000 in
theorem gX4_warn_X3_giveWarning : GoodIn wsX4_warn (wsV RX4 190 RX3 yX3_giveWarning wsX3_giveWarning) := goodIn_app (goodIn_r _ [32, 33, 34, 13] rfl (by decide +kernel)) ggX4_warn_X3_giveWarning
theorem dX4_warn_0 : decode cX4_warn 0 = .ok (.aload_n 0, 1) := by decide +kernel
theorem dX4_warn_1 : decode cX4_warn 1 = .ok (.getfield 12, 3) := by decide +kernel
theorem dX4_warn_4 : decode cX4_warn 4 = .ok (.iload_n 1, 1) := by decide +kernel
theorem dX4_warn_5 : decode cX4_warn 5 = .ok (.invokevirtual 90, 3) := by decide +kernel
theorem dX4_warn_8 : decode cX4_warn 8 = .ok (.ifCond .ne 5, 3) := by decide +kernel
theorem dX4_warn_11 : decode cX4_warn 11 = .ok (.iconst (-1), 1) := by decide +kernel
theorem dX4_warn_12 : decode cX4_warn 12 = .ok (.ireturn, 1) := by decide +kernel
theorem dX4_warn_13 : decode cX4_warn 13 = .ok (.aload_n 0, 1) := by decide +kernel
theorem dX4_warn_14 : decode cX4_warn 14 = .ok (.getfield 38, 3) := by decide +kernel
theorem dX4_warn_17 : decode cX4_warn 17 = .ok (.iload_n 1, 1) := by decide +kernel
theorem dX4_warn_18 : decode cX4_warn 18 = .ok (.invokevirtual 176, 3) := by decide +kernel
theorem dX4_warn_21 : decode cX4_warn 21 = .ok (.ifCond .eq 15, 3) := by decide +kernel
theorem dX4_warn_24 : decode cX4_warn 24 = .ok (.aload_n 0, 1) := by decide +kernel
theorem dX4_warn_25 : decode cX4_warn 25 = .ok (.getfield 38, 3) := by decide +kernel
theorem dX4_warn_28 : decode cX4_warn 28 = .ok (.getfield 186, 3) := by decide +kernel
theorem dX4_warn_31 : decode cX4_warn 31 = .ok (.iload_n 1, 1) := by decide +kernel
theorem dX4_warn_32 : decode cX4_warn 32 = .ok (.baload, 1) := by decide +kernel
theorem dX4_warn_33 : decode cX4_warn 33 = .ok (.ifCond .eq 6, 3) := by decide +kernel
theorem dX4_warn_36 : decode cX4_warn 36 = .ok (.bipush (-3), 2) := by decide +kernel
theorem dX4_warn_38 : decode cX4_warn 38 = .ok (.ireturn, 1) := by decide +kernel
theorem dX4_warn_39 : decode cX4_warn 39 = .ok (.aload_n 0, 1) := by decide +kernel
theorem dX4_warn_40 : decode cX4_warn 40 = .ok (.getfield 38, 3) := by decide +kernel
theorem dX4_warn_43 : decode cX4_warn 43 = .ok (.iload_n 1, 1) := by decide +kernel
theorem dX4_warn_44 : decode cX4_warn 44 = .ok (.invokevirtual 190, 3) := by decide +kernel
theorem dX4_warn_47 : decode cX4_warn 47 = .ok (.ireturn, 1) := by decide +kernel
set_option maxRecDepth 20000 in
theorem ggX4_run_X2_hasServant : GoodIn wsX4_run wsX2_hasServant := goodIn_r _ [9, 10, 48, 49, 50, 51, 52, 53, 54, 55, 56] rfl (by decide +kernel)
set_option maxRecDepth 20000 in
theorem gX4_run_X2_hasServant : GoodIn wsX4_run (wsV RX4 90 RX2 yX2_hasServant wsX2_hasServant) := goodIn_app (goodIn_r _ [5, 6, 7, 8] rfl (by decide +kernel)) ggX4_run_X2_hasServant
set_option maxRecDepth 20000 in
theorem ggX4_run_X3_servesNow : GoodIn wsX4_run wsX3_servesNow := goodIn_r _ [15, 16, 17, 18, 19, 14, 20, 21, 22, 23, 24, 25, 26, 27, 28, 29, 30, 31, 32, 42, 43, 44, 45, 46, 47, 57, 58, 59, 60, 61, 62, 63, 64] rfl (by decide +kernel)
set_option maxRecDepth 20000 in
theorem gX4_run_X3_servesNow : GoodIn wsX4_run (wsV RX4 176 RX3 yX3_servesNow wsX3_servesNow) := goodIn_app (goodIn_r _ [11, 12, 13, 14] rfl (by decide +kernel)) ggX4_run_X3_servesNow
set_option maxRecDepth 20000 in
theorem ggX4_run_X3_leave : GoodIn wsX4_run wsX3_leave := goodIn_r _ [36, 26, 16, 42, 43, 44, 45, 46, 47] rfl (by decide +kernel)
set_option maxRecDepth 20000 in
theorem gX4_run_X3_leave : GoodIn wsX4_run (wsV RX4 196 RX3 yX3_leave wsX3_leave) := goodIn_app (goodIn_r _ [33, 34, 35, 14] rfl (by decide +kernel)) ggX4_run_X3_leave
theorem dX4_run_0 : decode cX4_run 0 = .ok (.aload_n 0, 1) := by decide +kernel
theorem dX4_run_1 : decode cX4_run 1 = .ok (.getfield 12, 3) := by decide +kernel
theorem dX4_run_4 : decode cX4_run 4 = .ok (.iload_n 1, 1) := by decide +kernel
theorem dX4_run_5 : decode cX4_run 5 = .ok (.invokevirtual 90, 3) := by decide +kernel
theorem dX4_run_8 : decode cX4_run 8 = .ok (.ifCond .ne 5, 3) := by decide +kernel
theorem dX4_run_11 : decode cX4_run 11 = .ok (.iconst (-1), 1) := by decide +kernel
theorem dX4_run_12 : decode cX4_run 12 = .ok (.ireturn, 1) := by decide +kernel
theorem dX4_run_13 : decode cX4_run 13 = .ok (.aload_n 0, 1) := by decide +kernel
theorem dX4_run_14 : decode cX4_run 14 = .ok (.getfield 38, 3) := by decide +kernel
theorem dX4_run_17 : decode cX4_run 17 = .ok (.iload_n 1, 1) := by decide +kernel
theorem dX4_run_18 : decode cX4_run 18 = .ok (.invokevirtual 176, 3) := by decide +kernel
theorem dX4_run_21 : decode cX4_run 21 = .ok (.ifCond .ne 6, 3) := by decide +kernel
theorem dX4_run_24 : decode cX4_run 24 = .ok (.bipush (-3), 2) := by decide +kernel
theorem dX4_run_26 : decode cX4_run 26 = .ok (.ireturn, 1) := by decide +kernel
theorem dX4_run_27 : decode cX4_run 27 = .ok (.aload_n 0, 1) := by decide +kernel
theorem dX4_run_28 : decode cX4_run 28 = .ok (.getfield 38, 3) := by decide +kernel
theorem dX4_run_31 : decode cX4_run 31 = .ok (.getfield 193, 3) := by decide +kernel
theorem dX4_run_34 : decode cX4_run 34 = .ok (.iload_n 1, 1) := by decide +kernel
theorem dX4_run_35 : decode cX4_run 35 = .ok (.aload_n 0, 1) := by decide +kernel
theorem dX4_run_36 : decode cX4_run 36 = .ok (.getfield 42, 3) := by decide +kernel
theorem dX4_run_39 : decode cX4_run 39 = .ok (.ifCond .ne 7, 3) := by decide +kernel
theorem dX4_run_42 : decode cX4_run 42 = .ok (.iconst 1, 1) := by decide +kernel
theorem dX4_run_43 : decode cX4_run 43 = .ok (.goto 4, 3) := by decide +kernel
theorem dX4_run_46 : decode cX4_run 46 = .ok (.iconst 0, 1) := by decide +kernel
theorem dX4_run_47 : decode cX4_run 47 = .ok (.bastore, 1) := by decide +kernel
theorem dX4_run_48 : decode cX4_run 48 = .ok (.aload_n 0, 1) := by decide +kernel
theorem dX4_run_49 : decode cX4_run 49 = .ok (.getfield 38, 3) := by decide +kernel
theorem dX4_run_52 : decode cX4_run 52 = .ok (.iload_n 1, 1) := by decide +kernel
theorem dX4_run_53 : decode cX4_run 53 = .ok (.invokevirtual 196, 3) := by decide +kernel
theorem dX4_run_56 : decode cX4_run 56 = .ok (.ireturn, 1) := by decide +kernel
set_option maxRecDepth 20000 in
theorem ggX4_send_X2_hasServant : GoodIn wsX4_send wsX2_hasServant := goodIn_r _ [7, 8, 53, 54, 55, 56, 57, 58, 59, 60, 61] rfl (by decide +kernel)
set_option maxRecDepth 20000 in
theorem gX4_send_X2_hasServant : GoodIn wsX4_send (wsV RX4 90 RX2 yX2_hasServant wsX2_hasServant) := goodIn_app (goodIn_r _ [3, 4, 5, 6] rfl (by decide +kernel)) ggX4_send_X2_hasServant
set_option maxRecDepth 20000 in
theorem ggX4_send_X3_servesNow : GoodIn wsX4_send wsX3_servesNow := goodIn_r _ [13, 14, 15, 16, 17, 12, 18, 19, 20, 21, 22, 23, 24, 25, 26, 27, 28, 29, 30, 62, 63, 64, 65, 66, 67, 68, 69, 70, 71, 72, 73, 74, 75] rfl (by decide +kernel)
set_option maxRecDepth 20000 in
theorem gX4_send_X3_servesNow : GoodIn wsX4_send (wsV RX4 176 RX3 yX3_servesNow wsX3_servesNow) := goodIn_app (goodIn_r _ [9, 10, 11, 12] rfl (by decide +kernel)) ggX4_send_X3_servesNow
set_option maxRecDepth 20000 in
theorem ggX4_send_X4_isHeldAboveSkill : GoodIn wsX4_send wsX4_isHeldAboveSkill := goodIn_r _ [35, 36, 37, 1, 38, 39, 40, 41, 6, 42, 43, 48, 49, 50, 51, 52, 68, 69, 70, 71, 72, 73, 74, 75, 53, 54, 55, 56, 57, 58, 59, 60, 61] rfl (by decide +kernel)
set_option maxRecDepth 20000 in
theorem gX4_send_X4_isHeldAboveSkill : GoodIn wsX4_send (wsV RX4 199 RX4 yX4_isHeldAboveSkill wsX4_isHeldAboveSkill) := goodIn_app (goodIn_r _ [31, 32, 33, 34] rfl (by decide +kernel)) ggX4_send_X4_isHeldAboveSkill
set_option maxRecDepth 20000 in
theorem ggX4_send_X3_leave : GoodIn wsX4_send wsX3_leave := goodIn_r _ [47, 24, 14, 62, 63, 64, 65, 66, 67] rfl (by decide +kernel)
set_option maxRecDepth 20000 in
theorem gX4_send_X3_leave : GoodIn wsX4_send (wsV RX4 196 RX3 yX3_leave wsX3_leave) := goodIn_app (goodIn_r _ [44, 45, 46, 12] rfl (by decide +kernel)) ggX4_send_X3_leave
theorem dX4_send_0 : decode cX4_send 0 = .ok (.aload_n 0, 1) := by decide +kernel
theorem dX4_send_1 : decode cX4_send 1 = .ok (.getfield 12, 3) := by decide +kernel
theorem dX4_send_4 : decode cX4_send 4 = .ok (.iload_n 1, 1) := by decide +kernel
theorem dX4_send_5 : decode cX4_send 5 = .ok (.invokevirtual 90, 3) := by decide +kernel
theorem dX4_send_8 : decode cX4_send 8 = .ok (.ifCond .ne 5, 3) := by decide +kernel
theorem dX4_send_11 : decode cX4_send 11 = .ok (.iconst (-1), 1) := by decide +kernel
theorem dX4_send_12 : decode cX4_send 12 = .ok (.ireturn, 1) := by decide +kernel
theorem dX4_send_13 : decode cX4_send 13 = .ok (.aload_n 0, 1) := by decide +kernel
theorem dX4_send_14 : decode cX4_send 14 = .ok (.getfield 38, 3) := by decide +kernel
theorem dX4_send_17 : decode cX4_send 17 = .ok (.iload_n 1, 1) := by decide +kernel
theorem dX4_send_18 : decode cX4_send 18 = .ok (.invokevirtual 176, 3) := by decide +kernel
theorem dX4_send_21 : decode cX4_send 21 = .ok (.ifCond .eq 11, 3) := by decide +kernel
theorem dX4_send_24 : decode cX4_send 24 = .ok (.aload_n 0, 1) := by decide +kernel
theorem dX4_send_25 : decode cX4_send 25 = .ok (.iload_n 1, 1) := by decide +kernel
theorem dX4_send_26 : decode cX4_send 26 = .ok (.invokevirtual 199, 3) := by decide +kernel
theorem dX4_send_29 : decode cX4_send 29 = .ok (.ifCond .ne 6, 3) := by decide +kernel
theorem dX4_send_32 : decode cX4_send 32 = .ok (.bipush (-3), 2) := by decide +kernel
theorem dX4_send_34 : decode cX4_send 34 = .ok (.ireturn, 1) := by decide +kernel
theorem dX4_send_35 : decode cX4_send 35 = .ok (.aload_n 0, 1) := by decide +kernel
theorem dX4_send_36 : decode cX4_send 36 = .ok (.getfield 38, 3) := by decide +kernel
theorem dX4_send_39 : decode cX4_send 39 = .ok (.iload_n 1, 1) := by decide +kernel
theorem dX4_send_40 : decode cX4_send 40 = .ok (.invokevirtual 196, 3) := by decide +kernel
theorem dX4_send_43 : decode cX4_send 43 = .ok (.ireturn, 1) := by decide +kernel
set_option maxRecDepth 20000 in
theorem ggX4_due_X2_hasServant : GoodIn wsX4_due wsX2_hasServant := goodIn_r _ [8, 9, 57, 58, 59, 60, 61, 62, 63, 64, 65] rfl (by decide +kernel)
set_option maxRecDepth 20000 in
theorem gX4_due_X2_hasServant : GoodIn wsX4_due (wsV RX4 90 RX2 yX2_hasServant wsX2_hasServant) := goodIn_app (goodIn_r _ [4, 5, 6, 7] rfl (by decide +kernel)) ggX4_due_X2_hasServant
set_option maxRecDepth 20000 in
theorem ggX4_due_X4_isDay : GoodIn wsX4_due wsX4_isDay := goodIn_r _ [13, 14, 15, 12, 16] rfl (by decide +kernel)
set_option maxRecDepth 20000 in
theorem gX4_due_X4_isDay : GoodIn wsX4_due (va_wsS RX4 202 yX4_isDay wsX4_isDay) := goodIn_app (goodIn_r _ [10, 11, 12] rfl (by decide +kernel)) ggX4_due_X4_isDay
set_option maxRecDepth 20000 in
theorem ggX4_due_X3_hasBegun : GoodIn wsX4_due wsX3_hasBegun := goodIn_r _ [21, 22, 66, 67, 68, 69, 70, 71] rfl (by decide +kernel)
set_option maxRecDepth 20000 in
theorem gX4_due_X3_hasBegun : GoodIn wsX4_due (wsV RX4 54 RX3 yX3_hasBegun wsX3_hasBegun) := goodIn_app (goodIn_r _ [17, 18, 19, 20] rfl (by decide +kernel)) ggX4_due_X3_hasBegun
set_option maxRecDepth 20000 in
theorem ggX4_due_X0_isBound : GoodIn wsX4_due wsX0_isBound := goodIn_r _ [27, 28, 72, 73, 74, 75, 76, 77, 78, 79] rfl (by decide +kernel)
set_option maxRecDepth 20000 in
theorem gX4_due_X0_isBound : GoodIn wsX4_due (wsV RX4 205 RX0 yX0_isBound wsX0_isBound) := goodIn_app (goodIn_r _ [23, 24, 25, 26] rfl (by decide +kernel)) ggX4_due_X0_isBound
set_option maxRecDepth 20000 in
theorem ggX4_due_X3_wagesDue : GoodIn wsX4_due wsX3_wagesDue := goodIn_r _ [32, 33, 34, 35, 36, 37, 38, 39, 40, 41, 42, 43, 20, 44, 45, 46, 47, 48, 49, 50, 51, 66, 67, 68, 69, 70, 71, 72, 73, 74, 75, 76, 77, 78, 79] rfl (by decide +kernel)
set_option maxRecDepth 20000 in
theorem gX4_due_X3_wagesDue : GoodIn wsX4_due (wsV RX4 208 RX3 yX3_wagesDue wsX3_wagesDue) := goodIn_app (goodIn_r _ [29, 30, 31, 20] rfl (by decide +kernel)) ggX4_due_X3_wagesDue
theorem dX4_due_0 : decode cX4_due 0 = .ok (.aload_n 0, 1) := by decide +kernel
theorem dX4_due_1 : decode cX4_due 1 = .ok (.getfield 12, 3) := by decide +kernel
theorem dX4_due_4 : decode cX4_due 4 = .ok (.iload_n 1, 1) := by decide +kernel
theorem dX4_due_5 : decode cX4_due 5 = .ok (.invokevirtual 90, 3) := by decide +kernel
theorem dX4_due_8 : decode cX4_due 8 = .ok (.ifCond .ne 5, 3) := by decide +kernel
theorem dX4_due_11 : decode cX4_due 11 = .ok (.iconst (-1), 1) := by decide +kernel
theorem dX4_due_12 : decode cX4_due 12 = .ok (.ireturn, 1) := by decide +kernel
theorem dX4_due_13 : decode cX4_due 13 = .ok (.iload_n 2, 1) := by decide +kernel
theorem dX4_due_14 : decode cX4_due 14 = .ok (.invokestatic 202, 3) := by decide +kernel
theorem dX4_due_17 : decode cX4_due 17 = .ok (.ifCond .ne 6, 3) := by decide +kernel
theorem dX4_due_20 : decode cX4_due 20 = .ok (.bipush (-2), 2) := by decide +kernel
theorem dX4_due_22 : decode cX4_due 22 = .ok (.ireturn, 1) := by decide +kernel
theorem dX4_due_23 : decode cX4_due 23 = .ok (.aload_n 0, 1) := by decide +kernel
theorem dX4_due_24 : decode cX4_due 24 = .ok (.getfield 38, 3) := by decide +kernel
theorem dX4_due_27 : decode cX4_due 27 = .ok (.invokevirtual 54, 3) := by decide +kernel
theorem dX4_due_30 : decode cX4_due 30 = .ok (.ifCond .eq 14, 3) := by decide +kernel
theorem dX4_due_33 : decode cX4_due 33 = .ok (.aload_n 0, 1) := by decide +kernel
theorem dX4_due_34 : decode cX4_due 34 = .ok (.getfield 26, 3) := by decide +kernel
theorem dX4_due_37 : decode cX4_due 37 = .ok (.iload_n 1, 1) := by decide +kernel
theorem dX4_due_38 : decode cX4_due 38 = .ok (.invokevirtual 205, 3) := by decide +kernel
theorem dX4_due_41 : decode cX4_due 41 = .ok (.ifCond .ne 6, 3) := by decide +kernel
theorem dX4_due_44 : decode cX4_due 44 = .ok (.bipush (-3), 2) := by decide +kernel
theorem dX4_due_46 : decode cX4_due 46 = .ok (.ireturn, 1) := by decide +kernel
theorem dX4_due_47 : decode cX4_due 47 = .ok (.aload_n 0, 1) := by decide +kernel
theorem dX4_due_48 : decode cX4_due 48 = .ok (.getfield 38, 3) := by decide +kernel
theorem dX4_due_51 : decode cX4_due 51 = .ok (.iload_n 1, 1) := by decide +kernel
theorem dX4_due_52 : decode cX4_due 52 = .ok (.iload_n 2, 1) := by decide +kernel
theorem dX4_due_53 : decode cX4_due 53 = .ok (.invokevirtual 208, 3) := by decide +kernel
theorem dX4_due_56 : decode cX4_due 56 = .ok (.ireturn, 1) := by decide +kernel
set_option maxRecDepth 20000 in
theorem ggX4_owes_X2_hasMaster : GoodIn wsX4_owes wsX2_hasMaster := goodIn_r _ [9, 10, 60, 61, 62, 63, 64, 65, 66, 67, 68] rfl (by decide +kernel)
set_option maxRecDepth 20000 in
theorem gX4_owes_X2_hasMaster : GoodIn wsX4_owes (wsV RX4 84 RX2 yX2_hasMaster wsX2_hasMaster) := goodIn_app (goodIn_r _ [5, 6, 7, 8] rfl (by decide +kernel)) ggX4_owes_X2_hasMaster
set_option maxRecDepth 20000 in
theorem ggX4_owes_X4_isDay : GoodIn wsX4_owes wsX4_isDay := goodIn_r _ [14, 15, 16, 13, 17] rfl (by decide +kernel)
set_option maxRecDepth 20000 in
theorem gX4_owes_X4_isDay : GoodIn wsX4_owes (va_wsS RX4 202 yX4_isDay wsX4_isDay) := goodIn_app (goodIn_r _ [11, 12, 13] rfl (by decide +kernel)) ggX4_owes_X4_isDay
set_option maxRecDepth 20000 in
theorem ggX4_owes_X3_hasBegun : GoodIn wsX4_owes wsX3_hasBegun := goodIn_r _ [22, 23, 69, 70, 71, 72, 73, 74] rfl (by decide +kernel)
set_option maxRecDepth 20000 in
theorem gX4_owes_X3_hasBegun : GoodIn wsX4_owes (wsV RX4 54 RX3 yX3_hasBegun wsX3_hasBegun) := goodIn_app (goodIn_r _ [18, 19, 20, 21] rfl (by decide +kernel)) ggX4_owes_X3_hasBegun
set_option maxRecDepth 20000 in
theorem ggX4_owes_X3_wagesDue : GoodIn wsX4_owes wsX3_wagesDue := goodIn_r _ [27, 28, 29, 30, 31, 32, 33, 34, 35, 36, 37, 38, 21, 39, 40, 41, 42, 43, 44, 45, 46, 69, 70, 71, 72, 73, 74, 52, 53, 54, 55, 56, 57, 58, 59] rfl (by decide +kernel)
set_option maxRecDepth 20000 in
theorem gX4_owes_X3_wagesDue : GoodIn wsX4_owes (wsV RX4 208 RX3 yX3_wagesDue wsX3_wagesDue) := goodIn_app (goodIn_r _ [24, 25, 26, 21] rfl (by decide +kernel)) ggX4_owes_X3_wagesDue
theorem dX4_owes_0 : decode cX4_owes 0 = .ok (.aload_n 0, 1) := by decide +kernel
theorem dX4_owes_1 : decode cX4_owes 1 = .ok (.getfield 12, 3) := by decide +kernel
theorem dX4_owes_4 : decode cX4_owes 4 = .ok (.iload_n 1, 1) := by decide +kernel
theorem dX4_owes_5 : decode cX4_owes 5 = .ok (.invokevirtual 84, 3) := by decide +kernel
theorem dX4_owes_8 : decode cX4_owes 8 = .ok (.ifCond .ne 5, 3) := by decide +kernel
theorem dX4_owes_11 : decode cX4_owes 11 = .ok (.iconst (-1), 1) := by decide +kernel
theorem dX4_owes_12 : decode cX4_owes 12 = .ok (.ireturn, 1) := by decide +kernel
theorem dX4_owes_13 : decode cX4_owes 13 = .ok (.iload_n 2, 1) := by decide +kernel
theorem dX4_owes_14 : decode cX4_owes 14 = .ok (.invokestatic 202, 3) := by decide +kernel
theorem dX4_owes_17 : decode cX4_owes 17 = .ok (.ifCond .ne 6, 3) := by decide +kernel
theorem dX4_owes_20 : decode cX4_owes 20 = .ok (.bipush (-2), 2) := by decide +kernel
theorem dX4_owes_22 : decode cX4_owes 22 = .ok (.ireturn, 1) := by decide +kernel
theorem dX4_owes_23 : decode cX4_owes 23 = .ok (.aload_n 0, 1) := by decide +kernel
theorem dX4_owes_24 : decode cX4_owes 24 = .ok (.getfield 38, 3) := by decide +kernel
theorem dX4_owes_27 : decode cX4_owes 27 = .ok (.invokevirtual 54, 3) := by decide +kernel
theorem dX4_owes_30 : decode cX4_owes 30 = .ok (.ifCond .ne 6, 3) := by decide +kernel
theorem dX4_owes_33 : decode cX4_owes 33 = .ok (.bipush (-3), 2) := by decide +kernel
theorem dX4_owes_35 : decode cX4_owes 35 = .ok (.ireturn, 1) := by decide +kernel
theorem dX4_owes_36 : decode cX4_owes 36 = .ok (.aload_n 0, 1) := by decide +kernel
theorem dX4_owes_37 : decode cX4_owes 37 = .ok (.getfield 26, 3) := by decide +kernel
theorem dX4_owes_40 : decode cX4_owes 40 = .ok (.getfield 122, 3) := by decide +kernel
theorem dX4_owes_43 : decode cX4_owes 43 = .ok (.iload_n 1, 1) := by decide +kernel
theorem dX4_owes_44 : decode cX4_owes 44 = .ok (.iaload, 1) := by decide +kernel
theorem dX4_owes_45 : decode cX4_owes 45 = .ok (.istore_n 3, 1) := by decide +kernel
theorem dX4_owes_46 : decode cX4_owes 46 = .ok (.iload_n 3, 1) := by decide +kernel
theorem dX4_owes_47 : decode cX4_owes 47 = .ok (.bipush (-9), 2) := by decide +kernel
theorem dX4_owes_49 : decode cX4_owes 49 = .ok (.if_icmp .ne 7, 3) := by decide +kernel
theorem dX4_owes_52 : decode cX4_owes 52 = .ok (.iconst 0, 1) := by decide +kernel
theorem dX4_owes_53 : decode cX4_owes 53 = .ok (.goto 12, 3) := by decide +kernel
theorem dX4_owes_56 : decode cX4_owes 56 = .ok (.aload_n 0, 1) := by decide +kernel
theorem dX4_owes_57 : decode cX4_owes 57 = .ok (.getfield 38, 3) := by decide +kernel
theorem dX4_owes_60 : decode cX4_owes 60 = .ok (.iload_n 3, 1) := by decide +kernel
theorem dX4_owes_61 : decode cX4_owes 61 = .ok (.iload_n 2, 1) := by decide +kernel
theorem dX4_owes_62 : decode cX4_owes 62 = .ok (.invokevirtual 208, 3) := by decide +kernel
theorem dX4_owes_65 : decode cX4_owes 65 = .ok (.ireturn, 1) := by decide +kernel
set_option maxRecDepth 20000 in
theorem ggX4_hands_X4_isKind : GoodIn wsX4_hands wsX4_isKind := goodIn_r _ [8, 9, 10, 7, 11] rfl (by decide +kernel)
set_option maxRecDepth 20000 in
theorem gX4_hands_X4_isKind : GoodIn wsX4_hands (va_wsS RX4 46 yX4_isKind wsX4_isKind) := goodIn_app (goodIn_r _ [5, 6, 7] rfl (by decide +kernel)) ggX4_hands_X4_isKind
set_option maxRecDepth 20000 in
theorem ggX4_hands_X4_isDay : GoodIn wsX4_hands wsX4_isDay := goodIn_r _ [14, 9, 10, 7, 11] rfl (by decide +kernel)
set_option maxRecDepth 20000 in
theorem gX4_hands_X4_isDay : GoodIn wsX4_hands (va_wsS RX4 202 yX4_isDay wsX4_isDay) := goodIn_app (goodIn_r _ [12, 13, 7] rfl (by decide +kernel)) ggX4_hands_X4_isDay
set_option maxRecDepth 20000 in
theorem ggX4_hands_X3_hasBegun : GoodIn wsX4_hands wsX3_hasBegun := goodIn_r _ [19, 20, 47, 48, 49, 50, 51, 52] rfl (by decide +kernel)
set_option maxRecDepth 20000 in
theorem gX4_hands_X3_hasBegun : GoodIn wsX4_hands (wsV RX4 54 RX3 yX3_hasBegun wsX3_hasBegun) := goodIn_app (goodIn_r _ [15, 16, 17, 18] rfl (by decide +kernel)) ggX4_hands_X3_hasBegun
set_option maxRecDepth 20000 in
theorem ggX4_hands_X3_servesOn : GoodIn wsX4_hands wsX3_servesOn := goodIn_r _ [24, 25, 26, 27, 28, 29, 30, 31, 32, 47, 48, 49, 50, 51, 52, 53, 54, 55, 56, 57, 58, 59, 60] rfl (by decide +kernel)
set_option maxRecDepth 20000 in
theorem gX4_hands_X3_servesOn : GoodIn wsX4_hands (wsV RX4 214 RX3 yX3_servesOn wsX3_servesOn) := goodIn_app (goodIn_r _ [21, 22, 23, 18] rfl (by decide +kernel)) ggX4_hands_X3_servesOn
theorem dX4_hands_0 : decode cX4_hands 0 = .ok (.iload_n 1, 1) := by decide +kernel
theorem dX4_hands_1 : decode cX4_hands 1 = .ok (.invokestatic 46, 3) := by decide +kernel
theorem dX4_hands_4 : decode cX4_hands 4 = .ok (.ifCond .eq 10, 3) := by decide +kernel
theorem dX4_hands_7 : decode cX4_hands 7 = .ok (.iload_n 2, 1) := by decide +kernel
theorem dX4_hands_8 : decode cX4_hands 8 = .ok (.invokestatic 202, 3) := by decide +kernel
theorem dX4_hands_11 : decode cX4_hands 11 = .ok (.ifCond .ne 6, 3) := by decide +kernel
theorem dX4_hands_14 : decode cX4_hands 14 = .ok (.bipush (-2), 2) := by decide +kernel
theorem dX4_hands_16 : decode cX4_hands 16 = .ok (.ireturn, 1) := by decide +kernel
theorem dX4_hands_17 : decode cX4_hands 17 = .ok (.aload_n 0, 1) := by decide +kernel
theorem dX4_hands_18 : decode cX4_hands 18 = .ok (.getfield 38, 3) := by decide +kernel
theorem dX4_hands_21 : decode cX4_hands 21 = .ok (.invokevirtual 54, 3) := by decide +kernel
theorem dX4_hands_24 : decode cX4_hands 24 = .ok (.ifCond .ne 6, 3) := by decide +kernel
theorem dX4_hands_27 : decode cX4_hands 27 = .ok (.bipush (-3), 2) := by decide +kernel
theorem dX4_hands_29 : decode cX4_hands 29 = .ok (.ireturn, 1) := by decide +kernel
theorem dX4_hands_30 : decode cX4_hands 30 = .ok (.iconst 0, 1) := by decide +kernel
theorem dX4_hands_31 : decode cX4_hands 31 = .ok (.istore_n 3, 1) := by decide +kernel
theorem dX4_hands_32 : decode cX4_hands 32 = .ok (.iconst 0, 1) := by decide +kernel
theorem dX4_hands_33 : decode cX4_hands 33 = .ok (.istore 4, 2) := by decide +kernel
theorem dX4_hands_35 : decode cX4_hands 35 = .ok (.iload 4, 2) := by decide +kernel
theorem dX4_hands_37 : decode cX4_hands 37 = .ok (.aload_n 0, 1) := by decide +kernel
theorem dX4_hands_38 : decode cX4_hands 38 = .ok (.getfield 12, 3) := by decide +kernel
theorem dX4_hands_41 : decode cX4_hands 41 = .ok (.getfield 211, 3) := by decide +kernel
theorem dX4_hands_44 : decode cX4_hands 44 = .ok (.if_icmp .ge 39, 3) := by decide +kernel
theorem dX4_hands_47 : decode cX4_hands 47 = .ok (.aload_n 0, 1) := by decide +kernel
theorem dX4_hands_48 : decode cX4_hands 48 = .ok (.getfield 12, 3) := by decide +kernel
theorem dX4_hands_51 : decode cX4_hands 51 = .ok (.getfield 93, 3) := by decide +kernel
theorem dX4_hands_54 : decode cX4_hands 54 = .ok (.iload 4, 2) := by decide +kernel
theorem dX4_hands_56 : decode cX4_hands 56 = .ok (.iaload, 1) := by decide +kernel
theorem dX4_hands_57 : decode cX4_hands 57 = .ok (.iload_n 1, 1) := by decide +kernel
theorem dX4_hands_58 : decode cX4_hands 58 = .ok (.if_icmp .ne 19, 3) := by decide +kernel
theorem dX4_hands_61 : decode cX4_hands 61 = .ok (.aload_n 0, 1) := by decide +kernel
theorem dX4_hands_62 : decode cX4_hands 62 = .ok (.getfield 38, 3) := by decide +kernel
theorem dX4_hands_65 : decode cX4_hands 65 = .ok (.iload 4, 2) := by decide +kernel
theorem dX4_hands_67 : decode cX4_hands 67 = .ok (.iload_n 2, 1) := by decide +kernel
theorem dX4_hands_68 : decode cX4_hands 68 = .ok (.invokevirtual 214, 3) := by decide +kernel
theorem dX4_hands_71 : decode cX4_hands 71 = .ok (.ifCond .eq 6, 3) := by decide +kernel
theorem dX4_hands_74 : decode cX4_hands 74 = .ok (.iinc 3 1, 3) := by decide +kernel
theorem dX4_hands_77 : decode cX4_hands 77 = .ok (.iinc 4 1, 3) := by decide +kernel
theorem dX4_hands_80 : decode cX4_hands 80 = .ok (.goto (-45), 3) := by decide +kernel
theorem dX4_hands_83 : decode cX4_hands 83 = .ok (.iload_n 3, 1) := by decide +kernel
theorem dX4_hands_84 : decode cX4_hands 84 = .ok (.ireturn, 1) := by decide +kernel
set_option maxRecDepth 20000 in
theorem ggX4_total_X0_countBound : GoodIn wsX4_total wsX0_countBound := goodIn_r _ [13, 14, 15, 16, 17, 18, 12, 19, 20, 40, 41, 42, 43, 44, 45, 46, 47, 31, 32, 33, 34, 35, 36, 37, 38, 39] rfl (by decide +kernel)
set_option maxRecDepth 20000 in
theorem gX4_total_X0_countBound : GoodIn wsX4_total (wsV RX4 167 RX0 yX0_countBound wsX0_countBound) := goodIn_app (goodIn_r _ [9, 10, 11, 12] rfl (by decide +kernel)) ggX4_total_X0_countBound
set_option maxRecDepth 20000 in
theorem ggX4_total_X0_sumWages : GoodIn wsX4_total wsX0_sumWages := goodIn_r _ [24, 14, 15, 25, 16, 17, 18, 12, 19, 20, 40, 41, 42, 43, 44, 45, 46, 47, 31, 32, 33, 34, 35, 36, 37, 38, 39] rfl (by decide +kernel)
set_option maxRecDepth 20000 in
theorem gX4_total_X0_sumWages : GoodIn wsX4_total (wsV RX4 170 RX0 yX0_sumWages wsX0_sumWages) := goodIn_app (goodIn_r _ [21, 22, 23, 12] rfl (by decide +kernel)) ggX4_total_X0_sumWages
theorem dX4_total_0 : decode cX4_total 0 = .ok (.iload_n 1, 1) := by decide +kernel
theorem dX4_total_1 : decode cX4_total 1 = .ok (.tableswitch 96 0 6 #[43, 51, 59, 67, 75, 83, 91], 43) := by decide +kernel
theorem dX4_total_44 : decode cX4_total 44 = .ok (.aload_n 0, 1) := by decide +kernel
theorem dX4_total_45 : decode cX4_total 45 = .ok (.getfield 12, 3) := by decide +kernel
theorem dX4_total_48 : decode cX4_total 48 = .ok (.getfield 211, 3) := by decide +kernel
theorem dX4_total_51 : decode cX4_total 51 = .ok (.ireturn, 1) := by decide +kernel
theorem dX4_total_52 : decode cX4_total 52 = .ok (.aload_n 0, 1) := by decide +kernel
theorem dX4_total_53 : decode cX4_total 53 = .ok (.getfield 12, 3) := by decide +kernel
theorem dX4_total_56 : decode cX4_total 56 = .ok (.getfield 217, 3) := by decide +kernel
theorem dX4_total_59 : decode cX4_total 59 = .ok (.ireturn, 1) := by decide +kernel
theorem dX4_total_60 : decode cX4_total 60 = .ok (.aload_n 0, 1) := by decide +kernel
theorem dX4_total_61 : decode cX4_total 61 = .ok (.getfield 26, 3) := by decide +kernel
theorem dX4_total_64 : decode cX4_total 64 = .ok (.invokevirtual 167, 3) := by decide +kernel
theorem dX4_total_67 : decode cX4_total 67 = .ok (.ireturn, 1) := by decide +kernel
theorem dX4_total_68 : decode cX4_total 68 = .ok (.aload_n 0, 1) := by decide +kernel
theorem dX4_total_69 : decode cX4_total 69 = .ok (.getfield 26, 3) := by decide +kernel
theorem dX4_total_72 : decode cX4_total 72 = .ok (.getfield 138, 3) := by decide +kernel
theorem dX4_total_75 : decode cX4_total 75 = .ok (.ireturn, 1) := by decide +kernel
theorem dX4_total_76 : decode cX4_total 76 = .ok (.aload_n 0, 1) := by decide +kernel
theorem dX4_total_77 : decode cX4_total 77 = .ok (.getfield 38, 3) := by decide +kernel
theorem dX4_total_80 : decode cX4_total 80 = .ok (.getfield 173, 3) := by decide +kernel
theorem dX4_total_83 : decode cX4_total 83 = .ok (.ireturn, 1) := by decide +kernel
theorem dX4_total_84 : decode cX4_total 84 = .ok (.aload_n 0, 1) := by decide +kernel
theorem dX4_total_85 : decode cX4_total 85 = .ok (.getfield 26, 3) := by decide +kernel
theorem dX4_total_88 : decode cX4_total 88 = .ok (.invokevirtual 170, 3) := by decide +kernel
theorem dX4_total_91 : decode cX4_total 91 = .ok (.ireturn, 1) := by decide +kernel
theorem dX4_total_92 : decode cX4_total 92 = .ok (.aload_n 0, 1) := by decide +kernel
theorem dX4_total_93 : decode cX4_total 93 = .ok (.getfield 42, 3) := by decide +kernel
theorem dX4_total_96 : decode cX4_total 96 = .ok (.ireturn, 1) := by decide +kernel
theorem dX4_total_97 : decode cX4_total 97 = .ok (.bipush (-2), 2) := by decide +kernel
theorem dX4_total_99 : decode cX4_total 99 = .ok (.ireturn, 1) := by decide +kernel
set_option maxRecDepth 20000 in
theorem ggX4_isHeldAboveSkill_X2_heldFor : GoodIn wsX4_isHeldAboveSkill wsX2_heldFor := goodIn_r _ [9, 10, 24, 25, 26, 27, 28, 29, 30, 31, 32] rfl (by decide +kernel)
set_option maxRecDepth 20000 in
theorem gX4_isHeldAboveSkill_X2_heldFor : GoodIn wsX4_isHeldAboveSkill (wsV RX4 77 RX2 yX2_heldFor wsX2_heldFor) := goodIn_app (goodIn_r _ [5, 6, 7, 8] rfl (by decide +kernel)) ggX4_isHeldAboveSkill_X2_heldFor
theorem dX4_isHeldAboveSkill_0 : decode cX4_isHeldAboveSkill 0 = .ok (.aload_n 0, 1) := by decide +kernel
theorem dX4_isHeldAboveSkill_1 : decode cX4_isHeldAboveSkill 1 = .ok (.getfield 26, 3) := by decide +kernel
theorem dX4_isHeldAboveSkill_4 : decode cX4_isHeldAboveSkill 4 = .ok (.getfield 103, 3) := by decide +kernel
theorem dX4_isHeldAboveSkill_7 : decode cX4_isHeldAboveSkill 7 = .ok (.iload_n 1, 1) := by decide +kernel
theorem dX4_isHeldAboveSkill_8 : decode cX4_isHeldAboveSkill 8 = .ok (.iaload, 1) := by decide +kernel
theorem dX4_isHeldAboveSkill_9 : decode cX4_isHeldAboveSkill 9 = .ok (.istore_n 2, 1) := by decide +kernel
theorem dX4_isHeldAboveSkill_10 : decode cX4_isHeldAboveSkill 10 = .ok (.iload_n 2, 1) := by decide +kernel
theorem dX4_isHeldAboveSkill_11 : decode cX4_isHeldAboveSkill 11 = .ok (.bipush (-9), 2) := by decide +kernel
theorem dX4_isHeldAboveSkill_13 : decode cX4_isHeldAboveSkill 13 = .ok (.if_icmp .eq 28, 3) := by decide +kernel
theorem dX4_isHeldAboveSkill_16 : decode cX4_isHeldAboveSkill 16 = .ok (.aload_n 0, 1) := by decide +kernel
theorem dX4_isHeldAboveSkill_17 : decode cX4_isHeldAboveSkill 17 = .ok (.getfield 12, 3) := by decide +kernel
theorem dX4_isHeldAboveSkill_20 : decode cX4_isHeldAboveSkill 20 = .ok (.iload_n 2, 1) := by decide +kernel
theorem dX4_isHeldAboveSkill_21 : decode cX4_isHeldAboveSkill 21 = .ok (.iload_n 1, 1) := by decide +kernel
theorem dX4_isHeldAboveSkill_22 : decode cX4_isHeldAboveSkill 22 = .ok (.invokevirtual 77, 3) := by decide +kernel
theorem dX4_isHeldAboveSkill_25 : decode cX4_isHeldAboveSkill 25 = .ok (.aload_n 0, 1) := by decide +kernel
theorem dX4_isHeldAboveSkill_26 : decode cX4_isHeldAboveSkill 26 = .ok (.getfield 12, 3) := by decide +kernel
theorem dX4_isHeldAboveSkill_29 : decode cX4_isHeldAboveSkill 29 = .ok (.getfield 97, 3) := by decide +kernel
theorem dX4_isHeldAboveSkill_32 : decode cX4_isHeldAboveSkill 32 = .ok (.iload_n 1, 1) := by decide +kernel
theorem dX4_isHeldAboveSkill_33 : decode cX4_isHeldAboveSkill 33 = .ok (.iaload, 1) := by decide +kernel
theorem dX4_isHeldAboveSkill_34 : decode cX4_isHeldAboveSkill 34 = .ok (.if_icmp .le 7, 3) := by decide +kernel
theorem dX4_isHeldAboveSkill_37 : decode cX4_isHeldAboveSkill 37 = .ok (.iconst 1, 1) := by decide +kernel
theorem dX4_isHeldAboveSkill_38 : decode cX4_isHeldAboveSkill 38 = .ok (.goto 4, 3) := by decide +kernel
theorem dX4_isHeldAboveSkill_41 : decode cX4_isHeldAboveSkill 41 = .ok (.iconst 0, 1) := by decide +kernel
theorem dX4_isHeldAboveSkill_42 : decode cX4_isHeldAboveSkill 42 = .ok (.ireturn, 1) := by decide +kernel
theorem dX4_isWithin_0 : decode cX4_isWithin 0 = .ok (.iload_n 0, 1) := by decide +kernel
theorem dX4_isWithin_1 : decode cX4_isWithin 1 = .ok (.iload_n 1, 1) := by decide +kernel
theorem dX4_isWithin_2 : decode cX4_isWithin 2 = .ok (.if_icmp .lt 12, 3) := by decide +kernel
theorem dX4_isWithin_5 : decode cX4_isWithin 5 = .ok (.iload_n 0, 1) := by decide +kernel
theorem dX4_isWithin_6 : decode cX4_isWithin 6 = .ok (.iload_n 2, 1) := by decide +kernel
theorem dX4_isWithin_7 : decode cX4_isWithin 7 = .ok (.if_icmp .gt 7, 3) := by decide +kernel
theorem dX4_isWithin_10 : decode cX4_isWithin 10 = .ok (.iconst 1, 1) := by decide +kernel
theorem dX4_isWithin_11 : decode cX4_isWithin 11 = .ok (.goto 4, 3) := by decide +kernel
theorem dX4_isWithin_14 : decode cX4_isWithin 14 = .ok (.iconst 0, 1) := by decide +kernel
theorem dX4_isWithin_15 : decode cX4_isWithin 15 = .ok (.ireturn, 1) := by decide +kernel
set_option maxRecDepth 20000 in
theorem ggX4_isKind_X4_isWithin : GoodIn wsX4_isKind wsX4_isWithin := goodIn_r _ [4] rfl (by decide +kernel)
set_option maxRecDepth 20000 in
theorem gX4_isKind_X4_isWithin : GoodIn wsX4_isKind (va_wsS RX4 50 yX4_isWithin wsX4_isWithin) := goodIn_app (goodIn_r _ [1, 2, 3] rfl (by decide +kernel)) ggX4_isKind_X4_isWithin
theorem dX4_isKind_0 : decode cX4_isKind 0 = .ok (.iload_n 0, 1) := by decide +kernel
theorem dX4_isKind_1 : decode cX4_isKind 1 = .ok (.iconst 0, 1) := by decide +kernel
theorem dX4_isKind_2 : decode cX4_isKind 2 = .ok (.iconst 2, 1) := by decide +kernel
theorem dX4_isKind_3 : decode cX4_isKind 3 = .ok (.invokestatic 50, 3) := by decide +kernel
theorem dX4_isKind_6 : decode cX4_isKind 6 = .ok (.ireturn, 1) := by decide +kernel
set_option maxRecDepth 20000 in
theorem ggX4_isDay_X4_isWithin : GoodIn wsX4_isDay wsX4_isWithin := goodIn_r _ [4] rfl (by decide +kernel)
set_option maxRecDepth 20000 in
theorem gX4_isDay_X4_isWithin : GoodIn wsX4_isDay (va_wsS RX4 50 yX4_isWithin wsX4_isWithin) := goodIn_app (goodIn_r _ [1, 2, 3] rfl (by decide +kernel)) ggX4_isDay_X4_isWithin
theorem dX4_isDay_0 : decode cX4_isDay 0 = .ok (.iload_n 0, 1) := by decide +kernel
theorem dX4_isDay_1 : decode cX4_isDay 1 = .ok (.iconst 0, 1) := by decide +kernel
theorem dX4_isDay_2 : decode cX4_isDay 2 = .ok (.sipush 363, 3) := by decide +kernel
theorem dX4_isDay_5 : decode cX4_isDay 5 = .ok (.invokestatic 50, 3) := by decide +kernel
theorem dX4_isDay_8 : decode cX4_isDay 8 = .ok (.ireturn, 1) := by decide +kernel
end
section
theorem dX5_init_0 : decode cX5_init 0 = .ok (.aload_n 0, 1) := by decide +kernel
theorem dX5_init_1 : decode cX5_init 1 = .ok (.invokespecial 1, 3) := by decide +kernel
theorem dX5_init_4 : decode cX5_init 4 = .ok (.aload_n 0, 1) := by decide +kernel
theorem dX5_init_5 : decode cX5_init 5 = .ok (.bipush 10, 2) := by decide +kernel
theorem dX5_init_7 : decode cX5_init 7 = .ok (.newarray .int, 2) := by decide +kernel
theorem dX5_init_9 : decode cX5_init 9 = .ok (.putfield 7, 3) := by decide +kernel
theorem dX5_init_12 : decode cX5_init 12 = .ok (.aload_n 0, 1) := by decide +kernel
theorem dX5_init_13 : decode cX5_init 13 = .ok (.bipush 10, 2) := by decide +kernel
theorem dX5_init_15 : decode cX5_init 15 = .ok (.newarray .int, 2) := by decide +kernel
theorem dX5_init_17 : decode cX5_init 17 = .ok (.putfield 13, 3) := by decide +kernel
theorem dX5_init_20 : decode cX5_init 20 = .ok (.aload_n 0, 1) := by decide +kernel
theorem dX5_init_21 : decode cX5_init 21 = .ok (.bipush 10, 2) := by decide +kernel
theorem dX5_init_23 : decode cX5_init 23 = .ok (.newarray .int, 2) := by decide +kernel
theorem dX5_init_25 : decode cX5_init 25 = .ok (.putfield 16, 3) := by decide +kernel
theorem dX5_init_28 : decode cX5_init 28 = .ok (.aload_n 0, 1) := by decide +kernel
theorem dX5_init_29 : decode cX5_init 29 = .ok (.bipush 10, 2) := by decide +kernel
theorem dX5_init_31 : decode cX5_init 31 = .ok (.newarray .int, 2) := by decide +kernel
theorem dX5_init_33 : decode cX5_init 33 = .ok (.putfield 19, 3) := by decide +kernel
theorem dX5_init_36 : decode cX5_init 36 = .ok (.aload_n 0, 1) := by decide +kernel
theorem dX5_init_37 : decode cX5_init 37 = .ok (.bipush 10, 2) := by decide +kernel
theorem dX5_init_39 : decode cX5_init 39 = .ok (.newarray .int, 2) := by decide +kernel
theorem dX5_init_41 : decode cX5_init 41 = .ok (.putfield 22, 3) := by decide +kernel
theorem dX5_init_44 : decode cX5_init 44 = .ok (.aload_n 0, 1) := by decide +kernel
theorem dX5_init_45 : decode cX5_init 45 = .ok (.bipush 100, 2) := by decide +kernel
theorem dX5_init_47 : decode cX5_init 47 = .ok (.newarray .int, 2) := by decide +kernel
theorem dX5_init_49 : decode cX5_init 49 = .ok (.putfield 25, 3) := by decide +kernel
theorem dX5_init_52 : decode cX5_init 52 = .ok (.aload_n 0, 1) := by decide +kernel
theorem dX5_init_53 : decode cX5_init 53 = .ok (.bipush 100, 2) := by decide +kernel
theorem dX5_init_55 : decode cX5_init 55 = .ok (.newarray .boolean, 2) := by decide +kernel
theorem dX5_init_57 : decode cX5_init 57 = .ok (.putfield 28, 3) := by decide +kernel
theorem dX5_init_60 : decode cX5_init 60 = .ok (.aload_n 0, 1) := by decide +kernel
theorem dX5_init_61 : decode cX5_init 61 = .ok (.bipush 100, 2) := by decide +kernel
theorem dX5_init_63 : decode cX5_init 63 = .ok (.newarray .boolean, 2) := by decide +kernel
theorem dX5_init_65 : decode cX5_init 65 = .ok (.putfield 32, 3) := by decide +kernel
theorem dX5_init_68 : decode cX5_init 68 = .ok (.aload_n 0, 1) := by decide +kernel
theorem dX5_init_69 : decode cX5_init 69 = .ok (.bipush 10, 2) := by decide +kernel
theorem dX5_init_71 : decode cX5_init 71 = .ok (.newarray .int, 2) := by decide +kernel
theorem dX5_init_73 : decode cX5_init 73 = .ok (.dup, 1) := by decide +kernel
theorem dX5_init_74 : decode cX5_init 74 = .ok (.iconst 0, 1) := by decide +kernel
theorem dX5_init_75 : decode cX5_init 75 = .ok (.bipush (-9), 2) := by decide +kernel
theorem dX5_init_77 : decode cX5_init 77 = .ok (.iastore, 1) := by decide +kernel
theorem dX5_init_78 : decode cX5_init 78 = .ok (.dup, 1) := by decide +kernel
theorem dX5_init_79 : decode cX5_init 79 = .ok (.iconst 1, 1) := by decide +kernel
theorem dX5_init_80 : decode cX5_init 80 = .ok (.bipush (-9), 2) := by decide +kernel
theorem dX5_init_82 : decode cX5_init 82 = .ok (.iastore, 1) := by decide +kernel
theorem dX5_init_83 : decode cX5_init 83 = .ok (.dup, 1) := by decide +kernel
theorem dX5_init_84 : decode cX5_init 84 = .ok (.iconst 2, 1) := by decide +kernel
theorem dX5_init_85 : decode cX5_init 85 = .ok (.bipush (-9), 2) := by decide +kernel
theorem dX5_init_87 : decode cX5_init 87 = .ok (.iastore, 1) := by decide +kernel
theorem dX5_init_88 : decode cX5_init 88 = .ok (.dup, 1) := by decide +kernel
theorem dX5_init_89 : decode cX5_init 89 = .ok (.iconst 3, 1) := by decide +kernel
theorem dX5_init_90 : decode cX5_init 90 = .ok (.bipush (-9), 2) := by decide +kernel
theorem dX5_init_92 : decode cX5_init 92 = .ok (.iastore, 1) := by decide +kernel
theorem dX5_init_93 : decode cX5_init 93 = .ok (.dup, 1) := by decide +kernel
theorem dX5_init_94 : decode cX5_init 94 = .ok (.iconst 4, 1) := by decide +kernel
theorem dX5_init_95 : decode cX5_init 95 = .ok (.bipush (-9), 2) := by decide +kernel
theorem dX5_init_97 : decode cX5_init 97 = .ok (.iastore, 1) := by decide +kernel
theorem dX5_init_98 : decode cX5_init 98 = .ok (.dup, 1) := by decide +kernel
theorem dX5_init_99 : decode cX5_init 99 = .ok (.iconst 5, 1) := by decide +kernel
theorem dX5_init_100 : decode cX5_init 100 = .ok (.bipush (-9), 2) := by decide +kernel
theorem dX5_init_102 : decode cX5_init 102 = .ok (.iastore, 1) := by decide +kernel
theorem dX5_init_103 : decode cX5_init 103 = .ok (.dup, 1) := by decide +kernel
theorem dX5_init_104 : decode cX5_init 104 = .ok (.bipush 6, 2) := by decide +kernel
theorem dX5_init_106 : decode cX5_init 106 = .ok (.bipush (-9), 2) := by decide +kernel
theorem dX5_init_108 : decode cX5_init 108 = .ok (.iastore, 1) := by decide +kernel
theorem dX5_init_109 : decode cX5_init 109 = .ok (.dup, 1) := by decide +kernel
theorem dX5_init_110 : decode cX5_init 110 = .ok (.bipush 7, 2) := by decide +kernel
theorem dX5_init_112 : decode cX5_init 112 = .ok (.bipush (-9), 2) := by decide +kernel
theorem dX5_init_114 : decode cX5_init 114 = .ok (.iastore, 1) := by decide +kernel
theorem dX5_init_115 : decode cX5_init 115 = .ok (.dup, 1) := by decide +kernel
theorem dX5_init_116 : decode cX5_init 116 = .ok (.bipush 8, 2) := by decide +kernel
theorem dX5_init_118 : decode cX5_init 118 = .ok (.bipush (-9), 2) := by decide +kernel
theorem dX5_init_120 : decode cX5_init 120 = .ok (.iastore, 1) := by decide +kernel
theorem dX5_init_121 : decode cX5_init 121 = .ok (.dup, 1) := by decide +kernel
theorem dX5_init_122 : decode cX5_init 122 = .ok (.bipush 9, 2) := by decide +kernel
theorem dX5_init_124 : decode cX5_init 124 = .ok (.bipush (-9), 2) := by decide +kernel
theorem dX5_init_126 : decode cX5_init 126 = .ok (.iastore, 1) := by decide +kernel
theorem dX5_init_127 : decode cX5_init 127 = .ok (.putfield 35, 3) := by decide +kernel
theorem dX5_init_130 : decode cX5_init 130 = .ok (.aload_n 0, 1) := by decide +kernel
theorem dX5_init_131 : decode cX5_init 131 = .ok (.bipush 10, 2) := by decide +kernel
theorem dX5_init_133 : decode cX5_init 133 = .ok (.newarray .int, 2) := by decide +kernel
theorem dX5_init_135 : decode cX5_init 135 = .ok (.putfield 38, 3) := by decide +kernel
theorem dX5_init_138 : decode cX5_init 138 = .ok (.aload_n 0, 1) := by decide +kernel
theorem dX5_init_139 : decode cX5_init 139 = .ok (.bipush 10, 2) := by decide +kernel
theorem dX5_init_141 : decode cX5_init 141 = .ok (.newarray .int, 2) := by decide +kernel
theorem dX5_init_143 : decode cX5_init 143 = .ok (.putfield 41, 3) := by decide +kernel
theorem dX5_init_146 : decode cX5_init 146 = .ok (.aload_n 0, 1) := by decide +kernel
theorem dX5_init_147 : decode cX5_init 147 = .ok (.bipush 10, 2) := by decide +kernel
theorem dX5_init_149 : decode cX5_init 149 = .ok (.newarray .int, 2) := by decide +kernel
theorem dX5_init_151 : decode cX5_init 151 = .ok (.dup, 1) := by decide +kernel
theorem dX5_init_152 : decode cX5_init 152 = .ok (.iconst 0, 1) := by decide +kernel
theorem dX5_init_153 : decode cX5_init 153 = .ok (.bipush (-9), 2) := by decide +kernel
theorem dX5_init_155 : decode cX5_init 155 = .ok (.iastore, 1) := by decide +kernel
theorem dX5_init_156 : decode cX5_init 156 = .ok (.dup, 1) := by decide +kernel
theorem dX5_init_157 : decode cX5_init 157 = .ok (.iconst 1, 1) := by decide +kernel
theorem dX5_init_158 : decode cX5_init 158 = .ok (.bipush (-9), 2) := by decide +kernel
theorem dX5_init_160 : decode cX5_init 160 = .ok (.iastore, 1) := by decide +kernel
theorem dX5_init_161 : decode cX5_init 161 = .ok (.dup, 1) := by decide +kernel
theorem dX5_init_162 : decode cX5_init 162 = .ok (.iconst 2, 1) := by decide +kernel
theorem dX5_init_163 : decode cX5_init 163 = .ok (.bipush (-9), 2) := by decide +kernel
theorem dX5_init_165 : decode cX5_init 165 = .ok (.iastore, 1) := by decide +kernel
theorem dX5_init_166 : decode cX5_init 166 = .ok (.dup, 1) := by decide +kernel
theorem dX5_init_167 : decode cX5_init 167 = .ok (.iconst 3, 1) := by decide +kernel
theorem dX5_init_168 : decode cX5_init 168 = .ok (.bipush (-9), 2) := by decide +kernel
theorem dX5_init_170 : decode cX5_init 170 = .ok (.iastore, 1) := by decide +kernel
theorem dX5_init_171 : decode cX5_init 171 = .ok (.dup, 1) := by decide +kernel
theorem dX5_init_172 : decode cX5_init 172 = .ok (.iconst 4, 1) := by decide +kernel
theorem dX5_init_173 : decode cX5_init 173 = .ok (.bipush (-9), 2) := by decide +kernel
theorem dX5_init_175 : decode cX5_init 175 = .ok (.iastore, 1) := by decide +kernel
theorem dX5_init_176 : decode cX5_init 176 = .ok (.dup, 1) := by decide +kernel
theorem dX5_init_177 : decode cX5_init 177 = .ok (.iconst 5, 1) := by decide +kernel
theorem dX5_init_178 : decode cX5_init 178 = .ok (.bipush (-9), 2) := by decide +kernel
theorem dX5_init_180 : decode cX5_init 180 = .ok (.iastore, 1) := by decide +kernel
theorem dX5_init_181 : decode cX5_init 181 = .ok (.dup, 1) := by decide +kernel
theorem dX5_init_182 : decode cX5_init 182 = .ok (.bipush 6, 2) := by decide +kernel
theorem dX5_init_184 : decode cX5_init 184 = .ok (.bipush (-9), 2) := by decide +kernel
theorem dX5_init_186 : decode cX5_init 186 = .ok (.iastore, 1) := by decide +kernel
theorem dX5_init_187 : decode cX5_init 187 = .ok (.dup, 1) := by decide +kernel
theorem dX5_init_188 : decode cX5_init 188 = .ok (.bipush 7, 2) := by decide +kernel
theorem dX5_init_190 : decode cX5_init 190 = .ok (.bipush (-9), 2) := by decide +kernel
theorem dX5_init_192 : decode cX5_init 192 = .ok (.iastore, 1) := by decide +kernel
theorem dX5_init_193 : decode cX5_init 193 = .ok (.dup, 1) := by decide +kernel
theorem dX5_init_194 : decode cX5_init 194 = .ok (.bipush 8, 2) := by decide +kernel
theorem dX5_init_196 : decode cX5_init 196 = .ok (.bipush (-9), 2) := by decide +kernel
theorem dX5_init_198 : decode cX5_init 198 = .ok (.iastore, 1) := by decide +kernel
theorem dX5_init_199 : decode cX5_init 199 = .ok (.dup, 1) := by decide +kernel
theorem dX5_init_200 : decode cX5_init 200 = .ok (.bipush 9, 2) := by decide +kernel
theorem dX5_init_202 : decode cX5_init 202 = .ok (.bipush (-9), 2) := by decide +kernel
theorem dX5_init_204 : decode cX5_init 204 = .ok (.iastore, 1) := by decide +kernel
theorem dX5_init_205 : decode cX5_init 205 = .ok (.putfield 44, 3) := by decide +kernel
theorem dX5_init_208 : decode cX5_init 208 = .ok (.aload_n 0, 1) := by decide +kernel
theorem dX5_init_209 : decode cX5_init 209 = .ok (.sipush 600, 3) := by decide +kernel
theorem dX5_init_212 : decode cX5_init 212 = .ok (.newarray .int, 2) := by decide +kernel
theorem dX5_init_214 : decode cX5_init 214 = .ok (.putfield 47, 3) := by decide +kernel
theorem dX5_init_217 : decode cX5_init 217 = .ok (.aload_n 0, 1) := by decide +kernel
theorem dX5_init_218 : decode cX5_init 218 = .ok (.bipush (-9), 2) := by decide +kernel
theorem dX5_init_220 : decode cX5_init 220 = .ok (.putfield 50, 3) := by decide +kernel
theorem dX5_init_223 : decode cX5_init 223 = .ok (.aload_n 0, 1) := by decide +kernel
theorem dX5_init_224 : decode cX5_init 224 = .ok (.bipush 10, 2) := by decide +kernel
theorem dX5_init_226 : decode cX5_init 226 = .ok (.newarray .int, 2) := by decide +kernel
theorem dX5_init_228 : decode cX5_init 228 = .ok (.putfield 54, 3) := by decide +kernel
theorem dX5_init_231 : decode cX5_init 231 = .ok (.aload_n 0, 1) := by decide +kernel
theorem dX5_init_232 : decode cX5_init 232 = .ok (.bipush 10, 2) := by decide +kernel
theorem dX5_init_234 : decode cX5_init 234 = .ok (.newarray .boolean, 2) := by decide +kernel
theorem dX5_init_236 : decode cX5_init 236 = .ok (.putfield 57, 3) := by decide +kernel
theorem dX5_init_239 : decode cX5_init 239 = .ok (.aload_n 0, 1) := by decide +kernel
theorem dX5_init_240 : decode cX5_init 240 = .ok (.bipush 10, 2) := by decide +kernel
theorem dX5_init_242 : decode cX5_init 242 = .ok (.newarray .boolean, 2) := by decide +kernel
theorem dX5_init_244 : decode cX5_init 244 = .ok (.putfield 60, 3) := by decide +kernel
theorem dX5_init_247 : decode cX5_init 247 = .ok (.aload_n 0, 1) := by decide +kernel
theorem dX5_init_248 : decode cX5_init 248 = .ok (.sipush 3640, 3) := by decide +kernel
theorem dX5_init_251 : decode cX5_init 251 = .ok (.newarray .boolean, 2) := by decide +kernel
theorem dX5_init_253 : decode cX5_init 253 = .ok (.putfield 63, 3) := by decide +kernel
theorem dX5_init_256 : decode cX5_init 256 = .ok (.aload_n 0, 1) := by decide +kernel
theorem dX5_init_257 : decode cX5_init 257 = .ok (.bipush 100, 2) := by decide +kernel
theorem dX5_init_259 : decode cX5_init 259 = .ok (.newarray .boolean, 2) := by decide +kernel
theorem dX5_init_261 : decode cX5_init 261 = .ok (.putfield 66, 3) := by decide +kernel
theorem dX5_init_264 : decode cX5_init 264 = .ok (.aload_n 0, 1) := by decide +kernel
theorem dX5_init_265 : decode cX5_init 265 = .ok (.bipush 10, 2) := by decide +kernel
theorem dX5_init_267 : decode cX5_init 267 = .ok (.newarray .int, 2) := by decide +kernel
theorem dX5_init_269 : decode cX5_init 269 = .ok (.putfield 69, 3) := by decide +kernel
theorem dX5_init_272 : decode cX5_init 272 = .ok (.aload_n 0, 1) := by decide +kernel
theorem dX5_init_273 : decode cX5_init 273 = .ok (.bipush 10, 2) := by decide +kernel
theorem dX5_init_275 : decode cX5_init 275 = .ok (.newarray .int, 2) := by decide +kernel
theorem dX5_init_277 : decode cX5_init 277 = .ok (.putfield 72, 3) := by decide +kernel
theorem dX5_init_280 : decode cX5_init 280 = .ok (.aload_n 0, 1) := by decide +kernel
theorem dX5_init_281 : decode cX5_init 281 = .ok (.bipush 10, 2) := by decide +kernel
theorem dX5_init_283 : decode cX5_init 283 = .ok (.newarray .int, 2) := by decide +kernel
theorem dX5_init_285 : decode cX5_init 285 = .ok (.putfield 75, 3) := by decide +kernel
theorem dX5_init_288 : decode cX5_init 288 = .ok (.return_, 1) := by decide +kernel
theorem dX5_in_0 : decode cX5_in 0 = .ok (.lload_n 0, 1) := by decide +kernel
theorem dX5_in_1 : decode cX5_in 1 = .ok (.lload_n 2, 1) := by decide +kernel
theorem dX5_in_2 : decode cX5_in 2 = .ok (.lcmp, 1) := by decide +kernel
theorem dX5_in_3 : decode cX5_in 3 = .ok (.ifCond .lt 14, 3) := by decide +kernel
theorem dX5_in_6 : decode cX5_in 6 = .ok (.lload_n 0, 1) := by decide +kernel
theorem dX5_in_7 : decode cX5_in 7 = .ok (.lload 4, 2) := by decide +kernel
theorem dX5_in_9 : decode cX5_in 9 = .ok (.lcmp, 1) := by decide +kernel
theorem dX5_in_10 : decode cX5_in 10 = .ok (.ifCond .gt 7, 3) := by decide +kernel
theorem dX5_in_13 : decode cX5_in 13 = .ok (.iconst 1, 1) := by decide +kernel
theorem dX5_in_14 : decode cX5_in 14 = .ok (.goto 4, 3) := by decide +kernel
theorem dX5_in_17 : decode cX5_in 17 = .ok (.iconst 0, 1) := by decide +kernel
theorem dX5_in_18 : decode cX5_in 18 = .ok (.ireturn, 1) := by decide +kernel
set_option maxRecDepth 20000 in
theorem ggX5_noServant_X5_in : GoodIn wsX5_noServant wsX5_in := goodIn_r _ [5] rfl (by decide +kernel)
set_option maxRecDepth 20000 in
theorem gX5_noServant_X5_in : GoodIn wsX5_noServant (va_wsS RX5 84 yX5_in wsX5_in) := goodIn_app (goodIn_r _ [2, 3, 4] rfl (by decide +kernel)) ggX5_noServant_X5_in
theorem dX5_noServant_0 : decode cX5_noServant 0 = .ok (.iload_n 1, 1) := by decide +kernel
theorem dX5_noServant_1 : decode cX5_noServant 1 = .ok (.i2l, 1) := by decide +kernel
theorem dX5_noServant_2 : decode cX5_noServant 2 = .ok (.lconst 0, 1) := by decide +kernel
theorem dX5_noServant_3 : decode cX5_noServant 3 = .ok (.aload_n 0, 1) := by decide +kernel
theorem dX5_noServant_4 : decode cX5_noServant 4 = .ok (.getfield 81, 3) := by decide +kernel
theorem dX5_noServant_7 : decode cX5_noServant 7 = .ok (.iconst 1, 1) := by decide +kernel
theorem dX5_noServant_8 : decode cX5_noServant 8 = .ok (.isub, 1) := by decide +kernel
theorem dX5_noServant_9 : decode cX5_noServant 9 = .ok (.i2l, 1) := by decide +kernel
theorem dX5_noServant_10 : decode cX5_noServant 10 = .ok (.invokestatic 84, 3) := by decide +kernel
theorem dX5_noServant_13 : decode cX5_noServant 13 = .ok (.ifCond .ne 7, 3) := by decide +kernel
theorem dX5_noServant_16 : decode cX5_noServant 16 = .ok (.iconst 1, 1) := by decide +kernel
theorem dX5_noServant_17 : decode cX5_noServant 17 = .ok (.goto 4, 3) := by decide +kernel
theorem dX5_noServant_20 : decode cX5_noServant 20 = .ok (.iconst 0, 1) := by decide +kernel
theorem dX5_noServant_21 : decode cX5_noServant 21 = .ok (.ireturn, 1) := by decide +kernel
set_option maxRecDepth 20000 in
theorem ggX5_noMaster_X5_in : GoodIn wsX5_noMaster wsX5_in := goodIn_r _ [5] rfl (by decide +kernel)
set_option maxRecDepth 20000 in
theorem gX5_noMaster_X5_in : GoodIn wsX5_noMaster (va_wsS RX5 84 yX5_in wsX5_in) := goodIn_app (goodIn_r _ [2, 3, 4] rfl (by decide +kernel)) ggX5_noMaster_X5_in
theorem dX5_noMaster_0 : decode cX5_noMaster 0 = .ok (.iload_n 1, 1) := by decide +kernel
theorem dX5_noMaster_1 : decode cX5_noMaster 1 = .ok (.i2l, 1) := by decide +kernel
theorem dX5_noMaster_2 : decode cX5_noMaster 2 = .ok (.lconst 0, 1) := by decide +kernel
theorem dX5_noMaster_3 : decode cX5_noMaster 3 = .ok (.aload_n 0, 1) := by decide +kernel
theorem dX5_noMaster_4 : decode cX5_noMaster 4 = .ok (.getfield 88, 3) := by decide +kernel
theorem dX5_noMaster_7 : decode cX5_noMaster 7 = .ok (.iconst 1, 1) := by decide +kernel
theorem dX5_noMaster_8 : decode cX5_noMaster 8 = .ok (.isub, 1) := by decide +kernel
theorem dX5_noMaster_9 : decode cX5_noMaster 9 = .ok (.i2l, 1) := by decide +kernel
theorem dX5_noMaster_10 : decode cX5_noMaster 10 = .ok (.invokestatic 84, 3) := by decide +kernel
theorem dX5_noMaster_13 : decode cX5_noMaster 13 = .ok (.ifCond .ne 7, 3) := by decide +kernel
theorem dX5_noMaster_16 : decode cX5_noMaster 16 = .ok (.iconst 1, 1) := by decide +kernel
theorem dX5_noMaster_17 : decode cX5_noMaster 17 = .ok (.goto 4, 3) := by decide +kernel
theorem dX5_noMaster_20 : decode cX5_noMaster 20 = .ok (.iconst 0, 1) := by decide +kernel
theorem dX5_noMaster_21 : decode cX5_noMaster 21 = .ok (.ireturn, 1) := by decide +kernel
theorem dX5_held_0 : decode cX5_held 0 = .ok (.aload_n 0, 1) := by decide +kernel
theorem dX5_held_1 : decode cX5_held 1 = .ok (.getfield 25, 3) := by decide +kernel
theorem dX5_held_4 : decode cX5_held 4 = .ok (.bipush 10, 2) := by decide +kernel
theorem dX5_held_6 : decode cX5_held 6 = .ok (.iload_n 1, 1) := by decide +kernel
theorem dX5_held_7 : decode cX5_held 7 = .ok (.imul, 1) := by decide +kernel
theorem dX5_held_8 : decode cX5_held 8 = .ok (.iload_n 2, 1) := by decide +kernel
theorem dX5_held_9 : decode cX5_held 9 = .ok (.iadd, 1) := by decide +kernel
theorem dX5_held_10 : decode cX5_held 10 = .ok (.iaload, 1) := by decide +kernel
theorem dX5_held_11 : decode cX5_held 11 = .ok (.ifCond .ne 7, 3) := by decide +kernel
theorem dX5_held_14 : decode cX5_held 14 = .ok (.iconst 5, 1) := by decide +kernel
theorem dX5_held_15 : decode cX5_held 15 = .ok (.goto 14, 3) := by decide +kernel
theorem dX5_held_18 : decode cX5_held 18 = .ok (.aload_n 0, 1) := by decide +kernel
theorem dX5_held_19 : decode cX5_held 19 = .ok (.getfield 25, 3) := by decide +kernel
theorem dX5_held_22 : decode cX5_held 22 = .ok (.bipush 10, 2) := by decide +kernel
theorem dX5_held_24 : decode cX5_held 24 = .ok (.iload_n 1, 1) := by decide +kernel
theorem dX5_held_25 : decode cX5_held 25 = .ok (.imul, 1) := by decide +kernel
theorem dX5_held_26 : decode cX5_held 26 = .ok (.iload_n 2, 1) := by decide +kernel
theorem dX5_held_27 : decode cX5_held 27 = .ok (.iadd, 1) := by decide +kernel
theorem dX5_held_28 : decode cX5_held 28 = .ok (.iaload, 1) := by decide +kernel
theorem dX5_held_29 : decode cX5_held 29 = .ok (.ireturn, 1) := by decide +kernel
set_option maxRecDepth 20000 in
theorem ggX5_offerOf_X5_held : GoodIn wsX5_offerOf wsX5_held := goodIn_r _ [10, 11, 12, 13, 14, 15, 16, 17, 18, 19, 20, 21, 22, 23, 24, 25, 26, 27, 28, 29, 30, 31, 32, 33, 34, 35, 36, 37, 38, 39] rfl (by decide +kernel)
set_option maxRecDepth 20000 in
theorem gX5_offerOf_X5_held : GoodIn wsX5_offerOf (wsV RX5 91 RX5 yX5_held wsX5_held) := goodIn_app (goodIn_r _ [6, 7, 8, 9] rfl (by decide +kernel)) ggX5_offerOf_X5_held
theorem dX5_offerOf_0 : decode cX5_offerOf 0 = .ok (.aload_n 0, 1) := by decide +kernel
theorem dX5_offerOf_1 : decode cX5_offerOf 1 = .ok (.getfield 22, 3) := by decide +kernel
theorem dX5_offerOf_4 : decode cX5_offerOf 4 = .ok (.iload_n 1, 1) := by decide +kernel
theorem dX5_offerOf_5 : decode cX5_offerOf 5 = .ok (.iaload, 1) := by decide +kernel
theorem dX5_offerOf_6 : decode cX5_offerOf 6 = .ok (.iconst 3, 1) := by decide +kernel
theorem dX5_offerOf_7 : decode cX5_offerOf 7 = .ok (.bipush 9, 2) := by decide +kernel
theorem dX5_offerOf_9 : decode cX5_offerOf 9 = .ok (.aload_n 0, 1) := by decide +kernel
theorem dX5_offerOf_10 : decode cX5_offerOf 10 = .ok (.iload_n 1, 1) := by decide +kernel
theorem dX5_offerOf_11 : decode cX5_offerOf 11 = .ok (.iload_n 2, 1) := by decide +kernel
theorem dX5_offerOf_12 : decode cX5_offerOf 12 = .ok (.invokevirtual 91, 3) := by decide +kernel
theorem dX5_offerOf_15 : decode cX5_offerOf 15 = .ok (.isub, 1) := by decide +kernel
theorem dX5_offerOf_16 : decode cX5_offerOf 16 = .ok (.imul, 1) := by decide +kernel
theorem dX5_offerOf_17 : decode cX5_offerOf 17 = .ok (.isub, 1) := by decide +kernel
theorem dX5_offerOf_18 : decode cX5_offerOf 18 = .ok (.istore_n 3, 1) := by decide +kernel
theorem dX5_offerOf_19 : decode cX5_offerOf 19 = .ok (.aload_n 0, 1) := by decide +kernel
theorem dX5_offerOf_20 : decode cX5_offerOf 20 = .ok (.getfield 19, 3) := by decide +kernel
theorem dX5_offerOf_23 : decode cX5_offerOf 23 = .ok (.iload_n 1, 1) := by decide +kernel
theorem dX5_offerOf_24 : decode cX5_offerOf 24 = .ok (.iaload, 1) := by decide +kernel
theorem dX5_offerOf_25 : decode cX5_offerOf 25 = .ok (.aload_n 0, 1) := by decide +kernel
theorem dX5_offerOf_26 : decode cX5_offerOf 26 = .ok (.getfield 7, 3) := by decide +kernel
theorem dX5_offerOf_29 : decode cX5_offerOf 29 = .ok (.iload_n 2, 1) := by decide +kernel
theorem dX5_offerOf_30 : decode cX5_offerOf 30 = .ok (.iaload, 1) := by decide +kernel
theorem dX5_offerOf_31 : decode cX5_offerOf 31 = .ok (.if_icmp .ne 27, 3) := by decide +kernel
theorem dX5_offerOf_34 : decode cX5_offerOf 34 = .ok (.aload_n 0, 1) := by decide +kernel
theorem dX5_offerOf_35 : decode cX5_offerOf 35 = .ok (.getfield 28, 3) := by decide +kernel
theorem dX5_offerOf_38 : decode cX5_offerOf 38 = .ok (.bipush 10, 2) := by decide +kernel
theorem dX5_offerOf_40 : decode cX5_offerOf 40 = .ok (.iload_n 1, 1) := by decide +kernel
theorem dX5_offerOf_41 : decode cX5_offerOf 41 = .ok (.imul, 1) := by decide +kernel
theorem dX5_offerOf_42 : decode cX5_offerOf 42 = .ok (.iload_n 2, 1) := by decide +kernel
theorem dX5_offerOf_43 : decode cX5_offerOf 43 = .ok (.iadd, 1) := by decide +kernel
theorem dX5_offerOf_44 : decode cX5_offerOf 44 = .ok (.baload, 1) := by decide +kernel
theorem dX5_offerOf_45 : decode cX5_offerOf 45 = .ok (.ifCond .ne 13, 3) := by decide +kernel
theorem dX5_offerOf_48 : decode cX5_offerOf 48 = .ok (.iload_n 3, 1) := by decide +kernel
theorem dX5_offerOf_49 : decode cX5_offerOf 49 = .ok (.aload_n 0, 1) := by decide +kernel
theorem dX5_offerOf_50 : decode cX5_offerOf 50 = .ok (.getfield 16, 3) := by decide +kernel
theorem dX5_offerOf_53 : decode cX5_offerOf 53 = .ok (.iload_n 2, 1) := by decide +kernel
theorem dX5_offerOf_54 : decode cX5_offerOf 54 = .ok (.iaload, 1) := by decide +kernel
theorem dX5_offerOf_55 : decode cX5_offerOf 55 = .ok (.if_icmp .ge 8, 3) := by decide +kernel
theorem dX5_offerOf_58 : decode cX5_offerOf 58 = .ok (.bipush (-9), 2) := by decide +kernel
theorem dX5_offerOf_60 : decode cX5_offerOf 60 = .ok (.goto 13, 3) := by decide +kernel
theorem dX5_offerOf_63 : decode cX5_offerOf 63 = .ok (.iload_n 3, 1) := by decide +kernel
theorem dX5_offerOf_64 : decode cX5_offerOf 64 = .ok (.aload_n 0, 1) := by decide +kernel
theorem dX5_offerOf_65 : decode cX5_offerOf 65 = .ok (.getfield 16, 3) := by decide +kernel
theorem dX5_offerOf_68 : decode cX5_offerOf 68 = .ok (.iload_n 2, 1) := by decide +kernel
theorem dX5_offerOf_69 : decode cX5_offerOf 69 = .ok (.iaload, 1) := by decide +kernel
theorem dX5_offerOf_70 : decode cX5_offerOf 70 = .ok (.iadd, 1) := by decide +kernel
theorem dX5_offerOf_71 : decode cX5_offerOf 71 = .ok (.iconst 2, 1) := by decide +kernel
theorem dX5_offerOf_72 : decode cX5_offerOf 72 = .ok (.idiv, 1) := by decide +kernel
theorem dX5_offerOf_73 : decode cX5_offerOf 73 = .ok (.ireturn, 1) := by decide +kernel
set_option maxRecDepth 20000 in
theorem ggX5_nextOf_X5_offerOf : GoodIn wsX5_nextOf wsX5_offerOf := goodIn_r _ [6, 7, 8, 9, 10, 11, 12, 13, 14, 5, 15, 16, 17, 18, 19, 20, 21, 22, 23, 24, 25, 26, 27, 28, 29, 30, 31, 32, 33, 34, 35, 36, 37, 38, 39, 40, 41, 42, 43, 44] rfl (by decide +kernel)
set_option maxRecDepth 20000 in
theorem gX5_nextOf_X5_offerOf : GoodIn wsX5_nextOf (wsV RX5 95 RX5 yX5_offerOf wsX5_offerOf) := goodIn_app (goodIn_r _ [2, 3, 4, 5] rfl (by decide +kernel)) ggX5_nextOf_X5_offerOf
set_option maxRecDepth 20000 in
theorem ggX5_nextOf_X5_held : GoodIn wsX5_nextOf wsX5_held := goodIn_r _ [15, 16, 17, 18, 19, 20, 21, 22, 23, 24, 25, 26, 27, 28, 29, 30, 31, 32, 33, 34, 35, 36, 37, 38, 39, 40, 41, 42, 43, 44] rfl (by decide +kernel)
set_option maxRecDepth 20000 in
theorem gX5_nextOf_X5_held : GoodIn wsX5_nextOf (wsV RX5 91 RX5 yX5_held wsX5_held) := goodIn_app (goodIn_r _ [12, 13, 14, 5] rfl (by decide +kernel)) ggX5_nextOf_X5_held
theorem dX5_nextOf_0 : decode cX5_nextOf 0 = .ok (.bipush (-9), 2) := by decide +kernel
theorem dX5_nextOf_2 : decode cX5_nextOf 2 = .ok (.istore_n 3, 1) := by decide +kernel
theorem dX5_nextOf_3 : decode cX5_nextOf 3 = .ok (.iconst 0, 1) := by decide +kernel
theorem dX5_nextOf_4 : decode cX5_nextOf 4 = .ok (.istore 4, 2) := by decide +kernel
theorem dX5_nextOf_6 : decode cX5_nextOf 6 = .ok (.iconst 0, 1) := by decide +kernel
theorem dX5_nextOf_7 : decode cX5_nextOf 7 = .ok (.istore 5, 2) := by decide +kernel
theorem dX5_nextOf_9 : decode cX5_nextOf 9 = .ok (.iload 5, 2) := by decide +kernel
theorem dX5_nextOf_11 : decode cX5_nextOf 11 = .ok (.aload_n 0, 1) := by decide +kernel
theorem dX5_nextOf_12 : decode cX5_nextOf 12 = .ok (.getfield 81, 3) := by decide +kernel
theorem dX5_nextOf_15 : decode cX5_nextOf 15 = .ok (.if_icmp .ge 72, 3) := by decide +kernel
theorem dX5_nextOf_18 : decode cX5_nextOf 18 = .ok (.aload_n 0, 1) := by decide +kernel
theorem dX5_nextOf_19 : decode cX5_nextOf 19 = .ok (.iload_n 1, 1) := by decide +kernel
theorem dX5_nextOf_20 : decode cX5_nextOf 20 = .ok (.iload 5, 2) := by decide +kernel
theorem dX5_nextOf_22 : decode cX5_nextOf 22 = .ok (.invokevirtual 95, 3) := by decide +kernel
theorem dX5_nextOf_25 : decode cX5_nextOf 25 = .ok (.istore 6, 2) := by decide +kernel
theorem dX5_nextOf_27 : decode cX5_nextOf 27 = .ok (.bipush 10, 2) := by decide +kernel
theorem dX5_nextOf_29 : decode cX5_nextOf 29 = .ok (.aload_n 0, 1) := by decide +kernel
theorem dX5_nextOf_30 : decode cX5_nextOf 30 = .ok (.iload_n 1, 1) := by decide +kernel
theorem dX5_nextOf_31 : decode cX5_nextOf 31 = .ok (.iload 5, 2) := by decide +kernel
theorem dX5_nextOf_33 : decode cX5_nextOf 33 = .ok (.invokevirtual 91, 3) := by decide +kernel
theorem dX5_nextOf_36 : decode cX5_nextOf 36 = .ok (.imul, 1) := by decide +kernel
theorem dX5_nextOf_37 : decode cX5_nextOf 37 = .ok (.iload 6, 2) := by decide +kernel
theorem dX5_nextOf_39 : decode cX5_nextOf 39 = .ok (.isub, 1) := by decide +kernel
theorem dX5_nextOf_40 : decode cX5_nextOf 40 = .ok (.istore 7, 2) := by decide +kernel
theorem dX5_nextOf_42 : decode cX5_nextOf 42 = .ok (.iload 6, 2) := by decide +kernel
theorem dX5_nextOf_44 : decode cX5_nextOf 44 = .ok (.bipush (-9), 2) := by decide +kernel
theorem dX5_nextOf_46 : decode cX5_nextOf 46 = .ok (.if_icmp .eq 35, 3) := by decide +kernel
theorem dX5_nextOf_49 : decode cX5_nextOf 49 = .ok (.aload_n 2, 1) := by decide +kernel
theorem dX5_nextOf_50 : decode cX5_nextOf 50 = .ok (.bipush 10, 2) := by decide +kernel
theorem dX5_nextOf_52 : decode cX5_nextOf 52 = .ok (.iload_n 1, 1) := by decide +kernel
theorem dX5_nextOf_53 : decode cX5_nextOf 53 = .ok (.imul, 1) := by decide +kernel
theorem dX5_nextOf_54 : decode cX5_nextOf 54 = .ok (.iload 5, 2) := by decide +kernel
theorem dX5_nextOf_56 : decode cX5_nextOf 56 = .ok (.iadd, 1) := by decide +kernel
theorem dX5_nextOf_57 : decode cX5_nextOf 57 = .ok (.baload, 1) := by decide +kernel
theorem dX5_nextOf_58 : decode cX5_nextOf 58 = .ok (.ifCond .ne 23, 3) := by decide +kernel
theorem dX5_nextOf_61 : decode cX5_nextOf 61 = .ok (.iload_n 3, 1) := by decide +kernel
theorem dX5_nextOf_62 : decode cX5_nextOf 62 = .ok (.bipush (-9), 2) := by decide +kernel
theorem dX5_nextOf_64 : decode cX5_nextOf 64 = .ok (.if_icmp .eq 10, 3) := by decide +kernel
theorem dX5_nextOf_67 : decode cX5_nextOf 67 = .ok (.iload 7, 2) := by decide +kernel
theorem dX5_nextOf_69 : decode cX5_nextOf 69 = .ok (.iload 4, 2) := by decide +kernel
theorem dX5_nextOf_71 : decode cX5_nextOf 71 = .ok (.if_icmp .le 10, 3) := by decide +kernel
theorem dX5_nextOf_74 : decode cX5_nextOf 74 = .ok (.iload 5, 2) := by decide +kernel
theorem dX5_nextOf_76 : decode cX5_nextOf 76 = .ok (.istore_n 3, 1) := by decide +kernel
theorem dX5_nextOf_77 : decode cX5_nextOf 77 = .ok (.iload 7, 2) := by decide +kernel
theorem dX5_nextOf_79 : decode cX5_nextOf 79 = .ok (.istore 4, 2) := by decide +kernel
theorem dX5_nextOf_81 : decode cX5_nextOf 81 = .ok (.iinc 5 1, 3) := by decide +kernel
theorem dX5_nextOf_84 : decode cX5_nextOf 84 = .ok (.goto (-75), 3) := by decide +kernel
theorem dX5_nextOf_87 : decode cX5_nextOf 87 = .ok (.iload_n 3, 1) := by decide +kernel
theorem dX5_nextOf_88 : decode cX5_nextOf 88 = .ok (.ireturn, 1) := by decide +kernel
set_option maxRecDepth 20000 in
theorem ggX5_isTorn_X5_offerOf : GoodIn wsX5_isTorn wsX5_offerOf := goodIn_r _ [5, 6, 7, 8, 9, 10, 11, 12, 13, 4, 14, 15, 16, 17, 18, 19, 20, 21, 22, 23, 24, 25, 26, 27, 28, 29, 30, 31, 32, 33, 34, 35, 36, 37, 38, 39, 40, 41, 42, 43] rfl (by decide +kernel)
set_option maxRecDepth 20000 in
theorem gX5_isTorn_X5_offerOf : GoodIn wsX5_isTorn (wsV RX5 95 RX5 yX5_offerOf wsX5_offerOf) := goodIn_app (goodIn_r _ [1, 2, 3, 4] rfl (by decide +kernel)) ggX5_isTorn_X5_offerOf
set_option maxRecDepth 20000 in
theorem ggX5_isTorn_X5_held : GoodIn wsX5_isTorn wsX5_held := goodIn_r _ [14, 15, 16, 17, 18, 19, 20, 21, 22, 23, 24, 25, 26, 27, 28, 29, 30, 31, 32, 33, 34, 35, 36, 37, 38, 39, 40, 41, 42, 43] rfl (by decide +kernel)
set_option maxRecDepth 20000 in
theorem gX5_isTorn_X5_held : GoodIn wsX5_isTorn (wsV RX5 91 RX5 yX5_held wsX5_held) := goodIn_app (goodIn_r _ [11, 12, 13, 4] rfl (by decide +kernel)) ggX5_isTorn_X5_held
theorem dX5_isTorn_0 : decode cX5_isTorn 0 = .ok (.aload_n 0, 1) := by decide +kernel
theorem dX5_isTorn_1 : decode cX5_isTorn 1 = .ok (.iload_n 2, 1) := by decide +kernel
theorem dX5_isTorn_2 : decode cX5_isTorn 2 = .ok (.iload_n 1, 1) := by decide +kernel
theorem dX5_isTorn_3 : decode cX5_isTorn 3 = .ok (.invokevirtual 95, 3) := by decide +kernel
theorem dX5_isTorn_6 : decode cX5_isTorn 6 = .ok (.istore 6, 2) := by decide +kernel
theorem dX5_isTorn_8 : decode cX5_isTorn 8 = .ok (.iload 6, 2) := by decide +kernel
theorem dX5_isTorn_10 : decode cX5_isTorn 10 = .ok (.bipush (-9), 2) := by decide +kernel
theorem dX5_isTorn_12 : decode cX5_isTorn 12 = .ok (.if_icmp .eq 10, 3) := by decide +kernel
theorem dX5_isTorn_15 : decode cX5_isTorn 15 = .ok (.aload_n 3, 1) := by decide +kernel
theorem dX5_isTorn_16 : decode cX5_isTorn 16 = .ok (.iload_n 1, 1) := by decide +kernel
theorem dX5_isTorn_17 : decode cX5_isTorn 17 = .ok (.iaload, 1) := by decide +kernel
theorem dX5_isTorn_18 : decode cX5_isTorn 18 = .ok (.iload_n 2, 1) := by decide +kernel
theorem dX5_isTorn_19 : decode cX5_isTorn 19 = .ok (.if_icmp .ne 5, 3) := by decide +kernel
theorem dX5_isTorn_22 : decode cX5_isTorn 22 = .ok (.iconst 0, 1) := by decide +kernel
theorem dX5_isTorn_23 : decode cX5_isTorn 23 = .ok (.ireturn, 1) := by decide +kernel
theorem dX5_isTorn_24 : decode cX5_isTorn 24 = .ok (.aload_n 3, 1) := by decide +kernel
theorem dX5_isTorn_25 : decode cX5_isTorn 25 = .ok (.iload_n 1, 1) := by decide +kernel
theorem dX5_isTorn_26 : decode cX5_isTorn 26 = .ok (.iaload, 1) := by decide +kernel
theorem dX5_isTorn_27 : decode cX5_isTorn 27 = .ok (.bipush (-9), 2) := by decide +kernel
theorem dX5_isTorn_29 : decode cX5_isTorn 29 = .ok (.if_icmp .eq 12, 3) := by decide +kernel
theorem dX5_isTorn_32 : decode cX5_isTorn 32 = .ok (.aload 4, 2) := by decide +kernel
theorem dX5_isTorn_34 : decode cX5_isTorn 34 = .ok (.iload_n 1, 1) := by decide +kernel
theorem dX5_isTorn_35 : decode cX5_isTorn 35 = .ok (.iaload, 1) := by decide +kernel
theorem dX5_isTorn_36 : decode cX5_isTorn 36 = .ok (.iload 6, 2) := by decide +kernel
theorem dX5_isTorn_38 : decode cX5_isTorn 38 = .ok (.if_icmp .ge 7, 3) := by decide +kernel
theorem dX5_isTorn_41 : decode cX5_isTorn 41 = .ok (.iconst 1, 1) := by decide +kernel
theorem dX5_isTorn_42 : decode cX5_isTorn 42 = .ok (.goto 4, 3) := by decide +kernel
theorem dX5_isTorn_45 : decode cX5_isTorn 45 = .ok (.iconst 0, 1) := by decide +kernel
theorem dX5_isTorn_46 : decode cX5_isTorn 46 = .ok (.istore 7, 2) := by decide +kernel
theorem dX5_isTorn_48 : decode cX5_isTorn 48 = .ok (.aload 5, 2) := by decide +kernel
theorem dX5_isTorn_50 : decode cX5_isTorn 50 = .ok (.iload_n 2, 1) := by decide +kernel
theorem dX5_isTorn_51 : decode cX5_isTorn 51 = .ok (.iaload, 1) := by decide +kernel
theorem dX5_isTorn_52 : decode cX5_isTorn 52 = .ok (.bipush (-9), 2) := by decide +kernel
theorem dX5_isTorn_54 : decode cX5_isTorn 54 = .ok (.if_icmp .eq 38, 3) := by decide +kernel
theorem dX5_isTorn_57 : decode cX5_isTorn 57 = .ok (.bipush 10, 2) := by decide +kernel
theorem dX5_isTorn_59 : decode cX5_isTorn 59 = .ok (.aload_n 0, 1) := by decide +kernel
theorem dX5_isTorn_60 : decode cX5_isTorn 60 = .ok (.iload_n 2, 1) := by decide +kernel
theorem dX5_isTorn_61 : decode cX5_isTorn 61 = .ok (.aload 5, 2) := by decide +kernel
theorem dX5_isTorn_63 : decode cX5_isTorn 63 = .ok (.iload_n 2, 1) := by decide +kernel
theorem dX5_isTorn_64 : decode cX5_isTorn 64 = .ok (.iaload, 1) := by decide +kernel
theorem dX5_isTorn_65 : decode cX5_isTorn 65 = .ok (.invokevirtual 91, 3) := by decide +kernel
theorem dX5_isTorn_68 : decode cX5_isTorn 68 = .ok (.imul, 1) := by decide +kernel
theorem dX5_isTorn_69 : decode cX5_isTorn 69 = .ok (.aload 4, 2) := by decide +kernel
theorem dX5_isTorn_71 : decode cX5_isTorn 71 = .ok (.aload 5, 2) := by decide +kernel
theorem dX5_isTorn_73 : decode cX5_isTorn 73 = .ok (.iload_n 2, 1) := by decide +kernel
theorem dX5_isTorn_74 : decode cX5_isTorn 74 = .ok (.iaload, 1) := by decide +kernel
theorem dX5_isTorn_75 : decode cX5_isTorn 75 = .ok (.iaload, 1) := by decide +kernel
theorem dX5_isTorn_76 : decode cX5_isTorn 76 = .ok (.isub, 1) := by decide +kernel
theorem dX5_isTorn_77 : decode cX5_isTorn 77 = .ok (.bipush 10, 2) := by decide +kernel
theorem dX5_isTorn_79 : decode cX5_isTorn 79 = .ok (.aload_n 0, 1) := by decide +kernel
theorem dX5_isTorn_80 : decode cX5_isTorn 80 = .ok (.iload_n 2, 1) := by decide +kernel
theorem dX5_isTorn_81 : decode cX5_isTorn 81 = .ok (.iload_n 1, 1) := by decide +kernel
theorem dX5_isTorn_82 : decode cX5_isTorn 82 = .ok (.invokevirtual 91, 3) := by decide +kernel
theorem dX5_isTorn_85 : decode cX5_isTorn 85 = .ok (.imul, 1) := by decide +kernel
theorem dX5_isTorn_86 : decode cX5_isTorn 86 = .ok (.iload 6, 2) := by decide +kernel
theorem dX5_isTorn_88 : decode cX5_isTorn 88 = .ok (.isub, 1) := by decide +kernel
theorem dX5_isTorn_89 : decode cX5_isTorn 89 = .ok (.if_icmp .ge 7, 3) := by decide +kernel
theorem dX5_isTorn_92 : decode cX5_isTorn 92 = .ok (.iconst 1, 1) := by decide +kernel
theorem dX5_isTorn_93 : decode cX5_isTorn 93 = .ok (.goto 4, 3) := by decide +kernel
theorem dX5_isTorn_96 : decode cX5_isTorn 96 = .ok (.iconst 0, 1) := by decide +kernel
theorem dX5_isTorn_97 : decode cX5_isTorn 97 = .ok (.istore 8, 2) := by decide +kernel
theorem dX5_isTorn_99 : decode cX5_isTorn 99 = .ok (.iload 7, 2) := by decide +kernel
theorem dX5_isTorn_101 : decode cX5_isTorn 101 = .ok (.ifCond .eq 12, 3) := by decide +kernel
theorem dX5_isTorn_104 : decode cX5_isTorn 104 = .ok (.iload 8, 2) := by decide +kernel
theorem dX5_isTorn_106 : decode cX5_isTorn 106 = .ok (.ifCond .eq 7, 3) := by decide +kernel
theorem dX5_isTorn_109 : decode cX5_isTorn 109 = .ok (.iconst 1, 1) := by decide +kernel
theorem dX5_isTorn_110 : decode cX5_isTorn 110 = .ok (.goto 4, 3) := by decide +kernel
theorem dX5_isTorn_113 : decode cX5_isTorn 113 = .ok (.iconst 0, 1) := by decide +kernel
theorem dX5_isTorn_114 : decode cX5_isTorn 114 = .ok (.ireturn, 1) := by decide +kernel
set_option maxRecDepth 20000 in
theorem ggX5_servant_X5_in : GoodIn wsX5_servant wsX5_in := goodIn_r _ [13] rfl (by decide +kernel)
set_option maxRecDepth 20000 in
theorem gX5_servant_X5_in : GoodIn wsX5_servant (va_wsS RX5 84 yX5_in wsX5_in) := goodIn_app (goodIn_r _ [10, 11, 12] rfl (by decide +kernel)) ggX5_servant_X5_in
theorem dX5_servant_0 : decode cX5_servant 0 = .ok (.aload_n 0, 1) := by decide +kernel
theorem dX5_servant_1 : decode cX5_servant 1 = .ok (.iconst 0, 1) := by decide +kernel
theorem dX5_servant_2 : decode cX5_servant 2 = .ok (.putfield 78, 3) := by decide +kernel
theorem dX5_servant_5 : decode cX5_servant 5 = .ok (.iload_n 1, 1) := by decide +kernel
theorem dX5_servant_6 : decode cX5_servant 6 = .ok (.i2l, 1) := by decide +kernel
theorem dX5_servant_7 : decode cX5_servant 7 = .ok (.lconst 0, 1) := by decide +kernel
theorem dX5_servant_8 : decode cX5_servant 8 = .ok (.ldc2_w 98, 3) := by decide +kernel
theorem dX5_servant_11 : decode cX5_servant 11 = .ok (.invokestatic 84, 3) := by decide +kernel
theorem dX5_servant_14 : decode cX5_servant 14 = .ok (.ifCond .eq 27, 3) := by decide +kernel
theorem dX5_servant_17 : decode cX5_servant 17 = .ok (.iload_n 2, 1) := by decide +kernel
theorem dX5_servant_18 : decode cX5_servant 18 = .ok (.i2l, 1) := by decide +kernel
theorem dX5_servant_19 : decode cX5_servant 19 = .ok (.lconst 1, 1) := by decide +kernel
theorem dX5_servant_20 : decode cX5_servant 20 = .ok (.ldc2_w 100, 3) := by decide +kernel
theorem dX5_servant_23 : decode cX5_servant 23 = .ok (.invokestatic 84, 3) := by decide +kernel
theorem dX5_servant_26 : decode cX5_servant 26 = .ok (.ifCond .eq 15, 3) := by decide +kernel
theorem dX5_servant_29 : decode cX5_servant 29 = .ok (.iload_n 3, 1) := by decide +kernel
theorem dX5_servant_30 : decode cX5_servant 30 = .ok (.i2l, 1) := by decide +kernel
theorem dX5_servant_31 : decode cX5_servant 31 = .ok (.lconst 1, 1) := by decide +kernel
theorem dX5_servant_32 : decode cX5_servant 32 = .ok (.ldc2_w 102, 3) := by decide +kernel
theorem dX5_servant_35 : decode cX5_servant 35 = .ok (.invokestatic 84, 3) := by decide +kernel
theorem dX5_servant_38 : decode cX5_servant 38 = .ok (.ifCond .ne 6, 3) := by decide +kernel
theorem dX5_servant_41 : decode cX5_servant 41 = .ok (.bipush (-2), 2) := by decide +kernel
theorem dX5_servant_43 : decode cX5_servant 43 = .ok (.ireturn, 1) := by decide +kernel
theorem dX5_servant_44 : decode cX5_servant 44 = .ok (.aload_n 0, 1) := by decide +kernel
theorem dX5_servant_45 : decode cX5_servant 45 = .ok (.getfield 50, 3) := by decide +kernel
theorem dX5_servant_48 : decode cX5_servant 48 = .ok (.bipush (-9), 2) := by decide +kernel
theorem dX5_servant_50 : decode cX5_servant 50 = .ok (.if_icmp .eq 6, 3) := by decide +kernel
theorem dX5_servant_53 : decode cX5_servant 53 = .ok (.bipush (-3), 2) := by decide +kernel
theorem dX5_servant_55 : decode cX5_servant 55 = .ok (.ireturn, 1) := by decide +kernel
theorem dX5_servant_56 : decode cX5_servant 56 = .ok (.aload_n 0, 1) := by decide +kernel
theorem dX5_servant_57 : decode cX5_servant 57 = .ok (.getfield 81, 3) := by decide +kernel
theorem dX5_servant_60 : decode cX5_servant 60 = .ok (.bipush 10, 2) := by decide +kernel
theorem dX5_servant_62 : decode cX5_servant 62 = .ok (.if_icmp .ne 6, 3) := by decide +kernel
theorem dX5_servant_65 : decode cX5_servant 65 = .ok (.bipush (-4), 2) := by decide +kernel
theorem dX5_servant_67 : decode cX5_servant 67 = .ok (.ireturn, 1) := by decide +kernel
theorem dX5_servant_68 : decode cX5_servant 68 = .ok (.aload_n 0, 1) := by decide +kernel
theorem dX5_servant_69 : decode cX5_servant 69 = .ok (.getfield 7, 3) := by decide +kernel
theorem dX5_servant_72 : decode cX5_servant 72 = .ok (.aload_n 0, 1) := by decide +kernel
theorem dX5_servant_73 : decode cX5_servant 73 = .ok (.getfield 81, 3) := by decide +kernel
theorem dX5_servant_76 : decode cX5_servant 76 = .ok (.iload_n 1, 1) := by decide +kernel
theorem dX5_servant_77 : decode cX5_servant 77 = .ok (.iastore, 1) := by decide +kernel
theorem dX5_servant_78 : decode cX5_servant 78 = .ok (.aload_n 0, 1) := by decide +kernel
theorem dX5_servant_79 : decode cX5_servant 79 = .ok (.getfield 13, 3) := by decide +kernel
theorem dX5_servant_82 : decode cX5_servant 82 = .ok (.aload_n 0, 1) := by decide +kernel
theorem dX5_servant_83 : decode cX5_servant 83 = .ok (.getfield 81, 3) := by decide +kernel
theorem dX5_servant_86 : decode cX5_servant 86 = .ok (.iload_n 2, 1) := by decide +kernel
theorem dX5_servant_87 : decode cX5_servant 87 = .ok (.iastore, 1) := by decide +kernel
theorem dX5_servant_88 : decode cX5_servant 88 = .ok (.aload_n 0, 1) := by decide +kernel
theorem dX5_servant_89 : decode cX5_servant 89 = .ok (.getfield 16, 3) := by decide +kernel
theorem dX5_servant_92 : decode cX5_servant 92 = .ok (.aload_n 0, 1) := by decide +kernel
theorem dX5_servant_93 : decode cX5_servant 93 = .ok (.getfield 81, 3) := by decide +kernel
theorem dX5_servant_96 : decode cX5_servant 96 = .ok (.iload_n 3, 1) := by decide +kernel
theorem dX5_servant_97 : decode cX5_servant 97 = .ok (.iastore, 1) := by decide +kernel
theorem dX5_servant_98 : decode cX5_servant 98 = .ok (.aload_n 0, 1) := by decide +kernel
theorem dX5_servant_99 : decode cX5_servant 99 = .ok (.dup, 1) := by decide +kernel
theorem dX5_servant_100 : decode cX5_servant 100 = .ok (.getfield 81, 3) := by decide +kernel
theorem dX5_servant_103 : decode cX5_servant 103 = .ok (.iconst 1, 1) := by decide +kernel
theorem dX5_servant_104 : decode cX5_servant 104 = .ok (.iadd, 1) := by decide +kernel
theorem dX5_servant_105 : decode cX5_servant 105 = .ok (.putfield 81, 3) := by decide +kernel
theorem dX5_servant_108 : decode cX5_servant 108 = .ok (.aload_n 0, 1) := by decide +kernel
theorem dX5_servant_109 : decode cX5_servant 109 = .ok (.getfield 81, 3) := by decide +kernel
theorem dX5_servant_112 : decode cX5_servant 112 = .ok (.iconst 1, 1) := by decide +kernel
theorem dX5_servant_113 : decode cX5_servant 113 = .ok (.isub, 1) := by decide +kernel
theorem dX5_servant_114 : decode cX5_servant 114 = .ok (.ireturn, 1) := by decide +kernel
set_option maxRecDepth 20000 in
theorem ggX5_master_X5_in : GoodIn wsX5_master wsX5_in := goodIn_r _ [11] rfl (by decide +kernel)
set_option maxRecDepth 20000 in
theorem gX5_master_X5_in : GoodIn wsX5_master (va_wsS RX5 84 yX5_in wsX5_in) := goodIn_app (goodIn_r _ [8, 9, 10] rfl (by decide +kernel)) ggX5_master_X5_in
theorem dX5_master_0 : decode cX5_master 0 = .ok (.aload_n 0, 1) := by decide +kernel
theorem dX5_master_1 : decode cX5_master 1 = .ok (.iconst 0, 1) := by decide +kernel
theorem dX5_master_2 : decode cX5_master 2 = .ok (.putfield 78, 3) := by decide +kernel
theorem dX5_master_5 : decode cX5_master 5 = .ok (.iload_n 1, 1) := by decide +kernel
theorem dX5_master_6 : decode cX5_master 6 = .ok (.i2l, 1) := by decide +kernel
theorem dX5_master_7 : decode cX5_master 7 = .ok (.lconst 0, 1) := by decide +kernel
theorem dX5_master_8 : decode cX5_master 8 = .ok (.ldc2_w 98, 3) := by decide +kernel
theorem dX5_master_11 : decode cX5_master 11 = .ok (.invokestatic 84, 3) := by decide +kernel
theorem dX5_master_14 : decode cX5_master 14 = .ok (.ifCond .eq 15, 3) := by decide +kernel
theorem dX5_master_17 : decode cX5_master 17 = .ok (.iload_n 2, 1) := by decide +kernel
theorem dX5_master_18 : decode cX5_master 18 = .ok (.i2l, 1) := by decide +kernel
theorem dX5_master_19 : decode cX5_master 19 = .ok (.lconst 1, 1) := by decide +kernel
theorem dX5_master_20 : decode cX5_master 20 = .ok (.ldc2_w 104, 3) := by decide +kernel
theorem dX5_master_23 : decode cX5_master 23 = .ok (.invokestatic 84, 3) := by decide +kernel
theorem dX5_master_26 : decode cX5_master 26 = .ok (.ifCond .ne 6, 3) := by decide +kernel
theorem dX5_master_29 : decode cX5_master 29 = .ok (.bipush (-2), 2) := by decide +kernel
theorem dX5_master_31 : decode cX5_master 31 = .ok (.ireturn, 1) := by decide +kernel
theorem dX5_master_32 : decode cX5_master 32 = .ok (.aload_n 0, 1) := by decide +kernel
theorem dX5_master_33 : decode cX5_master 33 = .ok (.getfield 50, 3) := by decide +kernel
theorem dX5_master_36 : decode cX5_master 36 = .ok (.bipush (-9), 2) := by decide +kernel
theorem dX5_master_38 : decode cX5_master 38 = .ok (.if_icmp .eq 6, 3) := by decide +kernel
theorem dX5_master_41 : decode cX5_master 41 = .ok (.bipush (-3), 2) := by decide +kernel
theorem dX5_master_43 : decode cX5_master 43 = .ok (.ireturn, 1) := by decide +kernel
theorem dX5_master_44 : decode cX5_master 44 = .ok (.aload_n 0, 1) := by decide +kernel
theorem dX5_master_45 : decode cX5_master 45 = .ok (.getfield 88, 3) := by decide +kernel
theorem dX5_master_48 : decode cX5_master 48 = .ok (.bipush 10, 2) := by decide +kernel
theorem dX5_master_50 : decode cX5_master 50 = .ok (.if_icmp .ne 6, 3) := by decide +kernel
theorem dX5_master_53 : decode cX5_master 53 = .ok (.bipush (-4), 2) := by decide +kernel
theorem dX5_master_55 : decode cX5_master 55 = .ok (.ireturn, 1) := by decide +kernel
theorem dX5_master_56 : decode cX5_master 56 = .ok (.aload_n 0, 1) := by decide +kernel
theorem dX5_master_57 : decode cX5_master 57 = .ok (.getfield 19, 3) := by decide +kernel
theorem dX5_master_60 : decode cX5_master 60 = .ok (.aload_n 0, 1) := by decide +kernel
theorem dX5_master_61 : decode cX5_master 61 = .ok (.getfield 88, 3) := by decide +kernel
theorem dX5_master_64 : decode cX5_master 64 = .ok (.iload_n 1, 1) := by decide +kernel
theorem dX5_master_65 : decode cX5_master 65 = .ok (.iastore, 1) := by decide +kernel
theorem dX5_master_66 : decode cX5_master 66 = .ok (.aload_n 0, 1) := by decide +kernel
theorem dX5_master_67 : decode cX5_master 67 = .ok (.getfield 22, 3) := by decide +kernel
theorem dX5_master_70 : decode cX5_master 70 = .ok (.aload_n 0, 1) := by decide +kernel
theorem dX5_master_71 : decode cX5_master 71 = .ok (.getfield 88, 3) := by decide +kernel
theorem dX5_master_74 : decode cX5_master 74 = .ok (.iload_n 2, 1) := by decide +kernel
theorem dX5_master_75 : decode cX5_master 75 = .ok (.iastore, 1) := by decide +kernel
theorem dX5_master_76 : decode cX5_master 76 = .ok (.aload_n 0, 1) := by decide +kernel
theorem dX5_master_77 : decode cX5_master 77 = .ok (.dup, 1) := by decide +kernel
theorem dX5_master_78 : decode cX5_master 78 = .ok (.getfield 88, 3) := by decide +kernel
theorem dX5_master_81 : decode cX5_master 81 = .ok (.iconst 1, 1) := by decide +kernel
theorem dX5_master_82 : decode cX5_master 82 = .ok (.iadd, 1) := by decide +kernel
theorem dX5_master_83 : decode cX5_master 83 = .ok (.putfield 88, 3) := by decide +kernel
theorem dX5_master_86 : decode cX5_master 86 = .ok (.aload_n 0, 1) := by decide +kernel
theorem dX5_master_87 : decode cX5_master 87 = .ok (.getfield 88, 3) := by decide +kernel
theorem dX5_master_90 : decode cX5_master 90 = .ok (.iconst 1, 1) := by decide +kernel
theorem dX5_master_91 : decode cX5_master 91 = .ok (.isub, 1) := by decide +kernel
theorem dX5_master_92 : decode cX5_master 92 = .ok (.ireturn, 1) := by decide +kernel
set_option maxRecDepth 20000 in
theorem ggX5_bar_X5_noServant : GoodIn wsX5_bar wsX5_noServant := goodIn_r _ [7, 8, 9, 10, 6, 11, 17, 18, 19, 20, 21, 22, 23, 24, 25, 26, 27, 28, 29, 30, 31, 32, 33, 34, 35, 36, 37, 38, 39, 40, 41, 42, 43, 44] rfl (by decide +kernel)
set_option maxRecDepth 20000 in
theorem gX5_bar_X5_noServant : GoodIn wsX5_bar (wsV RX5 106 RX5 yX5_noServant wsX5_noServant) := goodIn_app (goodIn_r _ [3, 4, 5, 6] rfl (by decide +kernel)) ggX5_bar_X5_noServant
set_option maxRecDepth 20000 in
theorem ggX5_bar_X5_noMaster : GoodIn wsX5_bar wsX5_noMaster := goodIn_r _ [15, 16, 9, 10, 6, 11, 17, 18, 19, 20, 21, 22, 23, 24, 25, 26, 27, 28, 29, 30, 31, 32, 33, 34, 35, 36, 37, 38, 39, 40, 41, 42, 43, 44] rfl (by decide +kernel)
set_option maxRecDepth 20000 in
theorem gX5_bar_X5_noMaster : GoodIn wsX5_bar (wsV RX5 110 RX5 yX5_noMaster wsX5_noMaster) := goodIn_app (goodIn_r _ [12, 13, 14, 6] rfl (by decide +kernel)) ggX5_bar_X5_noMaster
theorem dX5_bar_0 : decode cX5_bar 0 = .ok (.aload_n 0, 1) := by decide +kernel
theorem dX5_bar_1 : decode cX5_bar 1 = .ok (.iconst 0, 1) := by decide +kernel
theorem dX5_bar_2 : decode cX5_bar 2 = .ok (.putfield 78, 3) := by decide +kernel
theorem dX5_bar_5 : decode cX5_bar 5 = .ok (.aload_n 0, 1) := by decide +kernel
theorem dX5_bar_6 : decode cX5_bar 6 = .ok (.iload_n 1, 1) := by decide +kernel
theorem dX5_bar_7 : decode cX5_bar 7 = .ok (.invokevirtual 106, 3) := by decide +kernel
theorem dX5_bar_10 : decode cX5_bar 10 = .ok (.ifCond .ne 11, 3) := by decide +kernel
theorem dX5_bar_13 : decode cX5_bar 13 = .ok (.aload_n 0, 1) := by decide +kernel
theorem dX5_bar_14 : decode cX5_bar 14 = .ok (.iload_n 2, 1) := by decide +kernel
theorem dX5_bar_15 : decode cX5_bar 15 = .ok (.invokevirtual 110, 3) := by decide +kernel
theorem dX5_bar_18 : decode cX5_bar 18 = .ok (.ifCond .eq 5, 3) := by decide +kernel
theorem dX5_bar_21 : decode cX5_bar 21 = .ok (.iconst (-1), 1) := by decide +kernel
theorem dX5_bar_22 : decode cX5_bar 22 = .ok (.ireturn, 1) := by decide +kernel
theorem dX5_bar_23 : decode cX5_bar 23 = .ok (.aload_n 0, 1) := by decide +kernel
theorem dX5_bar_24 : decode cX5_bar 24 = .ok (.getfield 28, 3) := by decide +kernel
theorem dX5_bar_27 : decode cX5_bar 27 = .ok (.bipush 10, 2) := by decide +kernel
theorem dX5_bar_29 : decode cX5_bar 29 = .ok (.iload_n 2, 1) := by decide +kernel
theorem dX5_bar_30 : decode cX5_bar 30 = .ok (.imul, 1) := by decide +kernel
theorem dX5_bar_31 : decode cX5_bar 31 = .ok (.iload_n 1, 1) := by decide +kernel
theorem dX5_bar_32 : decode cX5_bar 32 = .ok (.iadd, 1) := by decide +kernel
theorem dX5_bar_33 : decode cX5_bar 33 = .ok (.baload, 1) := by decide +kernel
theorem dX5_bar_34 : decode cX5_bar 34 = .ok (.ifCond .eq 7, 3) := by decide +kernel
theorem dX5_bar_37 : decode cX5_bar 37 = .ok (.iconst 1, 1) := by decide +kernel
theorem dX5_bar_38 : decode cX5_bar 38 = .ok (.goto 4, 3) := by decide +kernel
theorem dX5_bar_41 : decode cX5_bar 41 = .ok (.iconst 0, 1) := by decide +kernel
theorem dX5_bar_42 : decode cX5_bar 42 = .ok (.istore 4, 2) := by decide +kernel
theorem dX5_bar_44 : decode cX5_bar 44 = .ok (.aload_n 0, 1) := by decide +kernel
theorem dX5_bar_45 : decode cX5_bar 45 = .ok (.getfield 28, 3) := by decide +kernel
theorem dX5_bar_48 : decode cX5_bar 48 = .ok (.bipush 10, 2) := by decide +kernel
theorem dX5_bar_50 : decode cX5_bar 50 = .ok (.iload_n 2, 1) := by decide +kernel
theorem dX5_bar_51 : decode cX5_bar 51 = .ok (.imul, 1) := by decide +kernel
theorem dX5_bar_52 : decode cX5_bar 52 = .ok (.iload_n 1, 1) := by decide +kernel
theorem dX5_bar_53 : decode cX5_bar 53 = .ok (.iadd, 1) := by decide +kernel
theorem dX5_bar_54 : decode cX5_bar 54 = .ok (.iload_n 3, 1) := by decide +kernel
theorem dX5_bar_55 : decode cX5_bar 55 = .ok (.bastore, 1) := by decide +kernel
theorem dX5_bar_56 : decode cX5_bar 56 = .ok (.iload 4, 2) := by decide +kernel
theorem dX5_bar_58 : decode cX5_bar 58 = .ok (.ireturn, 1) := by decide +kernel
set_option maxRecDepth 20000 in
theorem ggX5_hear_X5_noMaster : GoodIn wsX5_hear wsX5_noMaster := goodIn_r _ [8, 9, 10, 11, 7, 12, 22, 23, 24, 25, 26, 27, 28, 29, 30, 31, 32, 33, 34, 35, 36, 37, 38, 39, 40, 41, 42, 43, 44, 45, 46, 47, 48, 49] rfl (by decide +kernel)
set_option maxRecDepth 20000 in
theorem gX5_hear_X5_noMaster : GoodIn wsX5_hear (wsV RX5 110 RX5 yX5_noMaster wsX5_noMaster) := goodIn_app (goodIn_r _ [4, 5, 6, 7] rfl (by decide +kernel)) ggX5_hear_X5_noMaster
set_option maxRecDepth 20000 in
theorem ggX5_hear_X5_noServant : GoodIn wsX5_hear wsX5_noServant := goodIn_r _ [16, 17, 10, 11, 7, 12, 22, 23, 24, 25, 26, 27, 28, 29, 30, 31, 32, 33, 34, 35, 36, 37, 38, 39, 40, 41, 42, 43, 44, 45, 46, 47, 48, 49] rfl (by decide +kernel)
set_option maxRecDepth 20000 in
theorem gX5_hear_X5_noServant : GoodIn wsX5_hear (wsV RX5 106 RX5 yX5_noServant wsX5_noServant) := goodIn_app (goodIn_r _ [13, 14, 15, 7] rfl (by decide +kernel)) ggX5_hear_X5_noServant
set_option maxRecDepth 20000 in
theorem ggX5_hear_X5_in : GoodIn wsX5_hear wsX5_in := goodIn_r _ [12] rfl (by decide +kernel)
set_option maxRecDepth 20000 in
theorem gX5_hear_X5_in : GoodIn wsX5_hear (va_wsS RX5 84 yX5_in wsX5_in) := goodIn_app (goodIn_r _ [10, 11, 7] rfl (by decide +kernel)) ggX5_hear_X5_in
set_option maxRecDepth 20000 in
theorem ggX5_hear_X5_held : GoodIn wsX5_hear wsX5_held := goodIn_r _ [21, 3, 22, 23, 24, 25, 26, 27, 28, 29, 30, 31, 32, 33, 34, 35, 36, 37, 38, 39, 40, 41, 42, 43, 44, 45, 46, 47, 48, 49] rfl (by decide +kernel)
set_option maxRecDepth 20000 in
theorem gX5_hear_X5_held : GoodIn wsX5_hear (wsV RX5 91 RX5 yX5_held wsX5_held) := goodIn_app (goodIn_r _ [18, 19, 20, 7] rfl (by decide +kernel)) ggX5_hear_X5_held
theorem dX5_hear_0 : decode cX5_hear 0 = .ok (.aload_n 0, 1) := by decide +kernel
theorem dX5_hear_1 : decode cX5_hear 1 = .ok (.iconst 0, 1) := by decide +kernel
theorem dX5_hear_2 : decode cX5_hear 2 = .ok (.putfield 78, 3) := by decide +kernel
theorem dX5_hear_5 : decode cX5_hear 5 = .ok (.aload_n 0, 1) := by decide +kernel
theorem dX5_hear_6 : decode cX5_hear 6 = .ok (.iload_n 1, 1) := by decide +kernel
theorem dX5_hear_7 : decode cX5_hear 7 = .ok (.invokevirtual 110, 3) := by decide +kernel
theorem dX5_hear_10 : decode cX5_hear 10 = .ok (.ifCond .ne 11, 3) := by decide +kernel
theorem dX5_hear_13 : decode cX5_hear 13 = .ok (.aload_n 0, 1) := by decide +kernel
theorem dX5_hear_14 : decode cX5_hear 14 = .ok (.iload_n 2, 1) := by decide +kernel
theorem dX5_hear_15 : decode cX5_hear 15 = .ok (.invokevirtual 106, 3) := by decide +kernel
theorem dX5_hear_18 : decode cX5_hear 18 = .ok (.ifCond .eq 5, 3) := by decide +kernel
theorem dX5_hear_21 : decode cX5_hear 21 = .ok (.iconst (-1), 1) := by decide +kernel
theorem dX5_hear_22 : decode cX5_hear 22 = .ok (.ireturn, 1) := by decide +kernel
theorem dX5_hear_23 : decode cX5_hear 23 = .ok (.iload_n 3, 1) := by decide +kernel
theorem dX5_hear_24 : decode cX5_hear 24 = .ok (.i2l, 1) := by decide +kernel
theorem dX5_hear_25 : decode cX5_hear 25 = .ok (.lconst 1, 1) := by decide +kernel
theorem dX5_hear_26 : decode cX5_hear 26 = .ok (.ldc2_w 100, 3) := by decide +kernel
theorem dX5_hear_29 : decode cX5_hear 29 = .ok (.invokestatic 84, 3) := by decide +kernel
theorem dX5_hear_32 : decode cX5_hear 32 = .ok (.ifCond .ne 6, 3) := by decide +kernel
theorem dX5_hear_35 : decode cX5_hear 35 = .ok (.bipush (-2), 2) := by decide +kernel
theorem dX5_hear_37 : decode cX5_hear 37 = .ok (.ireturn, 1) := by decide +kernel
theorem dX5_hear_38 : decode cX5_hear 38 = .ok (.aload_n 0, 1) := by decide +kernel
theorem dX5_hear_39 : decode cX5_hear 39 = .ok (.iload_n 1, 1) := by decide +kernel
theorem dX5_hear_40 : decode cX5_hear 40 = .ok (.iload_n 2, 1) := by decide +kernel
theorem dX5_hear_41 : decode cX5_hear 41 = .ok (.invokevirtual 91, 3) := by decide +kernel
theorem dX5_hear_44 : decode cX5_hear 44 = .ok (.istore 4, 2) := by decide +kernel
theorem dX5_hear_46 : decode cX5_hear 46 = .ok (.aload_n 0, 1) := by decide +kernel
theorem dX5_hear_47 : decode cX5_hear 47 = .ok (.getfield 25, 3) := by decide +kernel
theorem dX5_hear_50 : decode cX5_hear 50 = .ok (.bipush 10, 2) := by decide +kernel
theorem dX5_hear_52 : decode cX5_hear 52 = .ok (.iload_n 1, 1) := by decide +kernel
theorem dX5_hear_53 : decode cX5_hear 53 = .ok (.imul, 1) := by decide +kernel
theorem dX5_hear_54 : decode cX5_hear 54 = .ok (.iload_n 2, 1) := by decide +kernel
theorem dX5_hear_55 : decode cX5_hear 55 = .ok (.iadd, 1) := by decide +kernel
theorem dX5_hear_56 : decode cX5_hear 56 = .ok (.iload_n 3, 1) := by decide +kernel
theorem dX5_hear_57 : decode cX5_hear 57 = .ok (.iastore, 1) := by decide +kernel
theorem dX5_hear_58 : decode cX5_hear 58 = .ok (.iload 4, 2) := by decide +kernel
theorem dX5_hear_60 : decode cX5_hear 60 = .ok (.ireturn, 1) := by decide +kernel
set_option maxRecDepth 20000 in
theorem ggX5_pass_X5_noMaster : GoodIn wsX5_pass wsX5_noMaster := goodIn_r _ [7, 8, 9, 10, 6, 11, 17, 18, 19, 20, 21, 22, 23, 24, 25, 26, 27, 28, 29, 30, 31, 32, 33, 34, 35, 36, 37, 38, 39, 40, 41, 42, 43, 44] rfl (by decide +kernel)
set_option maxRecDepth 20000 in
theorem gX5_pass_X5_noMaster : GoodIn wsX5_pass (wsV RX5 110 RX5 yX5_noMaster wsX5_noMaster) := goodIn_app (goodIn_r _ [3, 4, 5, 6] rfl (by decide +kernel)) ggX5_pass_X5_noMaster
set_option maxRecDepth 20000 in
theorem ggX5_pass_X5_noServant : GoodIn wsX5_pass wsX5_noServant := goodIn_r _ [15, 16, 9, 10, 6, 11, 17, 18, 19, 20, 21, 22, 23, 24, 25, 26, 27, 28, 29, 30, 31, 32, 33, 34, 35, 36, 37, 38, 39, 40, 41, 42, 43, 44] rfl (by decide +kernel)
set_option maxRecDepth 20000 in
theorem gX5_pass_X5_noServant : GoodIn wsX5_pass (wsV RX5 106 RX5 yX5_noServant wsX5_noServant) := goodIn_app (goodIn_r _ [12, 13, 14, 6] rfl (by decide +kernel)) ggX5_pass_X5_noServant
theorem dX5_pass_0 : decode cX5_pass 0 = .ok (.aload_n 0, 1) := by decide +kernel
theorem dX5_pass_1 : decode cX5_pass 1 = .ok (.iconst 0, 1) := by decide +kernel
theorem dX5_pass_2 : decode cX5_pass 2 = .ok (.putfield 78, 3) := by decide +kernel
theorem dX5_pass_5 : decode cX5_pass 5 = .ok (.aload_n 0, 1) := by decide +kernel
theorem dX5_pass_6 : decode cX5_pass 6 = .ok (.iload_n 1, 1) := by decide +kernel
theorem dX5_pass_7 : decode cX5_pass 7 = .ok (.invokevirtual 110, 3) := by decide +kernel
theorem dX5_pass_10 : decode cX5_pass 10 = .ok (.ifCond .ne 19, 3) := by decide +kernel
theorem dX5_pass_13 : decode cX5_pass 13 = .ok (.aload_n 0, 1) := by decide +kernel
theorem dX5_pass_14 : decode cX5_pass 14 = .ok (.iload_n 2, 1) := by decide +kernel
theorem dX5_pass_15 : decode cX5_pass 15 = .ok (.invokevirtual 110, 3) := by decide +kernel
theorem dX5_pass_18 : decode cX5_pass 18 = .ok (.ifCond .ne 11, 3) := by decide +kernel
theorem dX5_pass_21 : decode cX5_pass 21 = .ok (.aload_n 0, 1) := by decide +kernel
theorem dX5_pass_22 : decode cX5_pass 22 = .ok (.iload_n 3, 1) := by decide +kernel
theorem dX5_pass_23 : decode cX5_pass 23 = .ok (.invokevirtual 106, 3) := by decide +kernel
theorem dX5_pass_26 : decode cX5_pass 26 = .ok (.ifCond .eq 5, 3) := by decide +kernel
theorem dX5_pass_29 : decode cX5_pass 29 = .ok (.iconst (-1), 1) := by decide +kernel
theorem dX5_pass_30 : decode cX5_pass 30 = .ok (.ireturn, 1) := by decide +kernel
theorem dX5_pass_31 : decode cX5_pass 31 = .ok (.iload_n 1, 1) := by decide +kernel
theorem dX5_pass_32 : decode cX5_pass 32 = .ok (.iload_n 2, 1) := by decide +kernel
theorem dX5_pass_33 : decode cX5_pass 33 = .ok (.if_icmp .eq 17, 3) := by decide +kernel
theorem dX5_pass_36 : decode cX5_pass 36 = .ok (.aload_n 0, 1) := by decide +kernel
theorem dX5_pass_37 : decode cX5_pass 37 = .ok (.getfield 25, 3) := by decide +kernel
theorem dX5_pass_40 : decode cX5_pass 40 = .ok (.bipush 10, 2) := by decide +kernel
theorem dX5_pass_42 : decode cX5_pass 42 = .ok (.iload_n 1, 1) := by decide +kernel
theorem dX5_pass_43 : decode cX5_pass 43 = .ok (.imul, 1) := by decide +kernel
theorem dX5_pass_44 : decode cX5_pass 44 = .ok (.iload_n 3, 1) := by decide +kernel
theorem dX5_pass_45 : decode cX5_pass 45 = .ok (.iadd, 1) := by decide +kernel
theorem dX5_pass_46 : decode cX5_pass 46 = .ok (.iaload, 1) := by decide +kernel
theorem dX5_pass_47 : decode cX5_pass 47 = .ok (.ifCond .ne 6, 3) := by decide +kernel
theorem dX5_pass_50 : decode cX5_pass 50 = .ok (.bipush (-3), 2) := by decide +kernel
theorem dX5_pass_52 : decode cX5_pass 52 = .ok (.ireturn, 1) := by decide +kernel
theorem dX5_pass_53 : decode cX5_pass 53 = .ok (.aload_n 0, 1) := by decide +kernel
theorem dX5_pass_54 : decode cX5_pass 54 = .ok (.getfield 25, 3) := by decide +kernel
theorem dX5_pass_57 : decode cX5_pass 57 = .ok (.bipush 10, 2) := by decide +kernel
theorem dX5_pass_59 : decode cX5_pass 59 = .ok (.iload_n 2, 1) := by decide +kernel
theorem dX5_pass_60 : decode cX5_pass 60 = .ok (.imul, 1) := by decide +kernel
theorem dX5_pass_61 : decode cX5_pass 61 = .ok (.iload_n 3, 1) := by decide +kernel
theorem dX5_pass_62 : decode cX5_pass 62 = .ok (.iadd, 1) := by decide +kernel
theorem dX5_pass_63 : decode cX5_pass 63 = .ok (.aload_n 0, 1) := by decide +kernel
theorem dX5_pass_64 : decode cX5_pass 64 = .ok (.getfield 25, 3) := by decide +kernel
theorem dX5_pass_67 : decode cX5_pass 67 = .ok (.bipush 10, 2) := by decide +kernel
theorem dX5_pass_69 : decode cX5_pass 69 = .ok (.iload_n 1, 1) := by decide +kernel
theorem dX5_pass_70 : decode cX5_pass 70 = .ok (.imul, 1) := by decide +kernel
theorem dX5_pass_71 : decode cX5_pass 71 = .ok (.iload_n 3, 1) := by decide +kernel
theorem dX5_pass_72 : decode cX5_pass 72 = .ok (.iadd, 1) := by decide +kernel
theorem dX5_pass_73 : decode cX5_pass 73 = .ok (.iaload, 1) := by decide +kernel
theorem dX5_pass_74 : decode cX5_pass 74 = .ok (.iastore, 1) := by decide +kernel
theorem dX5_pass_75 : decode cX5_pass 75 = .ok (.aload_n 0, 1) := by decide +kernel
theorem dX5_pass_76 : decode cX5_pass 76 = .ok (.getfield 25, 3) := by decide +kernel
theorem dX5_pass_79 : decode cX5_pass 79 = .ok (.bipush 10, 2) := by decide +kernel
theorem dX5_pass_81 : decode cX5_pass 81 = .ok (.iload_n 2, 1) := by decide +kernel
theorem dX5_pass_82 : decode cX5_pass 82 = .ok (.imul, 1) := by decide +kernel
theorem dX5_pass_83 : decode cX5_pass 83 = .ok (.iload_n 3, 1) := by decide +kernel
theorem dX5_pass_84 : decode cX5_pass 84 = .ok (.iadd, 1) := by decide +kernel
theorem dX5_pass_85 : decode cX5_pass 85 = .ok (.iaload, 1) := by decide +kernel
theorem dX5_pass_86 : decode cX5_pass 86 = .ok (.ireturn, 1) := by decide +kernel
set_option maxRecDepth 20000 in
theorem ggX5_about_X5_noServant : GoodIn wsX5_about wsX5_noServant := goodIn_r _ [14, 15, 16, 17, 13, 18, 19, 20, 21, 22, 23, 24, 25, 26, 27, 28, 29, 30, 31, 32, 33, 34, 35, 36, 37, 38, 39, 40, 41, 42, 43, 44, 45, 46] rfl (by decide +kernel)
set_option maxRecDepth 20000 in
theorem gX5_about_X5_noServant : GoodIn wsX5_about (wsV RX5 106 RX5 yX5_noServant wsX5_noServant) := goodIn_app (goodIn_r _ [10, 11, 12, 13] rfl (by decide +kernel)) ggX5_about_X5_noServant
theorem dX5_about_0 : decode cX5_about 0 = .ok (.aload_n 0, 1) := by decide +kernel
theorem dX5_about_1 : decode cX5_about 1 = .ok (.iconst 0, 1) := by decide +kernel
theorem dX5_about_2 : decode cX5_about 2 = .ok (.putfield 78, 3) := by decide +kernel
theorem dX5_about_5 : decode cX5_about 5 = .ok (.aload_n 0, 1) := by decide +kernel
theorem dX5_about_6 : decode cX5_about 6 = .ok (.iload_n 1, 1) := by decide +kernel
theorem dX5_about_7 : decode cX5_about 7 = .ok (.invokevirtual 106, 3) := by decide +kernel
theorem dX5_about_10 : decode cX5_about 10 = .ok (.ifCond .eq 5, 3) := by decide +kernel
theorem dX5_about_13 : decode cX5_about 13 = .ok (.iconst (-1), 1) := by decide +kernel
theorem dX5_about_14 : decode cX5_about 14 = .ok (.ireturn, 1) := by decide +kernel
theorem dX5_about_15 : decode cX5_about 15 = .ok (.aload_n 0, 1) := by decide +kernel
theorem dX5_about_16 : decode cX5_about 16 = .ok (.getfield 35, 3) := by decide +kernel
theorem dX5_about_19 : decode cX5_about 19 = .ok (.iload_n 1, 1) := by decide +kernel
theorem dX5_about_20 : decode cX5_about 20 = .ok (.iaload, 1) := by decide +kernel
theorem dX5_about_21 : decode cX5_about 21 = .ok (.bipush (-9), 2) := by decide +kernel
theorem dX5_about_23 : decode cX5_about 23 = .ok (.if_icmp .eq 7, 3) := by decide +kernel
theorem dX5_about_26 : decode cX5_about 26 = .ok (.iconst 1, 1) := by decide +kernel
theorem dX5_about_27 : decode cX5_about 27 = .ok (.goto 4, 3) := by decide +kernel
theorem dX5_about_30 : decode cX5_about 30 = .ok (.iconst 0, 1) := by decide +kernel
theorem dX5_about_31 : decode cX5_about 31 = .ok (.istore_n 3, 1) := by decide +kernel
theorem dX5_about_32 : decode cX5_about 32 = .ok (.iload_n 2, 1) := by decide +kernel
theorem dX5_about_33 : decode cX5_about 33 = .ok (.tableswitch 128 0 6 #[43, 50, 57, 64, 71, 87, 103], 43) := by decide +kernel
theorem dX5_about_76 : decode cX5_about 76 = .ok (.aload_n 0, 1) := by decide +kernel
theorem dX5_about_77 : decode cX5_about 77 = .ok (.getfield 7, 3) := by decide +kernel
theorem dX5_about_80 : decode cX5_about 80 = .ok (.iload_n 1, 1) := by decide +kernel
theorem dX5_about_81 : decode cX5_about 81 = .ok (.iaload, 1) := by decide +kernel
theorem dX5_about_82 : decode cX5_about 82 = .ok (.ireturn, 1) := by decide +kernel
theorem dX5_about_83 : decode cX5_about 83 = .ok (.aload_n 0, 1) := by decide +kernel
theorem dX5_about_84 : decode cX5_about 84 = .ok (.getfield 13, 3) := by decide +kernel
theorem dX5_about_87 : decode cX5_about 87 = .ok (.iload_n 1, 1) := by decide +kernel
theorem dX5_about_88 : decode cX5_about 88 = .ok (.iaload, 1) := by decide +kernel
theorem dX5_about_89 : decode cX5_about 89 = .ok (.ireturn, 1) := by decide +kernel
theorem dX5_about_90 : decode cX5_about 90 = .ok (.aload_n 0, 1) := by decide +kernel
theorem dX5_about_91 : decode cX5_about 91 = .ok (.getfield 16, 3) := by decide +kernel
theorem dX5_about_94 : decode cX5_about 94 = .ok (.iload_n 1, 1) := by decide +kernel
theorem dX5_about_95 : decode cX5_about 95 = .ok (.iaload, 1) := by decide +kernel
theorem dX5_about_96 : decode cX5_about 96 = .ok (.ireturn, 1) := by decide +kernel
theorem dX5_about_97 : decode cX5_about 97 = .ok (.aload_n 0, 1) := by decide +kernel
theorem dX5_about_98 : decode cX5_about 98 = .ok (.getfield 35, 3) := by decide +kernel
theorem dX5_about_101 : decode cX5_about 101 = .ok (.iload_n 1, 1) := by decide +kernel
theorem dX5_about_102 : decode cX5_about 102 = .ok (.iaload, 1) := by decide +kernel
theorem dX5_about_103 : decode cX5_about 103 = .ok (.ireturn, 1) := by decide +kernel
theorem dX5_about_104 : decode cX5_about 104 = .ok (.iload_n 3, 1) := by decide +kernel
theorem dX5_about_105 : decode cX5_about 105 = .ok (.ifCond .eq 12, 3) := by decide +kernel
theorem dX5_about_108 : decode cX5_about 108 = .ok (.aload_n 0, 1) := by decide +kernel
theorem dX5_about_109 : decode cX5_about 109 = .ok (.getfield 38, 3) := by decide +kernel
theorem dX5_about_112 : decode cX5_about 112 = .ok (.iload_n 1, 1) := by decide +kernel
theorem dX5_about_113 : decode cX5_about 113 = .ok (.iaload, 1) := by decide +kernel
theorem dX5_about_114 : decode cX5_about 114 = .ok (.goto 5, 3) := by decide +kernel
theorem dX5_about_117 : decode cX5_about 117 = .ok (.bipush (-9), 2) := by decide +kernel
theorem dX5_about_119 : decode cX5_about 119 = .ok (.ireturn, 1) := by decide +kernel
theorem dX5_about_120 : decode cX5_about 120 = .ok (.iload_n 3, 1) := by decide +kernel
theorem dX5_about_121 : decode cX5_about 121 = .ok (.ifCond .eq 12, 3) := by decide +kernel
theorem dX5_about_124 : decode cX5_about 124 = .ok (.aload_n 0, 1) := by decide +kernel
theorem dX5_about_125 : decode cX5_about 125 = .ok (.getfield 41, 3) := by decide +kernel
theorem dX5_about_128 : decode cX5_about 128 = .ok (.iload_n 1, 1) := by decide +kernel
theorem dX5_about_129 : decode cX5_about 129 = .ok (.iaload, 1) := by decide +kernel
theorem dX5_about_130 : decode cX5_about 130 = .ok (.goto 5, 3) := by decide +kernel
theorem dX5_about_133 : decode cX5_about 133 = .ok (.bipush (-9), 2) := by decide +kernel
theorem dX5_about_135 : decode cX5_about 135 = .ok (.ireturn, 1) := by decide +kernel
theorem dX5_about_136 : decode cX5_about 136 = .ok (.iload_n 3, 1) := by decide +kernel
theorem dX5_about_137 : decode cX5_about 137 = .ok (.ifCond .eq 21, 3) := by decide +kernel
theorem dX5_about_140 : decode cX5_about 140 = .ok (.aload_n 0, 1) := by decide +kernel
theorem dX5_about_141 : decode cX5_about 141 = .ok (.getfield 50, 3) := by decide +kernel
theorem dX5_about_144 : decode cX5_about 144 = .ok (.bipush (-9), 2) := by decide +kernel
theorem dX5_about_146 : decode cX5_about 146 = .ok (.if_icmp .eq 12, 3) := by decide +kernel
theorem dX5_about_149 : decode cX5_about 149 = .ok (.aload_n 0, 1) := by decide +kernel
theorem dX5_about_150 : decode cX5_about 150 = .ok (.getfield 54, 3) := by decide +kernel
theorem dX5_about_153 : decode cX5_about 153 = .ok (.iload_n 1, 1) := by decide +kernel
theorem dX5_about_154 : decode cX5_about 154 = .ok (.iaload, 1) := by decide +kernel
theorem dX5_about_155 : decode cX5_about 155 = .ok (.goto 5, 3) := by decide +kernel
theorem dX5_about_158 : decode cX5_about 158 = .ok (.bipush (-9), 2) := by decide +kernel
theorem dX5_about_160 : decode cX5_about 160 = .ok (.ireturn, 1) := by decide +kernel
theorem dX5_about_161 : decode cX5_about 161 = .ok (.bipush (-2), 2) := by decide +kernel
theorem dX5_about_163 : decode cX5_about 163 = .ok (.ireturn, 1) := by decide +kernel
set_option maxRecDepth 20000 in
theorem ggX5_house_X5_noMaster : GoodIn wsX5_house wsX5_noMaster := goodIn_r _ [10, 11, 12, 13, 9, 14, 15, 16, 17, 18, 19, 20, 21, 22, 23, 24, 25, 26, 27, 28, 29, 30, 31, 32, 33, 34, 35, 36, 37, 38, 39, 40, 41, 42] rfl (by decide +kernel)
set_option maxRecDepth 20000 in
theorem gX5_house_X5_noMaster : GoodIn wsX5_house (wsV RX5 110 RX5 yX5_noMaster wsX5_noMaster) := goodIn_app (goodIn_r _ [6, 7, 8, 9] rfl (by decide +kernel)) ggX5_house_X5_noMaster
theorem dX5_house_0 : decode cX5_house 0 = .ok (.aload_n 0, 1) := by decide +kernel
theorem dX5_house_1 : decode cX5_house 1 = .ok (.iconst 0, 1) := by decide +kernel
theorem dX5_house_2 : decode cX5_house 2 = .ok (.putfield 78, 3) := by decide +kernel
theorem dX5_house_5 : decode cX5_house 5 = .ok (.aload_n 0, 1) := by decide +kernel
theorem dX5_house_6 : decode cX5_house 6 = .ok (.iload_n 1, 1) := by decide +kernel
theorem dX5_house_7 : decode cX5_house 7 = .ok (.invokevirtual 110, 3) := by decide +kernel
theorem dX5_house_10 : decode cX5_house 10 = .ok (.ifCond .eq 5, 3) := by decide +kernel
theorem dX5_house_13 : decode cX5_house 13 = .ok (.iconst (-1), 1) := by decide +kernel
theorem dX5_house_14 : decode cX5_house 14 = .ok (.ireturn, 1) := by decide +kernel
theorem dX5_house_15 : decode cX5_house 15 = .ok (.iconst 0, 1) := by decide +kernel
theorem dX5_house_16 : decode cX5_house 16 = .ok (.istore_n 3, 1) := by decide +kernel
theorem dX5_house_17 : decode cX5_house 17 = .ok (.iconst 0, 1) := by decide +kernel
theorem dX5_house_18 : decode cX5_house 18 = .ok (.istore 4, 2) := by decide +kernel
theorem dX5_house_20 : decode cX5_house 20 = .ok (.iload 4, 2) := by decide +kernel
theorem dX5_house_22 : decode cX5_house 22 = .ok (.bipush 10, 2) := by decide +kernel
theorem dX5_house_24 : decode cX5_house 24 = .ok (.if_icmp .ge 32, 3) := by decide +kernel
theorem dX5_house_27 : decode cX5_house 27 = .ok (.iload_n 3, 1) := by decide +kernel
theorem dX5_house_28 : decode cX5_house 28 = .ok (.aload_n 0, 1) := by decide +kernel
theorem dX5_house_29 : decode cX5_house 29 = .ok (.getfield 32, 3) := by decide +kernel
theorem dX5_house_32 : decode cX5_house 32 = .ok (.bipush 10, 2) := by decide +kernel
theorem dX5_house_34 : decode cX5_house 34 = .ok (.iload_n 1, 1) := by decide +kernel
theorem dX5_house_35 : decode cX5_house 35 = .ok (.imul, 1) := by decide +kernel
theorem dX5_house_36 : decode cX5_house 36 = .ok (.iload 4, 2) := by decide +kernel
theorem dX5_house_38 : decode cX5_house 38 = .ok (.iadd, 1) := by decide +kernel
theorem dX5_house_39 : decode cX5_house 39 = .ok (.baload, 1) := by decide +kernel
theorem dX5_house_40 : decode cX5_house 40 = .ok (.ifCond .eq 7, 3) := by decide +kernel
theorem dX5_house_43 : decode cX5_house 43 = .ok (.iconst 1, 1) := by decide +kernel
theorem dX5_house_44 : decode cX5_house 44 = .ok (.goto 4, 3) := by decide +kernel
theorem dX5_house_47 : decode cX5_house 47 = .ok (.iconst 0, 1) := by decide +kernel
theorem dX5_house_48 : decode cX5_house 48 = .ok (.iadd, 1) := by decide +kernel
theorem dX5_house_49 : decode cX5_house 49 = .ok (.istore_n 3, 1) := by decide +kernel
theorem dX5_house_50 : decode cX5_house 50 = .ok (.iinc 4 1, 3) := by decide +kernel
theorem dX5_house_53 : decode cX5_house 53 = .ok (.goto (-33), 3) := by decide +kernel
theorem dX5_house_56 : decode cX5_house 56 = .ok (.iload_n 2, 1) := by decide +kernel
theorem dX5_house_57 : decode cX5_house 57 = .ok (.ifCond .ne 12, 3) := by decide +kernel
theorem dX5_house_60 : decode cX5_house 60 = .ok (.aload_n 0, 1) := by decide +kernel
theorem dX5_house_61 : decode cX5_house 61 = .ok (.getfield 19, 3) := by decide +kernel
theorem dX5_house_64 : decode cX5_house 64 = .ok (.iload_n 1, 1) := by decide +kernel
theorem dX5_house_65 : decode cX5_house 65 = .ok (.iaload, 1) := by decide +kernel
theorem dX5_house_66 : decode cX5_house 66 = .ok (.goto 42, 3) := by decide +kernel
theorem dX5_house_69 : decode cX5_house 69 = .ok (.iload_n 2, 1) := by decide +kernel
theorem dX5_house_70 : decode cX5_house 70 = .ok (.iconst 1, 1) := by decide +kernel
theorem dX5_house_71 : decode cX5_house 71 = .ok (.if_icmp .ne 12, 3) := by decide +kernel
theorem dX5_house_74 : decode cX5_house 74 = .ok (.aload_n 0, 1) := by decide +kernel
theorem dX5_house_75 : decode cX5_house 75 = .ok (.getfield 22, 3) := by decide +kernel
theorem dX5_house_78 : decode cX5_house 78 = .ok (.iload_n 1, 1) := by decide +kernel
theorem dX5_house_79 : decode cX5_house 79 = .ok (.iaload, 1) := by decide +kernel
theorem dX5_house_80 : decode cX5_house 80 = .ok (.goto 28, 3) := by decide +kernel
theorem dX5_house_83 : decode cX5_house 83 = .ok (.iload_n 2, 1) := by decide +kernel
theorem dX5_house_84 : decode cX5_house 84 = .ok (.iconst 2, 1) := by decide +kernel
theorem dX5_house_85 : decode cX5_house 85 = .ok (.if_icmp .ne 12, 3) := by decide +kernel
theorem dX5_house_88 : decode cX5_house 88 = .ok (.aload_n 0, 1) := by decide +kernel
theorem dX5_house_89 : decode cX5_house 89 = .ok (.getfield 44, 3) := by decide +kernel
theorem dX5_house_92 : decode cX5_house 92 = .ok (.iload_n 1, 1) := by decide +kernel
theorem dX5_house_93 : decode cX5_house 93 = .ok (.iaload, 1) := by decide +kernel
theorem dX5_house_94 : decode cX5_house 94 = .ok (.goto 14, 3) := by decide +kernel
theorem dX5_house_97 : decode cX5_house 97 = .ok (.iload_n 2, 1) := by decide +kernel
theorem dX5_house_98 : decode cX5_house 98 = .ok (.iconst 3, 1) := by decide +kernel
theorem dX5_house_99 : decode cX5_house 99 = .ok (.if_icmp .ne 7, 3) := by decide +kernel
theorem dX5_house_102 : decode cX5_house 102 = .ok (.iload_n 3, 1) := by decide +kernel
theorem dX5_house_103 : decode cX5_house 103 = .ok (.goto 5, 3) := by decide +kernel
theorem dX5_house_106 : decode cX5_house 106 = .ok (.bipush (-2), 2) := by decide +kernel
theorem dX5_house_108 : decode cX5_house 108 = .ok (.ireturn, 1) := by decide +kernel
set_option maxRecDepth 20000 in
theorem ggX5_holds_X5_noMaster : GoodIn wsX5_holds wsX5_noMaster := goodIn_r _ [6, 7, 8, 9, 5, 10, 21, 22, 23, 24, 25, 26, 27, 28, 29, 30, 31, 32, 33, 34, 35, 36, 37, 38, 39, 40, 41, 42, 43, 44, 45, 46, 47, 48] rfl (by decide +kernel)
set_option maxRecDepth 20000 in
theorem gX5_holds_X5_noMaster : GoodIn wsX5_holds (wsV RX5 110 RX5 yX5_noMaster wsX5_noMaster) := goodIn_app (goodIn_r _ [2, 3, 4, 5] rfl (by decide +kernel)) ggX5_holds_X5_noMaster
set_option maxRecDepth 20000 in
theorem ggX5_holds_X5_noServant : GoodIn wsX5_holds wsX5_noServant := goodIn_r _ [14, 15, 8, 9, 5, 10, 21, 22, 23, 24, 25, 26, 27, 28, 29, 30, 31, 32, 33, 34, 35, 36, 37, 38, 39, 40, 41, 42, 43, 44, 45, 46, 47, 48] rfl (by decide +kernel)
set_option maxRecDepth 20000 in
theorem gX5_holds_X5_noServant : GoodIn wsX5_holds (wsV RX5 106 RX5 yX5_noServant wsX5_noServant) := goodIn_app (goodIn_r _ [11, 12, 13, 5] rfl (by decide +kernel)) ggX5_holds_X5_noServant
set_option maxRecDepth 20000 in
theorem ggX5_holds_X5_held : GoodIn wsX5_holds wsX5_held := goodIn_r _ [19, 20, 21, 22, 23, 24, 25, 26, 27, 28, 29, 30, 31, 32, 33, 34, 35, 36, 37, 38, 39, 40, 41, 42, 43, 44, 45, 46, 47, 48] rfl (by decide +kernel)
set_option maxRecDepth 20000 in
theorem gX5_holds_X5_held : GoodIn wsX5_holds (wsV RX5 91 RX5 yX5_held wsX5_held) := goodIn_app (goodIn_r _ [16, 17, 18, 5] rfl (by decide +kernel)) ggX5_holds_X5_held
theorem dX5_holds_0 : decode cX5_holds 0 = .ok (.aload_n 0, 1) := by decide +kernel
theorem dX5_holds_1 : decode cX5_holds 1 = .ok (.iconst 0, 1) := by decide +kernel
theorem dX5_holds_2 : decode cX5_holds 2 = .ok (.putfield 78, 3) := by decide +kernel
theorem dX5_holds_5 : decode cX5_holds 5 = .ok (.aload_n 0, 1) := by decide +kernel
theorem dX5_holds_6 : decode cX5_holds 6 = .ok (.iload_n 1, 1) := by decide +kernel
theorem dX5_holds_7 : decode cX5_holds 7 = .ok (.invokevirtual 110, 3) := by decide +kernel
theorem dX5_holds_10 : decode cX5_holds 10 = .ok (.ifCond .ne 11, 3) := by decide +kernel
theorem dX5_holds_13 : decode cX5_holds 13 = .ok (.aload_n 0, 1) := by decide +kernel
theorem dX5_holds_14 : decode cX5_holds 14 = .ok (.iload_n 2, 1) := by decide +kernel
theorem dX5_holds_15 : decode cX5_holds 15 = .ok (.invokevirtual 106, 3) := by decide +kernel
theorem dX5_holds_18 : decode cX5_holds 18 = .ok (.ifCond .eq 7, 3) := by decide +kernel
theorem dX5_holds_21 : decode cX5_holds 21 = .ok (.iconst (-1), 1) := by decide +kernel
theorem dX5_holds_22 : decode cX5_holds 22 = .ok (.goto 9, 3) := by decide +kernel
theorem dX5_holds_25 : decode cX5_holds 25 = .ok (.aload_n 0, 1) := by decide +kernel
theorem dX5_holds_26 : decode cX5_holds 26 = .ok (.iload_n 1, 1) := by decide +kernel
theorem dX5_holds_27 : decode cX5_holds 27 = .ok (.iload_n 2, 1) := by decide +kernel
theorem dX5_holds_28 : decode cX5_holds 28 = .ok (.invokevirtual 91, 3) := by decide +kernel
theorem dX5_holds_31 : decode cX5_holds 31 = .ok (.ireturn, 1) := by decide +kernel
set_option maxRecDepth 20000 in
theorem ggX5_offer_X5_noMaster : GoodIn wsX5_offer wsX5_noMaster := goodIn_r _ [6, 7, 8, 9, 5, 10, 30, 31, 32, 33, 34, 35, 36, 37, 38, 39, 40, 41, 42, 43, 44, 45, 46, 47, 48, 49, 50, 51, 52, 53, 54, 55, 56, 57] rfl (by decide +kernel)
set_option maxRecDepth 20000 in
theorem gX5_offer_X5_noMaster : GoodIn wsX5_offer (wsV RX5 110 RX5 yX5_noMaster wsX5_noMaster) := goodIn_app (goodIn_r _ [2, 3, 4, 5] rfl (by decide +kernel)) ggX5_offer_X5_noMaster
set_option maxRecDepth 20000 in
theorem ggX5_offer_X5_noServant : GoodIn wsX5_offer wsX5_noServant := goodIn_r _ [14, 15, 8, 9, 5, 10, 30, 31, 32, 33, 34, 35, 36, 37, 38, 39, 40, 41, 42, 43, 44, 45, 46, 47, 48, 49, 50, 51, 52, 53, 54, 55, 56, 57] rfl (by decide +kernel)
set_option maxRecDepth 20000 in
theorem gX5_offer_X5_noServant : GoodIn wsX5_offer (wsV RX5 106 RX5 yX5_noServant wsX5_noServant) := goodIn_app (goodIn_r _ [11, 12, 13, 5] rfl (by decide +kernel)) ggX5_offer_X5_noServant
set_option maxRecDepth 20000 in
theorem ggX5_offer_X5_offerOf : GoodIn wsX5_offer wsX5_offerOf := goodIn_r _ [19, 20, 21, 22, 23, 24, 25, 26, 27, 5, 28, 29, 30, 31, 32, 33, 34, 35, 36, 37, 38, 39, 40, 41, 42, 43, 44, 45, 46, 47, 48, 49, 50, 51, 52, 53, 54, 55, 56, 57] rfl (by decide +kernel)
set_option maxRecDepth 20000 in
theorem gX5_offer_X5_offerOf : GoodIn wsX5_offer (wsV RX5 95 RX5 yX5_offerOf wsX5_offerOf) := goodIn_app (goodIn_r _ [16, 17, 18, 5] rfl (by decide +kernel)) ggX5_offer_X5_offerOf
theorem dX5_offer_0 : decode cX5_offer 0 = .ok (.aload_n 0, 1) := by decide +kernel
theorem dX5_offer_1 : decode cX5_offer 1 = .ok (.iconst 0, 1) := by decide +kernel
theorem dX5_offer_2 : decode cX5_offer 2 = .ok (.putfield 78, 3) := by decide +kernel
theorem dX5_offer_5 : decode cX5_offer 5 = .ok (.aload_n 0, 1) := by decide +kernel
theorem dX5_offer_6 : decode cX5_offer 6 = .ok (.iload_n 1, 1) := by decide +kernel
theorem dX5_offer_7 : decode cX5_offer 7 = .ok (.invokevirtual 110, 3) := by decide +kernel
theorem dX5_offer_10 : decode cX5_offer 10 = .ok (.ifCond .ne 11, 3) := by decide +kernel
theorem dX5_offer_13 : decode cX5_offer 13 = .ok (.aload_n 0, 1) := by decide +kernel
theorem dX5_offer_14 : decode cX5_offer 14 = .ok (.iload_n 2, 1) := by decide +kernel
theorem dX5_offer_15 : decode cX5_offer 15 = .ok (.invokevirtual 106, 3) := by decide +kernel
theorem dX5_offer_18 : decode cX5_offer 18 = .ok (.ifCond .eq 7, 3) := by decide +kernel
theorem dX5_offer_21 : decode cX5_offer 21 = .ok (.iconst (-1), 1) := by decide +kernel
theorem dX5_offer_22 : decode cX5_offer 22 = .ok (.goto 9, 3) := by decide +kernel
theorem dX5_offer_25 : decode cX5_offer 25 = .ok (.aload_n 0, 1) := by decide +kernel
theorem dX5_offer_26 : decode cX5_offer 26 = .ok (.iload_n 1, 1) := by decide +kernel
theorem dX5_offer_27 : decode cX5_offer 27 = .ok (.iload_n 2, 1) := by decide +kernel
theorem dX5_offer_28 : decode cX5_offer 28 = .ok (.invokevirtual 95, 3) := by decide +kernel
theorem dX5_offer_31 : decode cX5_offer 31 = .ok (.ireturn, 1) := by decide +kernel
set_option maxRecDepth 20000 in
theorem ggX5_next_X5_noMaster : GoodIn wsX5_next wsX5_noMaster := goodIn_r _ [7, 8, 9, 10, 6, 11, 31, 32, 33, 34, 35, 36, 37, 38, 39, 40, 41, 42, 43, 44, 45, 46, 47, 48, 49, 50, 51, 52, 53, 54, 55, 56, 57, 58] rfl (by decide +kernel)
set_option maxRecDepth 20000 in
theorem gX5_next_X5_noMaster : GoodIn wsX5_next (wsV RX5 110 RX5 yX5_noMaster wsX5_noMaster) := goodIn_app (goodIn_r _ [3, 4, 5, 6] rfl (by decide +kernel)) ggX5_next_X5_noMaster
set_option maxRecDepth 20000 in
theorem ggX5_next_X5_nextOf : GoodIn wsX5_next wsX5_nextOf := goodIn_r _ [15, 16, 17, 18, 19, 6, 20, 21, 22, 23, 24, 25, 26, 27, 28, 29, 30, 31, 32, 33, 34, 35, 36, 37, 38, 39, 40, 41, 42, 43, 44, 45, 46, 47, 48, 49, 50, 51, 52, 53, 54, 55, 56, 57, 58] rfl (by decide +kernel)
set_option maxRecDepth 20000 in
theorem gX5_next_X5_nextOf : GoodIn wsX5_next (wsV RX5 113 RX5 yX5_nextOf wsX5_nextOf) := goodIn_app (goodIn_r _ [12, 13, 14, 6] rfl (by decide +kernel)) ggX5_next_X5_nextOf
theorem dX5_next_0 : decode cX5_next 0 = .ok (.aload_n 0, 1) := by decide +kernel
theorem dX5_next_1 : decode cX5_next 1 = .ok (.iconst 0, 1) := by decide +kernel
theorem dX5_next_2 : decode cX5_next 2 = .ok (.putfield 78, 3) := by decide +kernel
theorem dX5_next_5 : decode cX5_next 5 = .ok (.aload_n 0, 1) := by decide +kernel
theorem dX5_next_6 : decode cX5_next 6 = .ok (.iload_n 1, 1) := by decide +kernel
theorem dX5_next_7 : decode cX5_next 7 = .ok (.invokevirtual 110, 3) := by decide +kernel
theorem dX5_next_10 : decode cX5_next 10 = .ok (.ifCond .eq 7, 3) := by decide +kernel
theorem dX5_next_13 : decode cX5_next 13 = .ok (.iconst (-1), 1) := by decide +kernel
theorem dX5_next_14 : decode cX5_next 14 = .ok (.goto 12, 3) := by decide +kernel
theorem dX5_next_17 : decode cX5_next 17 = .ok (.aload_n 0, 1) := by decide +kernel
theorem dX5_next_18 : decode cX5_next 18 = .ok (.iload_n 1, 1) := by decide +kernel
theorem dX5_next_19 : decode cX5_next 19 = .ok (.aload_n 0, 1) := by decide +kernel
theorem dX5_next_20 : decode cX5_next 20 = .ok (.getfield 32, 3) := by decide +kernel
theorem dX5_next_23 : decode cX5_next 23 = .ok (.invokevirtual 113, 3) := by decide +kernel
theorem dX5_next_26 : decode cX5_next 26 = .ok (.ireturn, 1) := by decide +kernel
set_option maxRecDepth 20000 in
theorem ggX5_ask_X5_nextOf : GoodIn wsX5_ask wsX5_nextOf := goodIn_r _ [13, 14, 15, 16, 17, 12, 18, 19, 20, 21, 22, 23, 24, 25, 26, 27, 28, 29, 30, 31, 32, 33, 34, 35, 36, 37, 38, 39, 40, 41, 42, 43, 44, 45, 46, 47, 48, 49, 50, 51, 52, 53, 54, 55, 56] rfl (by decide +kernel)
set_option maxRecDepth 20000 in
theorem gX5_ask_X5_nextOf : GoodIn wsX5_ask (wsV RX5 113 RX5 yX5_nextOf wsX5_nextOf) := goodIn_app (goodIn_r _ [9, 10, 11, 12] rfl (by decide +kernel)) ggX5_ask_X5_nextOf
set_option maxRecDepth 20000 in
theorem ggX5_ask_X5_offerOf : GoodIn wsX5_ask wsX5_offerOf := goodIn_r _ [18, 19, 20, 21, 22, 23, 24, 25, 26, 12, 27, 28, 29, 30, 31, 32, 33, 34, 35, 36, 37, 38, 39, 40, 41, 42, 43, 44, 45, 46, 47, 48, 49, 50, 51, 52, 53, 54, 55, 56] rfl (by decide +kernel)
set_option maxRecDepth 20000 in
theorem gX5_ask_X5_offerOf : GoodIn wsX5_ask (wsV RX5 95 RX5 yX5_offerOf wsX5_offerOf) := goodIn_app (goodIn_r _ [15, 16, 17, 12] rfl (by decide +kernel)) ggX5_ask_X5_offerOf
theorem dX5_ask_0 : decode cX5_ask 0 = .ok (.aload_n 0, 1) := by decide +kernel
theorem dX5_ask_1 : decode cX5_ask 1 = .ok (.iload_n 1, 1) := by decide +kernel
theorem dX5_ask_2 : decode cX5_ask 2 = .ok (.aload_n 0, 1) := by decide +kernel
theorem dX5_ask_3 : decode cX5_ask 3 = .ok (.getfield 32, 3) := by decide +kernel
theorem dX5_ask_6 : decode cX5_ask 6 = .ok (.invokevirtual 113, 3) := by decide +kernel
theorem dX5_ask_9 : decode cX5_ask 9 = .ok (.istore_n 2, 1) := by decide +kernel
theorem dX5_ask_10 : decode cX5_ask 10 = .ok (.aload_n 0, 1) := by decide +kernel
theorem dX5_ask_11 : decode cX5_ask 11 = .ok (.getfield 44, 3) := by decide +kernel
theorem dX5_ask_14 : decode cX5_ask 14 = .ok (.iload_n 1, 1) := by decide +kernel
theorem dX5_ask_15 : decode cX5_ask 15 = .ok (.iaload, 1) := by decide +kernel
theorem dX5_ask_16 : decode cX5_ask 16 = .ok (.bipush (-9), 2) := by decide +kernel
theorem dX5_ask_18 : decode cX5_ask 18 = .ok (.if_icmp .ne 9, 3) := by decide +kernel
theorem dX5_ask_21 : decode cX5_ask 21 = .ok (.iload_n 2, 1) := by decide +kernel
theorem dX5_ask_22 : decode cX5_ask 22 = .ok (.bipush (-9), 2) := by decide +kernel
theorem dX5_ask_24 : decode cX5_ask 24 = .ok (.if_icmp .ne 4, 3) := by decide +kernel
theorem dX5_ask_27 : decode cX5_ask 27 = .ok (.return_, 1) := by decide +kernel
theorem dX5_ask_28 : decode cX5_ask 28 = .ok (.aload_n 0, 1) := by decide +kernel
theorem dX5_ask_29 : decode cX5_ask 29 = .ok (.iload_n 1, 1) := by decide +kernel
theorem dX5_ask_30 : decode cX5_ask 30 = .ok (.iload_n 2, 1) := by decide +kernel
theorem dX5_ask_31 : decode cX5_ask 31 = .ok (.invokevirtual 95, 3) := by decide +kernel
theorem dX5_ask_34 : decode cX5_ask 34 = .ok (.istore_n 3, 1) := by decide +kernel
theorem dX5_ask_35 : decode cX5_ask 35 = .ok (.aload_n 0, 1) := by decide +kernel
theorem dX5_ask_36 : decode cX5_ask 36 = .ok (.getfield 32, 3) := by decide +kernel
theorem dX5_ask_39 : decode cX5_ask 39 = .ok (.bipush 10, 2) := by decide +kernel
theorem dX5_ask_41 : decode cX5_ask 41 = .ok (.iload_n 1, 1) := by decide +kernel
theorem dX5_ask_42 : decode cX5_ask 42 = .ok (.imul, 1) := by decide +kernel
theorem dX5_ask_43 : decode cX5_ask 43 = .ok (.iload_n 2, 1) := by decide +kernel
theorem dX5_ask_44 : decode cX5_ask 44 = .ok (.iadd, 1) := by decide +kernel
theorem dX5_ask_45 : decode cX5_ask 45 = .ok (.iconst 1, 1) := by decide +kernel
theorem dX5_ask_46 : decode cX5_ask 46 = .ok (.bastore, 1) := by decide +kernel
theorem dX5_ask_47 : decode cX5_ask 47 = .ok (.aload_n 0, 1) := by decide +kernel
theorem dX5_ask_48 : decode cX5_ask 48 = .ok (.getfield 35, 3) := by decide +kernel
theorem dX5_ask_51 : decode cX5_ask 51 = .ok (.iload_n 2, 1) := by decide +kernel
theorem dX5_ask_52 : decode cX5_ask 52 = .ok (.iaload, 1) := by decide +kernel
theorem dX5_ask_53 : decode cX5_ask 53 = .ok (.istore 4, 2) := by decide +kernel
theorem dX5_ask_55 : decode cX5_ask 55 = .ok (.iload 4, 2) := by decide +kernel
theorem dX5_ask_57 : decode cX5_ask 57 = .ok (.bipush (-9), 2) := by decide +kernel
theorem dX5_ask_59 : decode cX5_ask 59 = .ok (.if_icmp .eq 22, 3) := by decide +kernel
theorem dX5_ask_62 : decode cX5_ask 62 = .ok (.aload_n 0, 1) := by decide +kernel
theorem dX5_ask_63 : decode cX5_ask 63 = .ok (.getfield 117, 3) := by decide +kernel
theorem dX5_ask_66 : decode cX5_ask 66 = .ok (.bipush 120, 2) := by decide +kernel
theorem dX5_ask_68 : decode cX5_ask 68 = .ok (.if_icmp .ge 17, 3) := by decide +kernel
theorem dX5_ask_71 : decode cX5_ask 71 = .ok (.iload_n 3, 1) := by decide +kernel
theorem dX5_ask_72 : decode cX5_ask 72 = .ok (.aload_n 0, 1) := by decide +kernel
theorem dX5_ask_73 : decode cX5_ask 73 = .ok (.getfield 38, 3) := by decide +kernel
theorem dX5_ask_76 : decode cX5_ask 76 = .ok (.iload_n 2, 1) := by decide +kernel
theorem dX5_ask_77 : decode cX5_ask 77 = .ok (.iaload, 1) := by decide +kernel
theorem dX5_ask_78 : decode cX5_ask 78 = .ok (.if_icmp .le 7, 3) := by decide +kernel
theorem dX5_ask_81 : decode cX5_ask 81 = .ok (.iconst 1, 1) := by decide +kernel
theorem dX5_ask_82 : decode cX5_ask 82 = .ok (.goto 4, 3) := by decide +kernel
theorem dX5_ask_85 : decode cX5_ask 85 = .ok (.iconst 0, 1) := by decide +kernel
theorem dX5_ask_86 : decode cX5_ask 86 = .ok (.istore 5, 2) := by decide +kernel
theorem dX5_ask_88 : decode cX5_ask 88 = .ok (.aload_n 0, 1) := by decide +kernel
theorem dX5_ask_89 : decode cX5_ask 89 = .ok (.getfield 47, 3) := by decide +kernel
theorem dX5_ask_92 : decode cX5_ask 92 = .ok (.bipush 6, 2) := by decide +kernel
theorem dX5_ask_94 : decode cX5_ask 94 = .ok (.aload_n 0, 1) := by decide +kernel
theorem dX5_ask_95 : decode cX5_ask 95 = .ok (.getfield 120, 3) := by decide +kernel
theorem dX5_ask_98 : decode cX5_ask 98 = .ok (.imul, 1) := by decide +kernel
theorem dX5_ask_99 : decode cX5_ask 99 = .ok (.aload_n 0, 1) := by decide +kernel
theorem dX5_ask_100 : decode cX5_ask 100 = .ok (.getfield 117, 3) := by decide +kernel
theorem dX5_ask_103 : decode cX5_ask 103 = .ok (.iastore, 1) := by decide +kernel
theorem dX5_ask_104 : decode cX5_ask 104 = .ok (.aload_n 0, 1) := by decide +kernel
theorem dX5_ask_105 : decode cX5_ask 105 = .ok (.getfield 47, 3) := by decide +kernel
theorem dX5_ask_108 : decode cX5_ask 108 = .ok (.bipush 6, 2) := by decide +kernel
theorem dX5_ask_110 : decode cX5_ask 110 = .ok (.aload_n 0, 1) := by decide +kernel
theorem dX5_ask_111 : decode cX5_ask 111 = .ok (.getfield 120, 3) := by decide +kernel
theorem dX5_ask_114 : decode cX5_ask 114 = .ok (.imul, 1) := by decide +kernel
theorem dX5_ask_115 : decode cX5_ask 115 = .ok (.iconst 1, 1) := by decide +kernel
theorem dX5_ask_116 : decode cX5_ask 116 = .ok (.iadd, 1) := by decide +kernel
theorem dX5_ask_117 : decode cX5_ask 117 = .ok (.iload_n 1, 1) := by decide +kernel
theorem dX5_ask_118 : decode cX5_ask 118 = .ok (.iastore, 1) := by decide +kernel
theorem dX5_ask_119 : decode cX5_ask 119 = .ok (.aload_n 0, 1) := by decide +kernel
theorem dX5_ask_120 : decode cX5_ask 120 = .ok (.getfield 47, 3) := by decide +kernel
theorem dX5_ask_123 : decode cX5_ask 123 = .ok (.bipush 6, 2) := by decide +kernel
theorem dX5_ask_125 : decode cX5_ask 125 = .ok (.aload_n 0, 1) := by decide +kernel
theorem dX5_ask_126 : decode cX5_ask 126 = .ok (.getfield 120, 3) := by decide +kernel
theorem dX5_ask_129 : decode cX5_ask 129 = .ok (.imul, 1) := by decide +kernel
theorem dX5_ask_130 : decode cX5_ask 130 = .ok (.iconst 2, 1) := by decide +kernel
theorem dX5_ask_131 : decode cX5_ask 131 = .ok (.iadd, 1) := by decide +kernel
theorem dX5_ask_132 : decode cX5_ask 132 = .ok (.iload_n 2, 1) := by decide +kernel
theorem dX5_ask_133 : decode cX5_ask 133 = .ok (.iastore, 1) := by decide +kernel
theorem dX5_ask_134 : decode cX5_ask 134 = .ok (.aload_n 0, 1) := by decide +kernel
theorem dX5_ask_135 : decode cX5_ask 135 = .ok (.getfield 47, 3) := by decide +kernel
theorem dX5_ask_138 : decode cX5_ask 138 = .ok (.bipush 6, 2) := by decide +kernel
theorem dX5_ask_140 : decode cX5_ask 140 = .ok (.aload_n 0, 1) := by decide +kernel
theorem dX5_ask_141 : decode cX5_ask 141 = .ok (.getfield 120, 3) := by decide +kernel
theorem dX5_ask_144 : decode cX5_ask 144 = .ok (.imul, 1) := by decide +kernel
theorem dX5_ask_145 : decode cX5_ask 145 = .ok (.iconst 3, 1) := by decide +kernel
theorem dX5_ask_146 : decode cX5_ask 146 = .ok (.iadd, 1) := by decide +kernel
theorem dX5_ask_147 : decode cX5_ask 147 = .ok (.iload_n 3, 1) := by decide +kernel
theorem dX5_ask_148 : decode cX5_ask 148 = .ok (.iastore, 1) := by decide +kernel
theorem dX5_ask_149 : decode cX5_ask 149 = .ok (.aload_n 0, 1) := by decide +kernel
theorem dX5_ask_150 : decode cX5_ask 150 = .ok (.getfield 47, 3) := by decide +kernel
theorem dX5_ask_153 : decode cX5_ask 153 = .ok (.bipush 6, 2) := by decide +kernel
theorem dX5_ask_155 : decode cX5_ask 155 = .ok (.aload_n 0, 1) := by decide +kernel
theorem dX5_ask_156 : decode cX5_ask 156 = .ok (.getfield 120, 3) := by decide +kernel
theorem dX5_ask_159 : decode cX5_ask 159 = .ok (.imul, 1) := by decide +kernel
theorem dX5_ask_160 : decode cX5_ask 160 = .ok (.iconst 4, 1) := by decide +kernel
theorem dX5_ask_161 : decode cX5_ask 161 = .ok (.iadd, 1) := by decide +kernel
theorem dX5_ask_162 : decode cX5_ask 162 = .ok (.iload 5, 2) := by decide +kernel
theorem dX5_ask_164 : decode cX5_ask 164 = .ok (.ifCond .ne 7, 3) := by decide +kernel
theorem dX5_ask_167 : decode cX5_ask 167 = .ok (.iconst 0, 1) := by decide +kernel
theorem dX5_ask_168 : decode cX5_ask 168 = .ok (.goto 15, 3) := by decide +kernel
theorem dX5_ask_171 : decode cX5_ask 171 = .ok (.iload 4, 2) := by decide +kernel
theorem dX5_ask_173 : decode cX5_ask 173 = .ok (.bipush (-9), 2) := by decide +kernel
theorem dX5_ask_175 : decode cX5_ask 175 = .ok (.if_icmp .ne 7, 3) := by decide +kernel
theorem dX5_ask_178 : decode cX5_ask 178 = .ok (.iconst 1, 1) := by decide +kernel
theorem dX5_ask_179 : decode cX5_ask 179 = .ok (.goto 4, 3) := by decide +kernel
theorem dX5_ask_182 : decode cX5_ask 182 = .ok (.iconst 2, 1) := by decide +kernel
theorem dX5_ask_183 : decode cX5_ask 183 = .ok (.iastore, 1) := by decide +kernel
theorem dX5_ask_184 : decode cX5_ask 184 = .ok (.aload_n 0, 1) := by decide +kernel
theorem dX5_ask_185 : decode cX5_ask 185 = .ok (.getfield 47, 3) := by decide +kernel
theorem dX5_ask_188 : decode cX5_ask 188 = .ok (.bipush 6, 2) := by decide +kernel
theorem dX5_ask_190 : decode cX5_ask 190 = .ok (.aload_n 0, 1) := by decide +kernel
theorem dX5_ask_191 : decode cX5_ask 191 = .ok (.getfield 120, 3) := by decide +kernel
theorem dX5_ask_194 : decode cX5_ask 194 = .ok (.imul, 1) := by decide +kernel
theorem dX5_ask_195 : decode cX5_ask 195 = .ok (.iconst 5, 1) := by decide +kernel
theorem dX5_ask_196 : decode cX5_ask 196 = .ok (.iadd, 1) := by decide +kernel
theorem dX5_ask_197 : decode cX5_ask 197 = .ok (.iload 5, 2) := by decide +kernel
theorem dX5_ask_199 : decode cX5_ask 199 = .ok (.ifCond .eq 8, 3) := by decide +kernel
theorem dX5_ask_202 : decode cX5_ask 202 = .ok (.iload 4, 2) := by decide +kernel
theorem dX5_ask_204 : decode cX5_ask 204 = .ok (.goto 5, 3) := by decide +kernel
theorem dX5_ask_207 : decode cX5_ask 207 = .ok (.bipush (-9), 2) := by decide +kernel
theorem dX5_ask_209 : decode cX5_ask 209 = .ok (.iastore, 1) := by decide +kernel
theorem dX5_ask_210 : decode cX5_ask 210 = .ok (.aload_n 0, 1) := by decide +kernel
theorem dX5_ask_211 : decode cX5_ask 211 = .ok (.dup, 1) := by decide +kernel
theorem dX5_ask_212 : decode cX5_ask 212 = .ok (.getfield 120, 3) := by decide +kernel
theorem dX5_ask_215 : decode cX5_ask 215 = .ok (.iconst 1, 1) := by decide +kernel
theorem dX5_ask_216 : decode cX5_ask 216 = .ok (.iadd, 1) := by decide +kernel
theorem dX5_ask_217 : decode cX5_ask 217 = .ok (.putfield 120, 3) := by decide +kernel
theorem dX5_ask_220 : decode cX5_ask 220 = .ok (.iload 5, 2) := by decide +kernel
theorem dX5_ask_222 : decode cX5_ask 222 = .ok (.ifCond .eq 50, 3) := by decide +kernel
theorem dX5_ask_225 : decode cX5_ask 225 = .ok (.iload 4, 2) := by decide +kernel
theorem dX5_ask_227 : decode cX5_ask 227 = .ok (.bipush (-9), 2) := by decide +kernel
theorem dX5_ask_229 : decode cX5_ask 229 = .ok (.if_icmp .eq 12, 3) := by decide +kernel
theorem dX5_ask_232 : decode cX5_ask 232 = .ok (.aload_n 0, 1) := by decide +kernel
theorem dX5_ask_233 : decode cX5_ask 233 = .ok (.getfield 44, 3) := by decide +kernel
theorem dX5_ask_236 : decode cX5_ask 236 = .ok (.iload 4, 2) := by decide +kernel
theorem dX5_ask_238 : decode cX5_ask 238 = .ok (.bipush (-9), 2) := by decide +kernel
theorem dX5_ask_240 : decode cX5_ask 240 = .ok (.iastore, 1) := by decide +kernel
theorem dX5_ask_241 : decode cX5_ask 241 = .ok (.aload_n 0, 1) := by decide +kernel
theorem dX5_ask_242 : decode cX5_ask 242 = .ok (.getfield 35, 3) := by decide +kernel
theorem dX5_ask_245 : decode cX5_ask 245 = .ok (.iload_n 2, 1) := by decide +kernel
theorem dX5_ask_246 : decode cX5_ask 246 = .ok (.iload_n 1, 1) := by decide +kernel
theorem dX5_ask_247 : decode cX5_ask 247 = .ok (.iastore, 1) := by decide +kernel
theorem dX5_ask_248 : decode cX5_ask 248 = .ok (.aload_n 0, 1) := by decide +kernel
theorem dX5_ask_249 : decode cX5_ask 249 = .ok (.getfield 38, 3) := by decide +kernel
theorem dX5_ask_252 : decode cX5_ask 252 = .ok (.iload_n 2, 1) := by decide +kernel
theorem dX5_ask_253 : decode cX5_ask 253 = .ok (.iload_n 3, 1) := by decide +kernel
theorem dX5_ask_254 : decode cX5_ask 254 = .ok (.iastore, 1) := by decide +kernel
theorem dX5_ask_255 : decode cX5_ask 255 = .ok (.aload_n 0, 1) := by decide +kernel
theorem dX5_ask_256 : decode cX5_ask 256 = .ok (.getfield 41, 3) := by decide +kernel
theorem dX5_ask_259 : decode cX5_ask 259 = .ok (.iload_n 2, 1) := by decide +kernel
theorem dX5_ask_260 : decode cX5_ask 260 = .ok (.aload_n 0, 1) := by decide +kernel
theorem dX5_ask_261 : decode cX5_ask 261 = .ok (.getfield 117, 3) := by decide +kernel
theorem dX5_ask_264 : decode cX5_ask 264 = .ok (.iastore, 1) := by decide +kernel
theorem dX5_ask_265 : decode cX5_ask 265 = .ok (.aload_n 0, 1) := by decide +kernel
theorem dX5_ask_266 : decode cX5_ask 266 = .ok (.getfield 44, 3) := by decide +kernel
theorem dX5_ask_269 : decode cX5_ask 269 = .ok (.iload_n 1, 1) := by decide +kernel
theorem dX5_ask_270 : decode cX5_ask 270 = .ok (.iload_n 2, 1) := by decide +kernel
theorem dX5_ask_271 : decode cX5_ask 271 = .ok (.iastore, 1) := by decide +kernel
theorem dX5_ask_272 : decode cX5_ask 272 = .ok (.return_, 1) := by decide +kernel
end
section
set_option maxRecDepth 20000 in
theorem ggX5_go_X5_in : GoodIn wsX5_go wsX5_in := goodIn_r _ [10] rfl (by decide +kernel)
set_option maxRecDepth 20000 in
theorem gX5_go_X5_in : GoodIn wsX5_go (va_wsS RX5 84 yX5_in wsX5_in) := goodIn_app (goodIn_r _ [7, 8, 9] rfl (by decide +kernel)) ggX5_go_X5_in
set_option maxRecDepth 20000 in
theorem ggX5_go_X5_ask : GoodIn wsX5_go wsX5_ask := goodIn_r _ [14, 15, 16, 17, 4, 18, 19, 20, 21, 22, 23, 24, 9, 25, 26, 27, 28, 29, 30, 31, 32, 33, 34, 35, 36, 37, 38, 39, 40, 41, 42, 43, 44, 45, 46, 47, 48, 49, 50, 51, 52, 53, 54, 55, 56, 57, 58, 59, 60, 61, 62, 63, 64, 65, 66, 67, 68] rfl (by decide +kernel)
set_option maxRecDepth 20000 in
theorem gX5_go_X5_ask : GoodIn wsX5_go (wsV RX5 125 RX5 yX5_ask wsX5_ask) := goodIn_app (goodIn_r _ [11, 12, 13, 9] rfl (by decide +kernel)) ggX5_go_X5_ask
theorem dX5_go_0 : decode cX5_go 0 = .ok (.aload_n 0, 1) := by decide +kernel
theorem dX5_go_1 : decode cX5_go 1 = .ok (.iconst 0, 1) := by decide +kernel
theorem dX5_go_2 : decode cX5_go 2 = .ok (.putfield 78, 3) := by decide +kernel
theorem dX5_go_5 : decode cX5_go 5 = .ok (.iload_n 1, 1) := by decide +kernel
theorem dX5_go_6 : decode cX5_go 6 = .ok (.i2l, 1) := by decide +kernel
theorem dX5_go_7 : decode cX5_go 7 = .ok (.lconst 1, 1) := by decide +kernel
theorem dX5_go_8 : decode cX5_go 8 = .ok (.ldc2_w 123, 3) := by decide +kernel
theorem dX5_go_11 : decode cX5_go 11 = .ok (.invokestatic 84, 3) := by decide +kernel
theorem dX5_go_14 : decode cX5_go 14 = .ok (.ifCond .ne 6, 3) := by decide +kernel
theorem dX5_go_17 : decode cX5_go 17 = .ok (.bipush (-2), 2) := by decide +kernel
theorem dX5_go_19 : decode cX5_go 19 = .ok (.ireturn, 1) := by decide +kernel
theorem dX5_go_20 : decode cX5_go 20 = .ok (.aload_n 0, 1) := by decide +kernel
theorem dX5_go_21 : decode cX5_go 21 = .ok (.getfield 50, 3) := by decide +kernel
theorem dX5_go_24 : decode cX5_go 24 = .ok (.bipush (-9), 2) := by decide +kernel
theorem dX5_go_26 : decode cX5_go 26 = .ok (.if_icmp .eq 6, 3) := by decide +kernel
theorem dX5_go_29 : decode cX5_go 29 = .ok (.bipush (-3), 2) := by decide +kernel
theorem dX5_go_31 : decode cX5_go 31 = .ok (.ireturn, 1) := by decide +kernel
theorem dX5_go_32 : decode cX5_go 32 = .ok (.iconst 0, 1) := by decide +kernel
theorem dX5_go_33 : decode cX5_go 33 = .ok (.istore_n 2, 1) := by decide +kernel
theorem dX5_go_34 : decode cX5_go 34 = .ok (.iload_n 2, 1) := by decide +kernel
theorem dX5_go_35 : decode cX5_go 35 = .ok (.iload_n 1, 1) := by decide +kernel
theorem dX5_go_36 : decode cX5_go 36 = .ok (.if_icmp .ge 50, 3) := by decide +kernel
theorem dX5_go_39 : decode cX5_go 39 = .ok (.aload_n 0, 1) := by decide +kernel
theorem dX5_go_40 : decode cX5_go 40 = .ok (.getfield 117, 3) := by decide +kernel
theorem dX5_go_43 : decode cX5_go 43 = .ok (.sipush 240, 3) := by decide +kernel
theorem dX5_go_46 : decode cX5_go 46 = .ok (.if_icmp .ge 40, 3) := by decide +kernel
theorem dX5_go_49 : decode cX5_go 49 = .ok (.iconst 0, 1) := by decide +kernel
theorem dX5_go_50 : decode cX5_go 50 = .ok (.istore_n 3, 1) := by decide +kernel
theorem dX5_go_51 : decode cX5_go 51 = .ok (.iload_n 3, 1) := by decide +kernel
theorem dX5_go_52 : decode cX5_go 52 = .ok (.aload_n 0, 1) := by decide +kernel
theorem dX5_go_53 : decode cX5_go 53 = .ok (.getfield 88, 3) := by decide +kernel
theorem dX5_go_56 : decode cX5_go 56 = .ok (.if_icmp .ge 14, 3) := by decide +kernel
theorem dX5_go_59 : decode cX5_go 59 = .ok (.aload_n 0, 1) := by decide +kernel
theorem dX5_go_60 : decode cX5_go 60 = .ok (.iload_n 3, 1) := by decide +kernel
theorem dX5_go_61 : decode cX5_go 61 = .ok (.invokevirtual 125, 3) := by decide +kernel
theorem dX5_go_64 : decode cX5_go 64 = .ok (.iinc 3 1, 3) := by decide +kernel
theorem dX5_go_67 : decode cX5_go 67 = .ok (.goto (-16), 3) := by decide +kernel
theorem dX5_go_70 : decode cX5_go 70 = .ok (.aload_n 0, 1) := by decide +kernel
theorem dX5_go_71 : decode cX5_go 71 = .ok (.dup, 1) := by decide +kernel
theorem dX5_go_72 : decode cX5_go 72 = .ok (.getfield 117, 3) := by decide +kernel
theorem dX5_go_75 : decode cX5_go 75 = .ok (.iconst 1, 1) := by decide +kernel
theorem dX5_go_76 : decode cX5_go 76 = .ok (.iadd, 1) := by decide +kernel
theorem dX5_go_77 : decode cX5_go 77 = .ok (.putfield 117, 3) := by decide +kernel
theorem dX5_go_80 : decode cX5_go 80 = .ok (.iinc 2 1, 3) := by decide +kernel
theorem dX5_go_83 : decode cX5_go 83 = .ok (.goto (-49), 3) := by decide +kernel
theorem dX5_go_86 : decode cX5_go 86 = .ok (.aload_n 0, 1) := by decide +kernel
theorem dX5_go_87 : decode cX5_go 87 = .ok (.getfield 117, 3) := by decide +kernel
theorem dX5_go_90 : decode cX5_go 90 = .ok (.sipush 240, 3) := by decide +kernel
theorem dX5_go_93 : decode cX5_go 93 = .ok (.if_icmp .ne 31, 3) := by decide +kernel
theorem dX5_go_96 : decode cX5_go 96 = .ok (.aload_n 0, 1) := by decide +kernel
theorem dX5_go_97 : decode cX5_go 97 = .ok (.iconst 0, 1) := by decide +kernel
theorem dX5_go_98 : decode cX5_go 98 = .ok (.putfield 50, 3) := by decide +kernel
theorem dX5_go_101 : decode cX5_go 101 = .ok (.iconst 0, 1) := by decide +kernel
theorem dX5_go_102 : decode cX5_go 102 = .ok (.istore_n 2, 1) := by decide +kernel
theorem dX5_go_103 : decode cX5_go 103 = .ok (.iload_n 2, 1) := by decide +kernel
theorem dX5_go_104 : decode cX5_go 104 = .ok (.bipush 10, 2) := by decide +kernel
theorem dX5_go_106 : decode cX5_go 106 = .ok (.if_icmp .ge 18, 3) := by decide +kernel
theorem dX5_go_109 : decode cX5_go 109 = .ok (.aload_n 0, 1) := by decide +kernel
theorem dX5_go_110 : decode cX5_go 110 = .ok (.getfield 54, 3) := by decide +kernel
theorem dX5_go_113 : decode cX5_go 113 = .ok (.iload_n 2, 1) := by decide +kernel
theorem dX5_go_114 : decode cX5_go 114 = .ok (.sipush 363, 3) := by decide +kernel
theorem dX5_go_117 : decode cX5_go 117 = .ok (.iastore, 1) := by decide +kernel
theorem dX5_go_118 : decode cX5_go 118 = .ok (.iinc 2 1, 3) := by decide +kernel
theorem dX5_go_121 : decode cX5_go 121 = .ok (.goto (-18), 3) := by decide +kernel
theorem dX5_go_124 : decode cX5_go 124 = .ok (.aload_n 0, 1) := by decide +kernel
theorem dX5_go_125 : decode cX5_go 125 = .ok (.getfield 117, 3) := by decide +kernel
theorem dX5_go_128 : decode cX5_go 128 = .ok (.ireturn, 1) := by decide +kernel
theorem dX5_bargains_0 : decode cX5_bargains 0 = .ok (.aload_n 0, 1) := by decide +kernel
theorem dX5_bargains_1 : decode cX5_bargains 1 = .ok (.iconst 0, 1) := by decide +kernel
theorem dX5_bargains_2 : decode cX5_bargains 2 = .ok (.putfield 78, 3) := by decide +kernel
theorem dX5_bargains_5 : decode cX5_bargains 5 = .ok (.aload_n 0, 1) := by decide +kernel
theorem dX5_bargains_6 : decode cX5_bargains 6 = .ok (.getfield 120, 3) := by decide +kernel
theorem dX5_bargains_9 : decode cX5_bargains 9 = .ok (.ireturn, 1) := by decide +kernel
set_option maxRecDepth 20000 in
theorem ggX5_bargain_X5_in : GoodIn wsX5_bargain wsX5_in := goodIn_r _ [8] rfl (by decide +kernel)
set_option maxRecDepth 20000 in
theorem gX5_bargain_X5_in : GoodIn wsX5_bargain (va_wsS RX5 84 yX5_in wsX5_in) := goodIn_app (goodIn_r _ [5, 6, 7] rfl (by decide +kernel)) ggX5_bargain_X5_in
theorem dX5_bargain_0 : decode cX5_bargain 0 = .ok (.aload_n 0, 1) := by decide +kernel
theorem dX5_bargain_1 : decode cX5_bargain 1 = .ok (.iconst 0, 1) := by decide +kernel
theorem dX5_bargain_2 : decode cX5_bargain 2 = .ok (.putfield 78, 3) := by decide +kernel
theorem dX5_bargain_5 : decode cX5_bargain 5 = .ok (.iload_n 1, 1) := by decide +kernel
theorem dX5_bargain_6 : decode cX5_bargain 6 = .ok (.i2l, 1) := by decide +kernel
theorem dX5_bargain_7 : decode cX5_bargain 7 = .ok (.lconst 0, 1) := by decide +kernel
theorem dX5_bargain_8 : decode cX5_bargain 8 = .ok (.aload_n 0, 1) := by decide +kernel
theorem dX5_bargain_9 : decode cX5_bargain 9 = .ok (.getfield 120, 3) := by decide +kernel
theorem dX5_bargain_12 : decode cX5_bargain 12 = .ok (.iconst 1, 1) := by decide +kernel
theorem dX5_bargain_13 : decode cX5_bargain 13 = .ok (.isub, 1) := by decide +kernel
theorem dX5_bargain_14 : decode cX5_bargain 14 = .ok (.i2l, 1) := by decide +kernel
theorem dX5_bargain_15 : decode cX5_bargain 15 = .ok (.invokestatic 84, 3) := by decide +kernel
theorem dX5_bargain_18 : decode cX5_bargain 18 = .ok (.ifCond .ne 5, 3) := by decide +kernel
theorem dX5_bargain_21 : decode cX5_bargain 21 = .ok (.iconst (-1), 1) := by decide +kernel
theorem dX5_bargain_22 : decode cX5_bargain 22 = .ok (.ireturn, 1) := by decide +kernel
theorem dX5_bargain_23 : decode cX5_bargain 23 = .ok (.iload_n 2, 1) := by decide +kernel
theorem dX5_bargain_24 : decode cX5_bargain 24 = .ok (.i2l, 1) := by decide +kernel
theorem dX5_bargain_25 : decode cX5_bargain 25 = .ok (.lconst 0, 1) := by decide +kernel
theorem dX5_bargain_26 : decode cX5_bargain 26 = .ok (.ldc2_w 129, 3) := by decide +kernel
theorem dX5_bargain_29 : decode cX5_bargain 29 = .ok (.invokestatic 84, 3) := by decide +kernel
theorem dX5_bargain_32 : decode cX5_bargain 32 = .ok (.ifCond .eq 17, 3) := by decide +kernel
theorem dX5_bargain_35 : decode cX5_bargain 35 = .ok (.aload_n 0, 1) := by decide +kernel
theorem dX5_bargain_36 : decode cX5_bargain 36 = .ok (.getfield 47, 3) := by decide +kernel
theorem dX5_bargain_39 : decode cX5_bargain 39 = .ok (.bipush 6, 2) := by decide +kernel
theorem dX5_bargain_41 : decode cX5_bargain 41 = .ok (.iload_n 1, 1) := by decide +kernel
theorem dX5_bargain_42 : decode cX5_bargain 42 = .ok (.imul, 1) := by decide +kernel
theorem dX5_bargain_43 : decode cX5_bargain 43 = .ok (.iload_n 2, 1) := by decide +kernel
theorem dX5_bargain_44 : decode cX5_bargain 44 = .ok (.iadd, 1) := by decide +kernel
theorem dX5_bargain_45 : decode cX5_bargain 45 = .ok (.iaload, 1) := by decide +kernel
theorem dX5_bargain_46 : decode cX5_bargain 46 = .ok (.goto 5, 3) := by decide +kernel
theorem dX5_bargain_49 : decode cX5_bargain 49 = .ok (.bipush (-2), 2) := by decide +kernel
theorem dX5_bargain_51 : decode cX5_bargain 51 = .ok (.ireturn, 1) := by decide +kernel
set_option maxRecDepth 20000 in
theorem ggX5_torn_X5_isTorn : GoodIn wsX5_torn wsX5_isTorn := goodIn_r _ [11, 12, 13, 14, 10, 15, 16, 17, 18, 19, 20, 21, 22, 23, 24, 25, 26, 27, 28, 29, 30, 31, 32, 33, 34, 35, 36, 37, 38, 39, 40, 41, 42, 43, 44, 45, 46, 47, 48, 49, 50, 51, 52, 53] rfl (by decide +kernel)
set_option maxRecDepth 20000 in
theorem gX5_torn_X5_isTorn : GoodIn wsX5_torn (wsV RX5 131 RX5 yX5_isTorn wsX5_isTorn) := goodIn_app (goodIn_r _ [7, 8, 9, 10] rfl (by decide +kernel)) ggX5_torn_X5_isTorn
theorem dX5_torn_0 : decode cX5_torn 0 = .ok (.aload_n 0, 1) := by decide +kernel
theorem dX5_torn_1 : decode cX5_torn 1 = .ok (.iconst 0, 1) := by decide +kernel
theorem dX5_torn_2 : decode cX5_torn 2 = .ok (.putfield 78, 3) := by decide +kernel
theorem dX5_torn_5 : decode cX5_torn 5 = .ok (.iconst 0, 1) := by decide +kernel
theorem dX5_torn_6 : decode cX5_torn 6 = .ok (.istore_n 1, 1) := by decide +kernel
theorem dX5_torn_7 : decode cX5_torn 7 = .ok (.iconst 0, 1) := by decide +kernel
theorem dX5_torn_8 : decode cX5_torn 8 = .ok (.istore_n 2, 1) := by decide +kernel
theorem dX5_torn_9 : decode cX5_torn 9 = .ok (.iload_n 2, 1) := by decide +kernel
theorem dX5_torn_10 : decode cX5_torn 10 = .ok (.aload_n 0, 1) := by decide +kernel
theorem dX5_torn_11 : decode cX5_torn 11 = .ok (.getfield 81, 3) := by decide +kernel
theorem dX5_torn_14 : decode cX5_torn 14 = .ok (.if_icmp .ge 54, 3) := by decide +kernel
theorem dX5_torn_17 : decode cX5_torn 17 = .ok (.iconst 0, 1) := by decide +kernel
theorem dX5_torn_18 : decode cX5_torn 18 = .ok (.istore_n 3, 1) := by decide +kernel
theorem dX5_torn_19 : decode cX5_torn 19 = .ok (.iload_n 3, 1) := by decide +kernel
theorem dX5_torn_20 : decode cX5_torn 20 = .ok (.aload_n 0, 1) := by decide +kernel
theorem dX5_torn_21 : decode cX5_torn 21 = .ok (.getfield 88, 3) := by decide +kernel
theorem dX5_torn_24 : decode cX5_torn 24 = .ok (.if_icmp .ge 38, 3) := by decide +kernel
theorem dX5_torn_27 : decode cX5_torn 27 = .ok (.iload_n 1, 1) := by decide +kernel
theorem dX5_torn_28 : decode cX5_torn 28 = .ok (.aload_n 0, 1) := by decide +kernel
theorem dX5_torn_29 : decode cX5_torn 29 = .ok (.iload_n 2, 1) := by decide +kernel
theorem dX5_torn_30 : decode cX5_torn 30 = .ok (.iload_n 3, 1) := by decide +kernel
theorem dX5_torn_31 : decode cX5_torn 31 = .ok (.aload_n 0, 1) := by decide +kernel
theorem dX5_torn_32 : decode cX5_torn 32 = .ok (.getfield 35, 3) := by decide +kernel
theorem dX5_torn_35 : decode cX5_torn 35 = .ok (.aload_n 0, 1) := by decide +kernel
theorem dX5_torn_36 : decode cX5_torn 36 = .ok (.getfield 38, 3) := by decide +kernel
theorem dX5_torn_39 : decode cX5_torn 39 = .ok (.aload_n 0, 1) := by decide +kernel
theorem dX5_torn_40 : decode cX5_torn 40 = .ok (.getfield 44, 3) := by decide +kernel
theorem dX5_torn_43 : decode cX5_torn 43 = .ok (.invokevirtual 131, 3) := by decide +kernel
theorem dX5_torn_46 : decode cX5_torn 46 = .ok (.ifCond .eq 7, 3) := by decide +kernel
theorem dX5_torn_49 : decode cX5_torn 49 = .ok (.iconst 1, 1) := by decide +kernel
theorem dX5_torn_50 : decode cX5_torn 50 = .ok (.goto 4, 3) := by decide +kernel
theorem dX5_torn_53 : decode cX5_torn 53 = .ok (.iconst 0, 1) := by decide +kernel
theorem dX5_torn_54 : decode cX5_torn 54 = .ok (.iadd, 1) := by decide +kernel
theorem dX5_torn_55 : decode cX5_torn 55 = .ok (.istore_n 1, 1) := by decide +kernel
theorem dX5_torn_56 : decode cX5_torn 56 = .ok (.iinc 3 1, 3) := by decide +kernel
theorem dX5_torn_59 : decode cX5_torn 59 = .ok (.goto (-40), 3) := by decide +kernel
theorem dX5_torn_62 : decode cX5_torn 62 = .ok (.iinc 2 1, 3) := by decide +kernel
theorem dX5_torn_65 : decode cX5_torn 65 = .ok (.goto (-56), 3) := by decide +kernel
theorem dX5_torn_68 : decode cX5_torn 68 = .ok (.iload_n 1, 1) := by decide +kernel
theorem dX5_torn_69 : decode cX5_torn 69 = .ok (.ireturn, 1) := by decide +kernel
set_option maxRecDepth 20000 in
theorem ggX5_pair_X5_isTorn : GoodIn wsX5_pair wsX5_isTorn := goodIn_r _ [11, 12, 13, 14, 10, 15, 16, 17, 18, 19, 20, 21, 22, 23, 24, 25, 26, 27, 28, 29, 30, 31, 32, 33, 34, 35, 36, 37, 38, 39, 40, 41, 42, 43, 44, 45, 46, 47, 48, 49, 50, 51, 52, 53] rfl (by decide +kernel)
set_option maxRecDepth 20000 in
theorem gX5_pair_X5_isTorn : GoodIn wsX5_pair (wsV RX5 131 RX5 yX5_isTorn wsX5_isTorn) := goodIn_app (goodIn_r _ [7, 8, 9, 10] rfl (by decide +kernel)) ggX5_pair_X5_isTorn
theorem dX5_pair_0 : decode cX5_pair 0 = .ok (.aload_n 0, 1) := by decide +kernel
theorem dX5_pair_1 : decode cX5_pair 1 = .ok (.iconst 0, 1) := by decide +kernel
theorem dX5_pair_2 : decode cX5_pair 2 = .ok (.putfield 78, 3) := by decide +kernel
theorem dX5_pair_5 : decode cX5_pair 5 = .ok (.iconst 0, 1) := by decide +kernel
theorem dX5_pair_6 : decode cX5_pair 6 = .ok (.istore_n 2, 1) := by decide +kernel
theorem dX5_pair_7 : decode cX5_pair 7 = .ok (.iconst 0, 1) := by decide +kernel
theorem dX5_pair_8 : decode cX5_pair 8 = .ok (.istore_n 3, 1) := by decide +kernel
theorem dX5_pair_9 : decode cX5_pair 9 = .ok (.iload_n 3, 1) := by decide +kernel
theorem dX5_pair_10 : decode cX5_pair 10 = .ok (.aload_n 0, 1) := by decide +kernel
theorem dX5_pair_11 : decode cX5_pair 11 = .ok (.getfield 81, 3) := by decide +kernel
theorem dX5_pair_14 : decode cX5_pair 14 = .ok (.if_icmp .ge 65, 3) := by decide +kernel
theorem dX5_pair_17 : decode cX5_pair 17 = .ok (.iconst 0, 1) := by decide +kernel
theorem dX5_pair_18 : decode cX5_pair 18 = .ok (.istore 4, 2) := by decide +kernel
theorem dX5_pair_20 : decode cX5_pair 20 = .ok (.iload 4, 2) := by decide +kernel
theorem dX5_pair_22 : decode cX5_pair 22 = .ok (.aload_n 0, 1) := by decide +kernel
theorem dX5_pair_23 : decode cX5_pair 23 = .ok (.getfield 88, 3) := by decide +kernel
theorem dX5_pair_26 : decode cX5_pair 26 = .ok (.if_icmp .ge 47, 3) := by decide +kernel
theorem dX5_pair_29 : decode cX5_pair 29 = .ok (.aload_n 0, 1) := by decide +kernel
theorem dX5_pair_30 : decode cX5_pair 30 = .ok (.iload_n 3, 1) := by decide +kernel
theorem dX5_pair_31 : decode cX5_pair 31 = .ok (.iload 4, 2) := by decide +kernel
theorem dX5_pair_33 : decode cX5_pair 33 = .ok (.aload_n 0, 1) := by decide +kernel
theorem dX5_pair_34 : decode cX5_pair 34 = .ok (.getfield 35, 3) := by decide +kernel
theorem dX5_pair_37 : decode cX5_pair 37 = .ok (.aload_n 0, 1) := by decide +kernel
theorem dX5_pair_38 : decode cX5_pair 38 = .ok (.getfield 38, 3) := by decide +kernel
theorem dX5_pair_41 : decode cX5_pair 41 = .ok (.aload_n 0, 1) := by decide +kernel
theorem dX5_pair_42 : decode cX5_pair 42 = .ok (.getfield 44, 3) := by decide +kernel
theorem dX5_pair_45 : decode cX5_pair 45 = .ok (.invokevirtual 131, 3) := by decide +kernel
theorem dX5_pair_48 : decode cX5_pair 48 = .ok (.ifCond .eq 19, 3) := by decide +kernel
theorem dX5_pair_51 : decode cX5_pair 51 = .ok (.iload_n 2, 1) := by decide +kernel
theorem dX5_pair_52 : decode cX5_pair 52 = .ok (.iload_n 1, 1) := by decide +kernel
theorem dX5_pair_53 : decode cX5_pair 53 = .ok (.if_icmp .ne 11, 3) := by decide +kernel
theorem dX5_pair_56 : decode cX5_pair 56 = .ok (.bipush 10, 2) := by decide +kernel
theorem dX5_pair_58 : decode cX5_pair 58 = .ok (.iload_n 3, 1) := by decide +kernel
theorem dX5_pair_59 : decode cX5_pair 59 = .ok (.imul, 1) := by decide +kernel
theorem dX5_pair_60 : decode cX5_pair 60 = .ok (.iload 4, 2) := by decide +kernel
theorem dX5_pair_62 : decode cX5_pair 62 = .ok (.iadd, 1) := by decide +kernel
theorem dX5_pair_63 : decode cX5_pair 63 = .ok (.ireturn, 1) := by decide +kernel
theorem dX5_pair_64 : decode cX5_pair 64 = .ok (.iinc 2 1, 3) := by decide +kernel
theorem dX5_pair_67 : decode cX5_pair 67 = .ok (.iinc 4 1, 3) := by decide +kernel
theorem dX5_pair_70 : decode cX5_pair 70 = .ok (.goto (-50), 3) := by decide +kernel
theorem dX5_pair_73 : decode cX5_pair 73 = .ok (.iinc 3 1, 3) := by decide +kernel
theorem dX5_pair_76 : decode cX5_pair 76 = .ok (.goto (-67), 3) := by decide +kernel
theorem dX5_pair_79 : decode cX5_pair 79 = .ok (.bipush (-9), 2) := by decide +kernel
theorem dX5_pair_81 : decode cX5_pair 81 = .ok (.ireturn, 1) := by decide +kernel
set_option maxRecDepth 20000 in
theorem ggX5_foretell_X5_nextOf : GoodIn wsX5_foretell wsX5_nextOf := goodIn_r _ [10, 11, 12, 13, 14, 9, 15, 16, 17, 18, 19, 20, 21, 22, 23, 24, 25, 26, 27, 28, 29, 30, 31, 32, 33, 34, 35, 36, 37, 38, 39, 40, 41, 42, 43, 44, 45, 46, 47, 48, 49, 50, 51, 52, 53] rfl (by decide +kernel)
set_option maxRecDepth 20000 in
theorem gX5_foretell_X5_nextOf : GoodIn wsX5_foretell (wsV RX5 113 RX5 yX5_nextOf wsX5_nextOf) := goodIn_app (goodIn_r _ [6, 7, 8, 9] rfl (by decide +kernel)) ggX5_foretell_X5_nextOf
set_option maxRecDepth 20000 in
theorem ggX5_foretell_X5_offerOf : GoodIn wsX5_foretell wsX5_offerOf := goodIn_r _ [15, 16, 17, 18, 19, 20, 21, 22, 23, 9, 24, 25, 26, 27, 28, 29, 30, 31, 32, 33, 34, 35, 36, 37, 38, 39, 40, 41, 42, 43, 44, 45, 46, 47, 48, 49, 50, 51, 52, 53] rfl (by decide +kernel)
set_option maxRecDepth 20000 in
theorem gX5_foretell_X5_offerOf : GoodIn wsX5_foretell (wsV RX5 95 RX5 yX5_offerOf wsX5_offerOf) := goodIn_app (goodIn_r _ [12, 13, 14, 9] rfl (by decide +kernel)) ggX5_foretell_X5_offerOf
theorem dX5_foretell_0 : decode cX5_foretell 0 = .ok (.iconst 0, 1) := by decide +kernel
theorem dX5_foretell_1 : decode cX5_foretell 1 = .ok (.istore_n 2, 1) := by decide +kernel
theorem dX5_foretell_2 : decode cX5_foretell 2 = .ok (.iload_n 2, 1) := by decide +kernel
theorem dX5_foretell_3 : decode cX5_foretell 3 = .ok (.bipush 100, 2) := by decide +kernel
theorem dX5_foretell_5 : decode cX5_foretell 5 = .ok (.if_icmp .ge 16, 3) := by decide +kernel
theorem dX5_foretell_8 : decode cX5_foretell 8 = .ok (.aload_n 0, 1) := by decide +kernel
theorem dX5_foretell_9 : decode cX5_foretell 9 = .ok (.getfield 66, 3) := by decide +kernel
theorem dX5_foretell_12 : decode cX5_foretell 12 = .ok (.iload_n 2, 1) := by decide +kernel
theorem dX5_foretell_13 : decode cX5_foretell 13 = .ok (.iconst 0, 1) := by decide +kernel
theorem dX5_foretell_14 : decode cX5_foretell 14 = .ok (.bastore, 1) := by decide +kernel
theorem dX5_foretell_15 : decode cX5_foretell 15 = .ok (.iinc 2 1, 3) := by decide +kernel
theorem dX5_foretell_18 : decode cX5_foretell 18 = .ok (.goto (-16), 3) := by decide +kernel
theorem dX5_foretell_21 : decode cX5_foretell 21 = .ok (.iconst 0, 1) := by decide +kernel
theorem dX5_foretell_22 : decode cX5_foretell 22 = .ok (.istore_n 2, 1) := by decide +kernel
theorem dX5_foretell_23 : decode cX5_foretell 23 = .ok (.iload_n 2, 1) := by decide +kernel
theorem dX5_foretell_24 : decode cX5_foretell 24 = .ok (.bipush 10, 2) := by decide +kernel
theorem dX5_foretell_26 : decode cX5_foretell 26 = .ok (.if_icmp .ge 25, 3) := by decide +kernel
theorem dX5_foretell_29 : decode cX5_foretell 29 = .ok (.aload_n 0, 1) := by decide +kernel
theorem dX5_foretell_30 : decode cX5_foretell 30 = .ok (.getfield 69, 3) := by decide +kernel
theorem dX5_foretell_33 : decode cX5_foretell 33 = .ok (.iload_n 2, 1) := by decide +kernel
theorem dX5_foretell_34 : decode cX5_foretell 34 = .ok (.bipush (-9), 2) := by decide +kernel
theorem dX5_foretell_36 : decode cX5_foretell 36 = .ok (.iastore, 1) := by decide +kernel
theorem dX5_foretell_37 : decode cX5_foretell 37 = .ok (.aload_n 0, 1) := by decide +kernel
theorem dX5_foretell_38 : decode cX5_foretell 38 = .ok (.getfield 75, 3) := by decide +kernel
theorem dX5_foretell_41 : decode cX5_foretell 41 = .ok (.iload_n 2, 1) := by decide +kernel
theorem dX5_foretell_42 : decode cX5_foretell 42 = .ok (.bipush (-9), 2) := by decide +kernel
theorem dX5_foretell_44 : decode cX5_foretell 44 = .ok (.iastore, 1) := by decide +kernel
theorem dX5_foretell_45 : decode cX5_foretell 45 = .ok (.iinc 2 1, 3) := by decide +kernel
theorem dX5_foretell_48 : decode cX5_foretell 48 = .ok (.goto (-25), 3) := by decide +kernel
theorem dX5_foretell_51 : decode cX5_foretell 51 = .ok (.iconst 0, 1) := by decide +kernel
theorem dX5_foretell_52 : decode cX5_foretell 52 = .ok (.istore_n 2, 1) := by decide +kernel
theorem dX5_foretell_53 : decode cX5_foretell 53 = .ok (.iload_n 2, 1) := by decide +kernel
theorem dX5_foretell_54 : decode cX5_foretell 54 = .ok (.sipush 240, 3) := by decide +kernel
theorem dX5_foretell_57 : decode cX5_foretell 57 = .ok (.if_icmp .ge 186, 3) := by decide +kernel
theorem dX5_foretell_60 : decode cX5_foretell 60 = .ok (.iconst 0, 1) := by decide +kernel
theorem dX5_foretell_61 : decode cX5_foretell 61 = .ok (.istore_n 3, 1) := by decide +kernel
theorem dX5_foretell_62 : decode cX5_foretell 62 = .ok (.iload_n 3, 1) := by decide +kernel
theorem dX5_foretell_63 : decode cX5_foretell 63 = .ok (.aload_n 0, 1) := by decide +kernel
theorem dX5_foretell_64 : decode cX5_foretell 64 = .ok (.getfield 88, 3) := by decide +kernel
theorem dX5_foretell_67 : decode cX5_foretell 67 = .ok (.if_icmp .ge 170, 3) := by decide +kernel
theorem dX5_foretell_70 : decode cX5_foretell 70 = .ok (.iload_n 1, 1) := by decide +kernel
theorem dX5_foretell_71 : decode cX5_foretell 71 = .ok (.ifCond .eq 14, 3) := by decide +kernel
theorem dX5_foretell_74 : decode cX5_foretell 74 = .ok (.aload_n 0, 1) := by decide +kernel
theorem dX5_foretell_75 : decode cX5_foretell 75 = .ok (.getfield 88, 3) := by decide +kernel
theorem dX5_foretell_78 : decode cX5_foretell 78 = .ok (.iconst 1, 1) := by decide +kernel
theorem dX5_foretell_79 : decode cX5_foretell 79 = .ok (.isub, 1) := by decide +kernel
theorem dX5_foretell_80 : decode cX5_foretell 80 = .ok (.iload_n 3, 1) := by decide +kernel
theorem dX5_foretell_81 : decode cX5_foretell 81 = .ok (.isub, 1) := by decide +kernel
theorem dX5_foretell_82 : decode cX5_foretell 82 = .ok (.goto 4, 3) := by decide +kernel
theorem dX5_foretell_85 : decode cX5_foretell 85 = .ok (.iload_n 3, 1) := by decide +kernel
theorem dX5_foretell_86 : decode cX5_foretell 86 = .ok (.istore 4, 2) := by decide +kernel
theorem dX5_foretell_88 : decode cX5_foretell 88 = .ok (.aload_n 0, 1) := by decide +kernel
theorem dX5_foretell_89 : decode cX5_foretell 89 = .ok (.getfield 75, 3) := by decide +kernel
theorem dX5_foretell_92 : decode cX5_foretell 92 = .ok (.iload 4, 2) := by decide +kernel
theorem dX5_foretell_94 : decode cX5_foretell 94 = .ok (.iaload, 1) := by decide +kernel
theorem dX5_foretell_95 : decode cX5_foretell 95 = .ok (.bipush (-9), 2) := by decide +kernel
theorem dX5_foretell_97 : decode cX5_foretell 97 = .ok (.if_icmp .ne 16, 3) := by decide +kernel
theorem dX5_foretell_100 : decode cX5_foretell 100 = .ok (.aload_n 0, 1) := by decide +kernel
theorem dX5_foretell_101 : decode cX5_foretell 101 = .ok (.iload 4, 2) := by decide +kernel
theorem dX5_foretell_103 : decode cX5_foretell 103 = .ok (.aload_n 0, 1) := by decide +kernel
theorem dX5_foretell_104 : decode cX5_foretell 104 = .ok (.getfield 66, 3) := by decide +kernel
theorem dX5_foretell_107 : decode cX5_foretell 107 = .ok (.invokevirtual 113, 3) := by decide +kernel
theorem dX5_foretell_110 : decode cX5_foretell 110 = .ok (.goto 5, 3) := by decide +kernel
theorem dX5_foretell_113 : decode cX5_foretell 113 = .ok (.bipush (-9), 2) := by decide +kernel
theorem dX5_foretell_115 : decode cX5_foretell 115 = .ok (.istore 5, 2) := by decide +kernel
theorem dX5_foretell_117 : decode cX5_foretell 117 = .ok (.iload 5, 2) := by decide +kernel
theorem dX5_foretell_119 : decode cX5_foretell 119 = .ok (.bipush (-9), 2) := by decide +kernel
theorem dX5_foretell_121 : decode cX5_foretell 121 = .ok (.if_icmp .eq 110, 3) := by decide +kernel
theorem dX5_foretell_124 : decode cX5_foretell 124 = .ok (.aload_n 0, 1) := by decide +kernel
theorem dX5_foretell_125 : decode cX5_foretell 125 = .ok (.iload 4, 2) := by decide +kernel
theorem dX5_foretell_127 : decode cX5_foretell 127 = .ok (.iload 5, 2) := by decide +kernel
theorem dX5_foretell_129 : decode cX5_foretell 129 = .ok (.invokevirtual 95, 3) := by decide +kernel
theorem dX5_foretell_132 : decode cX5_foretell 132 = .ok (.istore 6, 2) := by decide +kernel
theorem dX5_foretell_134 : decode cX5_foretell 134 = .ok (.aload_n 0, 1) := by decide +kernel
theorem dX5_foretell_135 : decode cX5_foretell 135 = .ok (.getfield 66, 3) := by decide +kernel
theorem dX5_foretell_138 : decode cX5_foretell 138 = .ok (.bipush 10, 2) := by decide +kernel
theorem dX5_foretell_140 : decode cX5_foretell 140 = .ok (.iload 4, 2) := by decide +kernel
theorem dX5_foretell_142 : decode cX5_foretell 142 = .ok (.imul, 1) := by decide +kernel
theorem dX5_foretell_143 : decode cX5_foretell 143 = .ok (.iload 5, 2) := by decide +kernel
theorem dX5_foretell_145 : decode cX5_foretell 145 = .ok (.iadd, 1) := by decide +kernel
theorem dX5_foretell_146 : decode cX5_foretell 146 = .ok (.iconst 1, 1) := by decide +kernel
theorem dX5_foretell_147 : decode cX5_foretell 147 = .ok (.bastore, 1) := by decide +kernel
theorem dX5_foretell_148 : decode cX5_foretell 148 = .ok (.aload_n 0, 1) := by decide +kernel
theorem dX5_foretell_149 : decode cX5_foretell 149 = .ok (.getfield 69, 3) := by decide +kernel
theorem dX5_foretell_152 : decode cX5_foretell 152 = .ok (.iload 5, 2) := by decide +kernel
theorem dX5_foretell_154 : decode cX5_foretell 154 = .ok (.iaload, 1) := by decide +kernel
theorem dX5_foretell_155 : decode cX5_foretell 155 = .ok (.bipush (-9), 2) := by decide +kernel
theorem dX5_foretell_157 : decode cX5_foretell 157 = .ok (.if_icmp .eq 21, 3) := by decide +kernel
theorem dX5_foretell_160 : decode cX5_foretell 160 = .ok (.iload_n 2, 1) := by decide +kernel
theorem dX5_foretell_161 : decode cX5_foretell 161 = .ok (.bipush 120, 2) := by decide +kernel
theorem dX5_foretell_163 : decode cX5_foretell 163 = .ok (.if_icmp .ge 68, 3) := by decide +kernel
theorem dX5_foretell_166 : decode cX5_foretell 166 = .ok (.iload 6, 2) := by decide +kernel
theorem dX5_foretell_168 : decode cX5_foretell 168 = .ok (.aload_n 0, 1) := by decide +kernel
theorem dX5_foretell_169 : decode cX5_foretell 169 = .ok (.getfield 72, 3) := by decide +kernel
theorem dX5_foretell_172 : decode cX5_foretell 172 = .ok (.iload 5, 2) := by decide +kernel
theorem dX5_foretell_174 : decode cX5_foretell 174 = .ok (.iaload, 1) := by decide +kernel
theorem dX5_foretell_175 : decode cX5_foretell 175 = .ok (.if_icmp .le 56, 3) := by decide +kernel
theorem dX5_foretell_178 : decode cX5_foretell 178 = .ok (.aload_n 0, 1) := by decide +kernel
theorem dX5_foretell_179 : decode cX5_foretell 179 = .ok (.getfield 69, 3) := by decide +kernel
theorem dX5_foretell_182 : decode cX5_foretell 182 = .ok (.iload 5, 2) := by decide +kernel
theorem dX5_foretell_184 : decode cX5_foretell 184 = .ok (.iaload, 1) := by decide +kernel
theorem dX5_foretell_185 : decode cX5_foretell 185 = .ok (.bipush (-9), 2) := by decide +kernel
theorem dX5_foretell_187 : decode cX5_foretell 187 = .ok (.if_icmp .eq 17, 3) := by decide +kernel
theorem dX5_foretell_190 : decode cX5_foretell 190 = .ok (.aload_n 0, 1) := by decide +kernel
theorem dX5_foretell_191 : decode cX5_foretell 191 = .ok (.getfield 75, 3) := by decide +kernel
theorem dX5_foretell_194 : decode cX5_foretell 194 = .ok (.aload_n 0, 1) := by decide +kernel
theorem dX5_foretell_195 : decode cX5_foretell 195 = .ok (.getfield 69, 3) := by decide +kernel
theorem dX5_foretell_198 : decode cX5_foretell 198 = .ok (.iload 5, 2) := by decide +kernel
theorem dX5_foretell_200 : decode cX5_foretell 200 = .ok (.iaload, 1) := by decide +kernel
theorem dX5_foretell_201 : decode cX5_foretell 201 = .ok (.bipush (-9), 2) := by decide +kernel
theorem dX5_foretell_203 : decode cX5_foretell 203 = .ok (.iastore, 1) := by decide +kernel
theorem dX5_foretell_204 : decode cX5_foretell 204 = .ok (.aload_n 0, 1) := by decide +kernel
theorem dX5_foretell_205 : decode cX5_foretell 205 = .ok (.getfield 69, 3) := by decide +kernel
theorem dX5_foretell_208 : decode cX5_foretell 208 = .ok (.iload 5, 2) := by decide +kernel
theorem dX5_foretell_210 : decode cX5_foretell 210 = .ok (.iload 4, 2) := by decide +kernel
theorem dX5_foretell_212 : decode cX5_foretell 212 = .ok (.iastore, 1) := by decide +kernel
theorem dX5_foretell_213 : decode cX5_foretell 213 = .ok (.aload_n 0, 1) := by decide +kernel
theorem dX5_foretell_214 : decode cX5_foretell 214 = .ok (.getfield 72, 3) := by decide +kernel
theorem dX5_foretell_217 : decode cX5_foretell 217 = .ok (.iload 5, 2) := by decide +kernel
theorem dX5_foretell_219 : decode cX5_foretell 219 = .ok (.iload 6, 2) := by decide +kernel
theorem dX5_foretell_221 : decode cX5_foretell 221 = .ok (.iastore, 1) := by decide +kernel
theorem dX5_foretell_222 : decode cX5_foretell 222 = .ok (.aload_n 0, 1) := by decide +kernel
theorem dX5_foretell_223 : decode cX5_foretell 223 = .ok (.getfield 75, 3) := by decide +kernel
theorem dX5_foretell_226 : decode cX5_foretell 226 = .ok (.iload 4, 2) := by decide +kernel
theorem dX5_foretell_228 : decode cX5_foretell 228 = .ok (.iload 5, 2) := by decide +kernel
theorem dX5_foretell_230 : decode cX5_foretell 230 = .ok (.iastore, 1) := by decide +kernel
theorem dX5_foretell_231 : decode cX5_foretell 231 = .ok (.iinc 3 1, 3) := by decide +kernel
theorem dX5_foretell_234 : decode cX5_foretell 234 = .ok (.goto (-172), 3) := by decide +kernel
theorem dX5_foretell_237 : decode cX5_foretell 237 = .ok (.iinc 2 1, 3) := by decide +kernel
theorem dX5_foretell_240 : decode cX5_foretell 240 = .ok (.goto (-187), 3) := by decide +kernel
theorem dX5_foretell_243 : decode cX5_foretell 243 = .ok (.return_, 1) := by decide +kernel
set_option maxRecDepth 20000 in
theorem ggX5_foretold_X5_in : GoodIn wsX5_foretold wsX5_in := goodIn_r _ [11] rfl (by decide +kernel)
set_option maxRecDepth 20000 in
theorem gX5_foretold_X5_in : GoodIn wsX5_foretold (va_wsS RX5 84 yX5_in wsX5_in) := goodIn_app (goodIn_r _ [8, 9, 10] rfl (by decide +kernel)) ggX5_foretold_X5_in
set_option maxRecDepth 20000 in
theorem ggX5_foretold_X5_foretell : GoodIn wsX5_foretold wsX5_foretell := goodIn_r _ [15, 16, 4, 7, 6, 5, 17, 18, 19, 10, 20, 3, 21, 22, 23, 24, 25, 26, 27, 28, 29, 30, 31, 32, 33, 34, 39, 40, 41, 42, 43, 44, 45, 46, 47, 48, 49, 50, 51, 52, 53, 54, 55, 56, 57, 58, 59, 60, 61, 62, 63, 64, 65, 66] rfl (by decide +kernel)
set_option maxRecDepth 20000 in
theorem gX5_foretold_X5_foretell : GoodIn wsX5_foretold (wsV RX5 135 RX5 yX5_foretell wsX5_foretell) := goodIn_app (goodIn_r _ [12, 13, 14, 10] rfl (by decide +kernel)) ggX5_foretold_X5_foretell
set_option maxRecDepth 20000 in
theorem ggX5_foretold_X5_isTorn : GoodIn wsX5_foretold wsX5_isTorn := goodIn_r _ [38, 21, 22, 23, 10, 24, 25, 26, 27, 28, 29, 30, 31, 32, 33, 34, 39, 40, 41, 42, 43, 44, 45, 46, 47, 48, 49, 50, 51, 52, 53, 54, 55, 56, 57, 58, 59, 60, 61, 62, 63, 64, 65, 66] rfl (by decide +kernel)
set_option maxRecDepth 20000 in
theorem gX5_foretold_X5_isTorn : GoodIn wsX5_foretold (wsV RX5 131 RX5 yX5_isTorn wsX5_isTorn) := goodIn_app (goodIn_r _ [35, 36, 37, 10] rfl (by decide +kernel)) ggX5_foretold_X5_isTorn
theorem dX5_foretold_0 : decode cX5_foretold 0 = .ok (.aload_n 0, 1) := by decide +kernel
theorem dX5_foretold_1 : decode cX5_foretold 1 = .ok (.iconst 0, 1) := by decide +kernel
theorem dX5_foretold_2 : decode cX5_foretold 2 = .ok (.putfield 78, 3) := by decide +kernel
theorem dX5_foretold_5 : decode cX5_foretold 5 = .ok (.iload_n 1, 1) := by decide +kernel
theorem dX5_foretold_6 : decode cX5_foretold 6 = .ok (.i2l, 1) := by decide +kernel
theorem dX5_foretold_7 : decode cX5_foretold 7 = .ok (.lconst 0, 1) := by decide +kernel
theorem dX5_foretold_8 : decode cX5_foretold 8 = .ok (.lconst 1, 1) := by decide +kernel
theorem dX5_foretold_9 : decode cX5_foretold 9 = .ok (.invokestatic 84, 3) := by decide +kernel
theorem dX5_foretold_12 : decode cX5_foretold 12 = .ok (.ifCond .eq 15, 3) := by decide +kernel
theorem dX5_foretold_15 : decode cX5_foretold 15 = .ok (.iload_n 2, 1) := by decide +kernel
theorem dX5_foretold_16 : decode cX5_foretold 16 = .ok (.i2l, 1) := by decide +kernel
theorem dX5_foretold_17 : decode cX5_foretold 17 = .ok (.lconst 0, 1) := by decide +kernel
theorem dX5_foretold_18 : decode cX5_foretold 18 = .ok (.ldc2_w 98, 3) := by decide +kernel
theorem dX5_foretold_21 : decode cX5_foretold 21 = .ok (.invokestatic 84, 3) := by decide +kernel
theorem dX5_foretold_24 : decode cX5_foretold 24 = .ok (.ifCond .ne 6, 3) := by decide +kernel
theorem dX5_foretold_27 : decode cX5_foretold 27 = .ok (.bipush (-2), 2) := by decide +kernel
theorem dX5_foretold_29 : decode cX5_foretold 29 = .ok (.ireturn, 1) := by decide +kernel
theorem dX5_foretold_30 : decode cX5_foretold 30 = .ok (.aload_n 0, 1) := by decide +kernel
theorem dX5_foretold_31 : decode cX5_foretold 31 = .ok (.iload_n 1, 1) := by decide +kernel
theorem dX5_foretold_32 : decode cX5_foretold 32 = .ok (.iconst 1, 1) := by decide +kernel
theorem dX5_foretold_33 : decode cX5_foretold 33 = .ok (.if_icmp .ne 7, 3) := by decide +kernel
theorem dX5_foretold_36 : decode cX5_foretold 36 = .ok (.iconst 1, 1) := by decide +kernel
theorem dX5_foretold_37 : decode cX5_foretold 37 = .ok (.goto 4, 3) := by decide +kernel
theorem dX5_foretold_40 : decode cX5_foretold 40 = .ok (.iconst 0, 1) := by decide +kernel
theorem dX5_foretold_41 : decode cX5_foretold 41 = .ok (.invokevirtual 135, 3) := by decide +kernel
theorem dX5_foretold_44 : decode cX5_foretold 44 = .ok (.iconst 0, 1) := by decide +kernel
theorem dX5_foretold_45 : decode cX5_foretold 45 = .ok (.istore_n 3, 1) := by decide +kernel
theorem dX5_foretold_46 : decode cX5_foretold 46 = .ok (.iconst 0, 1) := by decide +kernel
theorem dX5_foretold_47 : decode cX5_foretold 47 = .ok (.istore 4, 2) := by decide +kernel
theorem dX5_foretold_49 : decode cX5_foretold 49 = .ok (.iload 4, 2) := by decide +kernel
theorem dX5_foretold_51 : decode cX5_foretold 51 = .ok (.aload_n 0, 1) := by decide +kernel
theorem dX5_foretold_52 : decode cX5_foretold 52 = .ok (.getfield 81, 3) := by decide +kernel
theorem dX5_foretold_55 : decode cX5_foretold 55 = .ok (.if_icmp .ge 100, 3) := by decide +kernel
theorem dX5_foretold_58 : decode cX5_foretold 58 = .ok (.iload_n 2, 1) := by decide +kernel
theorem dX5_foretold_59 : decode cX5_foretold 59 = .ok (.iconst 1, 1) := by decide +kernel
theorem dX5_foretold_60 : decode cX5_foretold 60 = .ok (.if_icmp .eq 40, 3) := by decide +kernel
theorem dX5_foretold_63 : decode cX5_foretold 63 = .ok (.iload_n 3, 1) := by decide +kernel
theorem dX5_foretold_64 : decode cX5_foretold 64 = .ok (.aload_n 0, 1) := by decide +kernel
theorem dX5_foretold_65 : decode cX5_foretold 65 = .ok (.getfield 69, 3) := by decide +kernel
theorem dX5_foretold_68 : decode cX5_foretold 68 = .ok (.iload 4, 2) := by decide +kernel
theorem dX5_foretold_70 : decode cX5_foretold 70 = .ok (.iaload, 1) := by decide +kernel
theorem dX5_foretold_71 : decode cX5_foretold 71 = .ok (.bipush (-9), 2) := by decide +kernel
theorem dX5_foretold_73 : decode cX5_foretold 73 = .ok (.if_icmp .ne 7, 3) := by decide +kernel
theorem dX5_foretold_76 : decode cX5_foretold 76 = .ok (.iconst 0, 1) := by decide +kernel
theorem dX5_foretold_77 : decode cX5_foretold 77 = .ok (.goto 18, 3) := by decide +kernel
theorem dX5_foretold_80 : decode cX5_foretold 80 = .ok (.iload_n 2, 1) := by decide +kernel
theorem dX5_foretold_81 : decode cX5_foretold 81 = .ok (.ifCond .ne 7, 3) := by decide +kernel
theorem dX5_foretold_84 : decode cX5_foretold 84 = .ok (.iconst 1, 1) := by decide +kernel
theorem dX5_foretold_85 : decode cX5_foretold 85 = .ok (.goto 10, 3) := by decide +kernel
theorem dX5_foretold_88 : decode cX5_foretold 88 = .ok (.aload_n 0, 1) := by decide +kernel
theorem dX5_foretold_89 : decode cX5_foretold 89 = .ok (.getfield 72, 3) := by decide +kernel
theorem dX5_foretold_92 : decode cX5_foretold 92 = .ok (.iload 4, 2) := by decide +kernel
theorem dX5_foretold_94 : decode cX5_foretold 94 = .ok (.iaload, 1) := by decide +kernel
theorem dX5_foretold_95 : decode cX5_foretold 95 = .ok (.iadd, 1) := by decide +kernel
theorem dX5_foretold_96 : decode cX5_foretold 96 = .ok (.istore_n 3, 1) := by decide +kernel
theorem dX5_foretold_97 : decode cX5_foretold 97 = .ok (.goto 52, 3) := by decide +kernel
theorem dX5_foretold_100 : decode cX5_foretold 100 = .ok (.iconst 0, 1) := by decide +kernel
theorem dX5_foretold_101 : decode cX5_foretold 101 = .ok (.istore 5, 2) := by decide +kernel
theorem dX5_foretold_103 : decode cX5_foretold 103 = .ok (.iload 5, 2) := by decide +kernel
theorem dX5_foretold_105 : decode cX5_foretold 105 = .ok (.aload_n 0, 1) := by decide +kernel
theorem dX5_foretold_106 : decode cX5_foretold 106 = .ok (.getfield 88, 3) := by decide +kernel
theorem dX5_foretold_109 : decode cX5_foretold 109 = .ok (.if_icmp .ge 40, 3) := by decide +kernel
theorem dX5_foretold_112 : decode cX5_foretold 112 = .ok (.iload_n 3, 1) := by decide +kernel
theorem dX5_foretold_113 : decode cX5_foretold 113 = .ok (.aload_n 0, 1) := by decide +kernel
theorem dX5_foretold_114 : decode cX5_foretold 114 = .ok (.iload 4, 2) := by decide +kernel
theorem dX5_foretold_116 : decode cX5_foretold 116 = .ok (.iload 5, 2) := by decide +kernel
theorem dX5_foretold_118 : decode cX5_foretold 118 = .ok (.aload_n 0, 1) := by decide +kernel
theorem dX5_foretold_119 : decode cX5_foretold 119 = .ok (.getfield 69, 3) := by decide +kernel
theorem dX5_foretold_122 : decode cX5_foretold 122 = .ok (.aload_n 0, 1) := by decide +kernel
theorem dX5_foretold_123 : decode cX5_foretold 123 = .ok (.getfield 72, 3) := by decide +kernel
theorem dX5_foretold_126 : decode cX5_foretold 126 = .ok (.aload_n 0, 1) := by decide +kernel
theorem dX5_foretold_127 : decode cX5_foretold 127 = .ok (.getfield 75, 3) := by decide +kernel
theorem dX5_foretold_130 : decode cX5_foretold 130 = .ok (.invokevirtual 131, 3) := by decide +kernel
theorem dX5_foretold_133 : decode cX5_foretold 133 = .ok (.ifCond .eq 7, 3) := by decide +kernel
theorem dX5_foretold_136 : decode cX5_foretold 136 = .ok (.iconst 1, 1) := by decide +kernel
theorem dX5_foretold_137 : decode cX5_foretold 137 = .ok (.goto 4, 3) := by decide +kernel
theorem dX5_foretold_140 : decode cX5_foretold 140 = .ok (.iconst 0, 1) := by decide +kernel
theorem dX5_foretold_141 : decode cX5_foretold 141 = .ok (.iadd, 1) := by decide +kernel
theorem dX5_foretold_142 : decode cX5_foretold 142 = .ok (.istore_n 3, 1) := by decide +kernel
theorem dX5_foretold_143 : decode cX5_foretold 143 = .ok (.iinc 5 1, 3) := by decide +kernel
theorem dX5_foretold_146 : decode cX5_foretold 146 = .ok (.goto (-43), 3) := by decide +kernel
theorem dX5_foretold_149 : decode cX5_foretold 149 = .ok (.iinc 4 1, 3) := by decide +kernel
theorem dX5_foretold_152 : decode cX5_foretold 152 = .ok (.goto (-103), 3) := by decide +kernel
theorem dX5_foretold_155 : decode cX5_foretold 155 = .ok (.iload_n 3, 1) := by decide +kernel
theorem dX5_foretold_156 : decode cX5_foretold 156 = .ok (.ireturn, 1) := by decide +kernel
set_option maxRecDepth 20000 in
theorem ggX5_text_X5_in : GoodIn wsX5_text wsX5_in := goodIn_r _ [6] rfl (by decide +kernel)
set_option maxRecDepth 20000 in
theorem gX5_text_X5_in : GoodIn wsX5_text (va_wsS RX5 84 yX5_in wsX5_in) := goodIn_app (goodIn_r _ [3, 4, 5] rfl (by decide +kernel)) ggX5_text_X5_in
theorem dX5_text_0 : decode cX5_text 0 = .ok (.aload_n 0, 1) := by decide +kernel
theorem dX5_text_1 : decode cX5_text 1 = .ok (.iconst 0, 1) := by decide +kernel
theorem dX5_text_2 : decode cX5_text 2 = .ok (.putfield 78, 3) := by decide +kernel
theorem dX5_text_5 : decode cX5_text 5 = .ok (.iload_n 1, 1) := by decide +kernel
theorem dX5_text_6 : decode cX5_text 6 = .ok (.i2l, 1) := by decide +kernel
theorem dX5_text_7 : decode cX5_text 7 = .ok (.lconst 0, 1) := by decide +kernel
theorem dX5_text_8 : decode cX5_text 8 = .ok (.lconst 1, 1) := by decide +kernel
theorem dX5_text_9 : decode cX5_text 9 = .ok (.invokestatic 84, 3) := by decide +kernel
theorem dX5_text_12 : decode cX5_text 12 = .ok (.ifCond .ne 6, 3) := by decide +kernel
theorem dX5_text_15 : decode cX5_text 15 = .ok (.bipush (-2), 2) := by decide +kernel
theorem dX5_text_17 : decode cX5_text 17 = .ok (.ireturn, 1) := by decide +kernel
theorem dX5_text_18 : decode cX5_text 18 = .ok (.aload_n 0, 1) := by decide +kernel
theorem dX5_text_19 : decode cX5_text 19 = .ok (.getfield 139, 3) := by decide +kernel
theorem dX5_text_22 : decode cX5_text 22 = .ok (.istore_n 2, 1) := by decide +kernel
theorem dX5_text_23 : decode cX5_text 23 = .ok (.aload_n 0, 1) := by decide +kernel
theorem dX5_text_24 : decode cX5_text 24 = .ok (.iload_n 1, 1) := by decide +kernel
theorem dX5_text_25 : decode cX5_text 25 = .ok (.putfield 139, 3) := by decide +kernel
theorem dX5_text_28 : decode cX5_text 28 = .ok (.iload_n 2, 1) := by decide +kernel
theorem dX5_text_29 : decode cX5_text 29 = .ok (.ireturn, 1) := by decide +kernel
set_option maxRecDepth 20000 in
theorem ggX5_days_X5_in : GoodIn wsX5_days wsX5_in := goodIn_r _ [7] rfl (by decide +kernel)
set_option maxRecDepth 20000 in
theorem gX5_days_X5_in : GoodIn wsX5_days (va_wsS RX5 84 yX5_in wsX5_in) := goodIn_app (goodIn_r _ [4, 5, 6] rfl (by decide +kernel)) ggX5_days_X5_in
theorem dX5_days_0 : decode cX5_days 0 = .ok (.aload_n 0, 1) := by decide +kernel
theorem dX5_days_1 : decode cX5_days 1 = .ok (.iconst 0, 1) := by decide +kernel
theorem dX5_days_2 : decode cX5_days 2 = .ok (.putfield 78, 3) := by decide +kernel
theorem dX5_days_5 : decode cX5_days 5 = .ok (.iload_n 1, 1) := by decide +kernel
theorem dX5_days_6 : decode cX5_days 6 = .ok (.i2l, 1) := by decide +kernel
theorem dX5_days_7 : decode cX5_days 7 = .ok (.lconst 1, 1) := by decide +kernel
theorem dX5_days_8 : decode cX5_days 8 = .ok (.ldc2_w 142, 3) := by decide +kernel
theorem dX5_days_11 : decode cX5_days 11 = .ok (.invokestatic 84, 3) := by decide +kernel
theorem dX5_days_14 : decode cX5_days 14 = .ok (.ifCond .ne 6, 3) := by decide +kernel
theorem dX5_days_17 : decode cX5_days 17 = .ok (.bipush (-2), 2) := by decide +kernel
theorem dX5_days_19 : decode cX5_days 19 = .ok (.ireturn, 1) := by decide +kernel
theorem dX5_days_20 : decode cX5_days 20 = .ok (.aload_n 0, 1) := by decide +kernel
theorem dX5_days_21 : decode cX5_days 21 = .ok (.getfield 50, 3) := by decide +kernel
theorem dX5_days_24 : decode cX5_days 24 = .ok (.bipush (-9), 2) := by decide +kernel
theorem dX5_days_26 : decode cX5_days 26 = .ok (.if_icmp .ne 6, 3) := by decide +kernel
theorem dX5_days_29 : decode cX5_days 29 = .ok (.bipush (-3), 2) := by decide +kernel
theorem dX5_days_31 : decode cX5_days 31 = .ok (.ireturn, 1) := by decide +kernel
theorem dX5_days_32 : decode cX5_days 32 = .ok (.aload_n 0, 1) := by decide +kernel
theorem dX5_days_33 : decode cX5_days 33 = .ok (.getfield 50, 3) := by decide +kernel
theorem dX5_days_36 : decode cX5_days 36 = .ok (.iload_n 1, 1) := by decide +kernel
theorem dX5_days_37 : decode cX5_days 37 = .ok (.iadd, 1) := by decide +kernel
theorem dX5_days_38 : decode cX5_days 38 = .ok (.sipush 363, 3) := by decide +kernel
theorem dX5_days_41 : decode cX5_days 41 = .ok (.if_icmp .le 6, 3) := by decide +kernel
theorem dX5_days_44 : decode cX5_days 44 = .ok (.bipush (-4), 2) := by decide +kernel
theorem dX5_days_46 : decode cX5_days 46 = .ok (.ireturn, 1) := by decide +kernel
theorem dX5_days_47 : decode cX5_days 47 = .ok (.aload_n 0, 1) := by decide +kernel
theorem dX5_days_48 : decode cX5_days 48 = .ok (.dup, 1) := by decide +kernel
theorem dX5_days_49 : decode cX5_days 49 = .ok (.getfield 50, 3) := by decide +kernel
theorem dX5_days_52 : decode cX5_days 52 = .ok (.iload_n 1, 1) := by decide +kernel
theorem dX5_days_53 : decode cX5_days 53 = .ok (.iadd, 1) := by decide +kernel
theorem dX5_days_54 : decode cX5_days 54 = .ok (.putfield 50, 3) := by decide +kernel
theorem dX5_days_57 : decode cX5_days 57 = .ok (.aload_n 0, 1) := by decide +kernel
theorem dX5_days_58 : decode cX5_days 58 = .ok (.getfield 50, 3) := by decide +kernel
theorem dX5_days_61 : decode cX5_days 61 = .ok (.ireturn, 1) := by decide +kernel
theorem dX5_serves_0 : decode cX5_serves 0 = .ok (.aload_n 0, 1) := by decide +kernel
theorem dX5_serves_1 : decode cX5_serves 1 = .ok (.getfield 35, 3) := by decide +kernel
theorem dX5_serves_4 : decode cX5_serves 4 = .ok (.iload_n 1, 1) := by decide +kernel
theorem dX5_serves_5 : decode cX5_serves 5 = .ok (.iaload, 1) := by decide +kernel
theorem dX5_serves_6 : decode cX5_serves 6 = .ok (.bipush (-9), 2) := by decide +kernel
theorem dX5_serves_8 : decode cX5_serves 8 = .ok (.if_icmp .eq 17, 3) := by decide +kernel
theorem dX5_serves_11 : decode cX5_serves 11 = .ok (.iload_n 2, 1) := by decide +kernel
theorem dX5_serves_12 : decode cX5_serves 12 = .ok (.aload_n 0, 1) := by decide +kernel
theorem dX5_serves_13 : decode cX5_serves 13 = .ok (.getfield 54, 3) := by decide +kernel
theorem dX5_serves_16 : decode cX5_serves 16 = .ok (.iload_n 1, 1) := by decide +kernel
theorem dX5_serves_17 : decode cX5_serves 17 = .ok (.iaload, 1) := by decide +kernel
theorem dX5_serves_18 : decode cX5_serves 18 = .ok (.if_icmp .gt 7, 3) := by decide +kernel
theorem dX5_serves_21 : decode cX5_serves 21 = .ok (.iconst 1, 1) := by decide +kernel
theorem dX5_serves_22 : decode cX5_serves 22 = .ok (.goto 4, 3) := by decide +kernel
theorem dX5_serves_25 : decode cX5_serves 25 = .ok (.iconst 0, 1) := by decide +kernel
theorem dX5_serves_26 : decode cX5_serves 26 = .ok (.ireturn, 1) := by decide +kernel
set_option maxRecDepth 20000 in
theorem ggX5_sick_X5_noServant : GoodIn wsX5_sick wsX5_noServant := goodIn_r _ [9, 10, 11, 12, 8, 13, 20, 21, 22, 23, 24, 25, 26, 27, 28, 29, 30, 31, 32, 33, 34, 35, 36, 37, 38, 39, 40, 41, 42, 43, 44, 45, 46, 47] rfl (by decide +kernel)
set_option maxRecDepth 20000 in
theorem gX5_sick_X5_noServant : GoodIn wsX5_sick (wsV RX5 106 RX5 yX5_noServant wsX5_noServant) := goodIn_app (goodIn_r _ [5, 6, 7, 8] rfl (by decide +kernel)) ggX5_sick_X5_noServant
set_option maxRecDepth 20000 in
theorem ggX5_sick_X5_in : GoodIn wsX5_sick wsX5_in := goodIn_r _ [13] rfl (by decide +kernel)
set_option maxRecDepth 20000 in
theorem gX5_sick_X5_in : GoodIn wsX5_sick (va_wsS RX5 84 yX5_in wsX5_in) := goodIn_app (goodIn_r _ [11, 12, 8] rfl (by decide +kernel)) ggX5_sick_X5_in
set_option maxRecDepth 20000 in
theorem ggX5_sick_X5_serves : GoodIn wsX5_sick wsX5_serves := goodIn_r _ [17, 18, 19, 20, 21, 22, 23, 24, 25, 26, 27, 28, 29, 30, 31, 32, 33, 34, 35, 36, 37, 38, 39, 40, 41, 42, 43, 44, 45, 46, 47] rfl (by decide +kernel)
set_option maxRecDepth 20000 in
theorem gX5_sick_X5_serves : GoodIn wsX5_sick (wsV RX5 144 RX5 yX5_serves wsX5_serves) := goodIn_app (goodIn_r _ [14, 15, 16, 8] rfl (by decide +kernel)) ggX5_sick_X5_serves
theorem dX5_sick_0 : decode cX5_sick 0 = .ok (.aload_n 0, 1) := by decide +kernel
theorem dX5_sick_1 : decode cX5_sick 1 = .ok (.iconst 0, 1) := by decide +kernel
theorem dX5_sick_2 : decode cX5_sick 2 = .ok (.putfield 78, 3) := by decide +kernel
theorem dX5_sick_5 : decode cX5_sick 5 = .ok (.aload_n 0, 1) := by decide +kernel
theorem dX5_sick_6 : decode cX5_sick 6 = .ok (.iload_n 1, 1) := by decide +kernel
theorem dX5_sick_7 : decode cX5_sick 7 = .ok (.invokevirtual 106, 3) := by decide +kernel
theorem dX5_sick_10 : decode cX5_sick 10 = .ok (.ifCond .eq 5, 3) := by decide +kernel
theorem dX5_sick_13 : decode cX5_sick 13 = .ok (.iconst (-1), 1) := by decide +kernel
theorem dX5_sick_14 : decode cX5_sick 14 = .ok (.ireturn, 1) := by decide +kernel
theorem dX5_sick_15 : decode cX5_sick 15 = .ok (.iload_n 2, 1) := by decide +kernel
theorem dX5_sick_16 : decode cX5_sick 16 = .ok (.i2l, 1) := by decide +kernel
theorem dX5_sick_17 : decode cX5_sick 17 = .ok (.lconst 1, 1) := by decide +kernel
theorem dX5_sick_18 : decode cX5_sick 18 = .ok (.ldc2_w 142, 3) := by decide +kernel
theorem dX5_sick_21 : decode cX5_sick 21 = .ok (.invokestatic 84, 3) := by decide +kernel
theorem dX5_sick_24 : decode cX5_sick 24 = .ok (.ifCond .ne 6, 3) := by decide +kernel
theorem dX5_sick_27 : decode cX5_sick 27 = .ok (.bipush (-2), 2) := by decide +kernel
theorem dX5_sick_29 : decode cX5_sick 29 = .ok (.ireturn, 1) := by decide +kernel
theorem dX5_sick_30 : decode cX5_sick 30 = .ok (.aload_n 0, 1) := by decide +kernel
theorem dX5_sick_31 : decode cX5_sick 31 = .ok (.getfield 50, 3) := by decide +kernel
theorem dX5_sick_34 : decode cX5_sick 34 = .ok (.bipush (-9), 2) := by decide +kernel
theorem dX5_sick_36 : decode cX5_sick 36 = .ok (.if_icmp .eq 15, 3) := by decide +kernel
theorem dX5_sick_39 : decode cX5_sick 39 = .ok (.aload_n 0, 1) := by decide +kernel
theorem dX5_sick_40 : decode cX5_sick 40 = .ok (.iload_n 1, 1) := by decide +kernel
theorem dX5_sick_41 : decode cX5_sick 41 = .ok (.aload_n 0, 1) := by decide +kernel
theorem dX5_sick_42 : decode cX5_sick 42 = .ok (.getfield 50, 3) := by decide +kernel
theorem dX5_sick_45 : decode cX5_sick 45 = .ok (.invokevirtual 144, 3) := by decide +kernel
theorem dX5_sick_48 : decode cX5_sick 48 = .ok (.ifCond .ne 6, 3) := by decide +kernel
theorem dX5_sick_51 : decode cX5_sick 51 = .ok (.bipush (-3), 2) := by decide +kernel
theorem dX5_sick_53 : decode cX5_sick 53 = .ok (.ireturn, 1) := by decide +kernel
theorem dX5_sick_54 : decode cX5_sick 54 = .ok (.iconst 0, 1) := by decide +kernel
theorem dX5_sick_55 : decode cX5_sick 55 = .ok (.istore_n 3, 1) := by decide +kernel
theorem dX5_sick_56 : decode cX5_sick 56 = .ok (.iconst 0, 1) := by decide +kernel
theorem dX5_sick_57 : decode cX5_sick 57 = .ok (.istore 4, 2) := by decide +kernel
theorem dX5_sick_59 : decode cX5_sick 59 = .ok (.iload 4, 2) := by decide +kernel
theorem dX5_sick_61 : decode cX5_sick 61 = .ok (.sipush 363, 3) := by decide +kernel
theorem dX5_sick_64 : decode cX5_sick 64 = .ok (.if_icmp .gt 87, 3) := by decide +kernel
theorem dX5_sick_67 : decode cX5_sick 67 = .ok (.aload_n 0, 1) := by decide +kernel
theorem dX5_sick_68 : decode cX5_sick 68 = .ok (.getfield 63, 3) := by decide +kernel
theorem dX5_sick_71 : decode cX5_sick 71 = .ok (.sipush 364, 3) := by decide +kernel
theorem dX5_sick_74 : decode cX5_sick 74 = .ok (.iload_n 1, 1) := by decide +kernel
theorem dX5_sick_75 : decode cX5_sick 75 = .ok (.imul, 1) := by decide +kernel
theorem dX5_sick_76 : decode cX5_sick 76 = .ok (.iload 4, 2) := by decide +kernel
theorem dX5_sick_78 : decode cX5_sick 78 = .ok (.iadd, 1) := by decide +kernel
theorem dX5_sick_79 : decode cX5_sick 79 = .ok (.aload_n 0, 1) := by decide +kernel
theorem dX5_sick_80 : decode cX5_sick 80 = .ok (.getfield 63, 3) := by decide +kernel
theorem dX5_sick_83 : decode cX5_sick 83 = .ok (.sipush 364, 3) := by decide +kernel
theorem dX5_sick_86 : decode cX5_sick 86 = .ok (.iload_n 1, 1) := by decide +kernel
theorem dX5_sick_87 : decode cX5_sick 87 = .ok (.imul, 1) := by decide +kernel
theorem dX5_sick_88 : decode cX5_sick 88 = .ok (.iload 4, 2) := by decide +kernel
theorem dX5_sick_90 : decode cX5_sick 90 = .ok (.iadd, 1) := by decide +kernel
theorem dX5_sick_91 : decode cX5_sick 91 = .ok (.baload, 1) := by decide +kernel
theorem dX5_sick_92 : decode cX5_sick 92 = .ok (.ifCond .ne 23, 3) := by decide +kernel
theorem dX5_sick_95 : decode cX5_sick 95 = .ok (.iload 4, 2) := by decide +kernel
theorem dX5_sick_97 : decode cX5_sick 97 = .ok (.aload_n 0, 1) := by decide +kernel
theorem dX5_sick_98 : decode cX5_sick 98 = .ok (.getfield 50, 3) := by decide +kernel
theorem dX5_sick_101 : decode cX5_sick 101 = .ok (.if_icmp .lt 18, 3) := by decide +kernel
theorem dX5_sick_104 : decode cX5_sick 104 = .ok (.iload 4, 2) := by decide +kernel
theorem dX5_sick_106 : decode cX5_sick 106 = .ok (.aload_n 0, 1) := by decide +kernel
theorem dX5_sick_107 : decode cX5_sick 107 = .ok (.getfield 50, 3) := by decide +kernel
theorem dX5_sick_110 : decode cX5_sick 110 = .ok (.iload_n 2, 1) := by decide +kernel
theorem dX5_sick_111 : decode cX5_sick 111 = .ok (.iadd, 1) := by decide +kernel
theorem dX5_sick_112 : decode cX5_sick 112 = .ok (.if_icmp .ge 7, 3) := by decide +kernel
theorem dX5_sick_115 : decode cX5_sick 115 = .ok (.iconst 1, 1) := by decide +kernel
theorem dX5_sick_116 : decode cX5_sick 116 = .ok (.goto 4, 3) := by decide +kernel
theorem dX5_sick_119 : decode cX5_sick 119 = .ok (.iconst 0, 1) := by decide +kernel
theorem dX5_sick_120 : decode cX5_sick 120 = .ok (.bastore, 1) := by decide +kernel
theorem dX5_sick_121 : decode cX5_sick 121 = .ok (.iload_n 3, 1) := by decide +kernel
theorem dX5_sick_122 : decode cX5_sick 122 = .ok (.aload_n 0, 1) := by decide +kernel
theorem dX5_sick_123 : decode cX5_sick 123 = .ok (.getfield 63, 3) := by decide +kernel
theorem dX5_sick_126 : decode cX5_sick 126 = .ok (.sipush 364, 3) := by decide +kernel
theorem dX5_sick_129 : decode cX5_sick 129 = .ok (.iload_n 1, 1) := by decide +kernel
theorem dX5_sick_130 : decode cX5_sick 130 = .ok (.imul, 1) := by decide +kernel
theorem dX5_sick_131 : decode cX5_sick 131 = .ok (.iload 4, 2) := by decide +kernel
theorem dX5_sick_133 : decode cX5_sick 133 = .ok (.iadd, 1) := by decide +kernel
theorem dX5_sick_134 : decode cX5_sick 134 = .ok (.baload, 1) := by decide +kernel
theorem dX5_sick_135 : decode cX5_sick 135 = .ok (.ifCond .eq 7, 3) := by decide +kernel
theorem dX5_sick_138 : decode cX5_sick 138 = .ok (.iconst 1, 1) := by decide +kernel
theorem dX5_sick_139 : decode cX5_sick 139 = .ok (.goto 4, 3) := by decide +kernel
theorem dX5_sick_142 : decode cX5_sick 142 = .ok (.iconst 0, 1) := by decide +kernel
theorem dX5_sick_143 : decode cX5_sick 143 = .ok (.iadd, 1) := by decide +kernel
theorem dX5_sick_144 : decode cX5_sick 144 = .ok (.istore_n 3, 1) := by decide +kernel
theorem dX5_sick_145 : decode cX5_sick 145 = .ok (.iinc 4 1, 3) := by decide +kernel
theorem dX5_sick_148 : decode cX5_sick 148 = .ok (.goto (-89), 3) := by decide +kernel
theorem dX5_sick_151 : decode cX5_sick 151 = .ok (.iload_n 3, 1) := by decide +kernel
theorem dX5_sick_152 : decode cX5_sick 152 = .ok (.ireturn, 1) := by decide +kernel
set_option maxRecDepth 20000 in
theorem ggX5_warn_X5_noServant : GoodIn wsX5_warn wsX5_noServant := goodIn_r _ [9, 10, 11, 12, 8, 13, 19, 20, 21, 22, 23, 24, 25, 26, 27, 28, 29, 30, 31, 32, 33, 34, 35, 36, 37, 38, 39, 40, 41, 42, 43, 44, 45, 46] rfl (by decide +kernel)
set_option maxRecDepth 20000 in
theorem gX5_warn_X5_noServant : GoodIn wsX5_warn (wsV RX5 106 RX5 yX5_noServant wsX5_noServant) := goodIn_app (goodIn_r _ [5, 6, 7, 8] rfl (by decide +kernel)) ggX5_warn_X5_noServant
set_option maxRecDepth 20000 in
theorem ggX5_warn_X5_serves : GoodIn wsX5_warn wsX5_serves := goodIn_r _ [17, 18, 4, 19, 20, 21, 22, 23, 24, 25, 26, 27, 28, 29, 30, 31, 32, 33, 34, 35, 36, 37, 38, 39, 40, 41, 42, 43, 44, 45, 46] rfl (by decide +kernel)
set_option maxRecDepth 20000 in
theorem gX5_warn_X5_serves : GoodIn wsX5_warn (wsV RX5 144 RX5 yX5_serves wsX5_serves) := goodIn_app (goodIn_r _ [14, 15, 16, 8] rfl (by decide +kernel)) ggX5_warn_X5_serves
theorem dX5_warn_0 : decode cX5_warn 0 = .ok (.aload_n 0, 1) := by decide +kernel
theorem dX5_warn_1 : decode cX5_warn 1 = .ok (.iconst 0, 1) := by decide +kernel
theorem dX5_warn_2 : decode cX5_warn 2 = .ok (.putfield 78, 3) := by decide +kernel
theorem dX5_warn_5 : decode cX5_warn 5 = .ok (.aload_n 0, 1) := by decide +kernel
theorem dX5_warn_6 : decode cX5_warn 6 = .ok (.iload_n 1, 1) := by decide +kernel
theorem dX5_warn_7 : decode cX5_warn 7 = .ok (.invokevirtual 106, 3) := by decide +kernel
theorem dX5_warn_10 : decode cX5_warn 10 = .ok (.ifCond .eq 5, 3) := by decide +kernel
theorem dX5_warn_13 : decode cX5_warn 13 = .ok (.iconst (-1), 1) := by decide +kernel
theorem dX5_warn_14 : decode cX5_warn 14 = .ok (.ireturn, 1) := by decide +kernel
theorem dX5_warn_15 : decode cX5_warn 15 = .ok (.aload_n 0, 1) := by decide +kernel
theorem dX5_warn_16 : decode cX5_warn 16 = .ok (.getfield 50, 3) := by decide +kernel
theorem dX5_warn_19 : decode cX5_warn 19 = .ok (.bipush (-9), 2) := by decide +kernel
theorem dX5_warn_21 : decode cX5_warn 21 = .ok (.if_icmp .eq 24, 3) := by decide +kernel
theorem dX5_warn_24 : decode cX5_warn 24 = .ok (.aload_n 0, 1) := by decide +kernel
theorem dX5_warn_25 : decode cX5_warn 25 = .ok (.iload_n 1, 1) := by decide +kernel
theorem dX5_warn_26 : decode cX5_warn 26 = .ok (.aload_n 0, 1) := by decide +kernel
theorem dX5_warn_27 : decode cX5_warn 27 = .ok (.getfield 50, 3) := by decide +kernel
theorem dX5_warn_30 : decode cX5_warn 30 = .ok (.invokevirtual 144, 3) := by decide +kernel
theorem dX5_warn_33 : decode cX5_warn 33 = .ok (.ifCond .eq 12, 3) := by decide +kernel
theorem dX5_warn_36 : decode cX5_warn 36 = .ok (.aload_n 0, 1) := by decide +kernel
theorem dX5_warn_37 : decode cX5_warn 37 = .ok (.getfield 57, 3) := by decide +kernel
theorem dX5_warn_40 : decode cX5_warn 40 = .ok (.iload_n 1, 1) := by decide +kernel
theorem dX5_warn_41 : decode cX5_warn 41 = .ok (.baload, 1) := by decide +kernel
theorem dX5_warn_42 : decode cX5_warn 42 = .ok (.ifCond .eq 6, 3) := by decide +kernel
theorem dX5_warn_45 : decode cX5_warn 45 = .ok (.bipush (-3), 2) := by decide +kernel
theorem dX5_warn_47 : decode cX5_warn 47 = .ok (.ireturn, 1) := by decide +kernel
theorem dX5_warn_48 : decode cX5_warn 48 = .ok (.aload_n 0, 1) := by decide +kernel
theorem dX5_warn_49 : decode cX5_warn 49 = .ok (.getfield 57, 3) := by decide +kernel
theorem dX5_warn_52 : decode cX5_warn 52 = .ok (.iload_n 1, 1) := by decide +kernel
theorem dX5_warn_53 : decode cX5_warn 53 = .ok (.iconst 1, 1) := by decide +kernel
theorem dX5_warn_54 : decode cX5_warn 54 = .ok (.bastore, 1) := by decide +kernel
theorem dX5_warn_55 : decode cX5_warn 55 = .ok (.aload_n 0, 1) := by decide +kernel
theorem dX5_warn_56 : decode cX5_warn 56 = .ok (.getfield 54, 3) := by decide +kernel
theorem dX5_warn_59 : decode cX5_warn 59 = .ok (.iload_n 1, 1) := by decide +kernel
theorem dX5_warn_60 : decode cX5_warn 60 = .ok (.aload_n 0, 1) := by decide +kernel
theorem dX5_warn_61 : decode cX5_warn 61 = .ok (.getfield 50, 3) := by decide +kernel
theorem dX5_warn_64 : decode cX5_warn 64 = .ok (.bipush 27, 2) := by decide +kernel
theorem dX5_warn_66 : decode cX5_warn 66 = .ok (.iadd, 1) := by decide +kernel
theorem dX5_warn_67 : decode cX5_warn 67 = .ok (.sipush 363, 3) := by decide +kernel
theorem dX5_warn_70 : decode cX5_warn 70 = .ok (.if_icmp .le 9, 3) := by decide +kernel
theorem dX5_warn_73 : decode cX5_warn 73 = .ok (.sipush 363, 3) := by decide +kernel
theorem dX5_warn_76 : decode cX5_warn 76 = .ok (.goto 10, 3) := by decide +kernel
theorem dX5_warn_79 : decode cX5_warn 79 = .ok (.aload_n 0, 1) := by decide +kernel
theorem dX5_warn_80 : decode cX5_warn 80 = .ok (.getfield 50, 3) := by decide +kernel
theorem dX5_warn_83 : decode cX5_warn 83 = .ok (.bipush 27, 2) := by decide +kernel
theorem dX5_warn_85 : decode cX5_warn 85 = .ok (.iadd, 1) := by decide +kernel
theorem dX5_warn_86 : decode cX5_warn 86 = .ok (.iastore, 1) := by decide +kernel
theorem dX5_warn_87 : decode cX5_warn 87 = .ok (.aload_n 0, 1) := by decide +kernel
theorem dX5_warn_88 : decode cX5_warn 88 = .ok (.getfield 54, 3) := by decide +kernel
theorem dX5_warn_91 : decode cX5_warn 91 = .ok (.iload_n 1, 1) := by decide +kernel
theorem dX5_warn_92 : decode cX5_warn 92 = .ok (.iaload, 1) := by decide +kernel
theorem dX5_warn_93 : decode cX5_warn 93 = .ok (.ireturn, 1) := by decide +kernel
set_option maxRecDepth 20000 in
theorem ggX5_run_X5_noServant : GoodIn wsX5_run wsX5_noServant := goodIn_r _ [10, 11, 12, 13, 9, 14, 20, 21, 22, 23, 24, 25, 26, 27, 28, 29, 30, 31, 32, 33, 34, 35, 36, 37, 38, 39, 40, 41, 42, 43, 44, 45, 46, 47] rfl (by decide +kernel)
set_option maxRecDepth 20000 in
theorem gX5_run_X5_noServant : GoodIn wsX5_run (wsV RX5 106 RX5 yX5_noServant wsX5_noServant) := goodIn_app (goodIn_r _ [6, 7, 8, 9] rfl (by decide +kernel)) ggX5_run_X5_noServant
set_option maxRecDepth 20000 in
theorem ggX5_run_X5_serves : GoodIn wsX5_run wsX5_serves := goodIn_r _ [18, 19, 3, 20, 21, 22, 23, 24, 25, 26, 27, 28, 29, 30, 31, 32, 33, 34, 35, 36, 37, 38, 39, 40, 41, 42, 43, 44, 45, 46, 47] rfl (by decide +kernel)
set_option maxRecDepth 20000 in
theorem gX5_run_X5_serves : GoodIn wsX5_run (wsV RX5 144 RX5 yX5_serves wsX5_serves) := goodIn_app (goodIn_r _ [15, 16, 17, 9] rfl (by decide +kernel)) ggX5_run_X5_serves
theorem dX5_run_0 : decode cX5_run 0 = .ok (.aload_n 0, 1) := by decide +kernel
theorem dX5_run_1 : decode cX5_run 1 = .ok (.iconst 0, 1) := by decide +kernel
theorem dX5_run_2 : decode cX5_run 2 = .ok (.putfield 78, 3) := by decide +kernel
theorem dX5_run_5 : decode cX5_run 5 = .ok (.aload_n 0, 1) := by decide +kernel
theorem dX5_run_6 : decode cX5_run 6 = .ok (.iload_n 1, 1) := by decide +kernel
theorem dX5_run_7 : decode cX5_run 7 = .ok (.invokevirtual 106, 3) := by decide +kernel
theorem dX5_run_10 : decode cX5_run 10 = .ok (.ifCond .eq 5, 3) := by decide +kernel
theorem dX5_run_13 : decode cX5_run 13 = .ok (.iconst (-1), 1) := by decide +kernel
theorem dX5_run_14 : decode cX5_run 14 = .ok (.ireturn, 1) := by decide +kernel
theorem dX5_run_15 : decode cX5_run 15 = .ok (.aload_n 0, 1) := by decide +kernel
theorem dX5_run_16 : decode cX5_run 16 = .ok (.getfield 50, 3) := by decide +kernel
theorem dX5_run_19 : decode cX5_run 19 = .ok (.bipush (-9), 2) := by decide +kernel
theorem dX5_run_21 : decode cX5_run 21 = .ok (.if_icmp .eq 15, 3) := by decide +kernel
theorem dX5_run_24 : decode cX5_run 24 = .ok (.aload_n 0, 1) := by decide +kernel
theorem dX5_run_25 : decode cX5_run 25 = .ok (.iload_n 1, 1) := by decide +kernel
theorem dX5_run_26 : decode cX5_run 26 = .ok (.aload_n 0, 1) := by decide +kernel
theorem dX5_run_27 : decode cX5_run 27 = .ok (.getfield 50, 3) := by decide +kernel
theorem dX5_run_30 : decode cX5_run 30 = .ok (.invokevirtual 144, 3) := by decide +kernel
theorem dX5_run_33 : decode cX5_run 33 = .ok (.ifCond .ne 6, 3) := by decide +kernel
theorem dX5_run_36 : decode cX5_run 36 = .ok (.bipush (-3), 2) := by decide +kernel
theorem dX5_run_38 : decode cX5_run 38 = .ok (.ireturn, 1) := by decide +kernel
theorem dX5_run_39 : decode cX5_run 39 = .ok (.aload_n 0, 1) := by decide +kernel
theorem dX5_run_40 : decode cX5_run 40 = .ok (.getfield 54, 3) := by decide +kernel
theorem dX5_run_43 : decode cX5_run 43 = .ok (.iload_n 1, 1) := by decide +kernel
theorem dX5_run_44 : decode cX5_run 44 = .ok (.aload_n 0, 1) := by decide +kernel
theorem dX5_run_45 : decode cX5_run 45 = .ok (.getfield 50, 3) := by decide +kernel
theorem dX5_run_48 : decode cX5_run 48 = .ok (.iconst 1, 1) := by decide +kernel
theorem dX5_run_49 : decode cX5_run 49 = .ok (.isub, 1) := by decide +kernel
theorem dX5_run_50 : decode cX5_run 50 = .ok (.iastore, 1) := by decide +kernel
theorem dX5_run_51 : decode cX5_run 51 = .ok (.aload_n 0, 1) := by decide +kernel
theorem dX5_run_52 : decode cX5_run 52 = .ok (.getfield 60, 3) := by decide +kernel
theorem dX5_run_55 : decode cX5_run 55 = .ok (.iload_n 1, 1) := by decide +kernel
theorem dX5_run_56 : decode cX5_run 56 = .ok (.aload_n 0, 1) := by decide +kernel
theorem dX5_run_57 : decode cX5_run 57 = .ok (.getfield 139, 3) := by decide +kernel
theorem dX5_run_60 : decode cX5_run 60 = .ok (.ifCond .ne 7, 3) := by decide +kernel
theorem dX5_run_63 : decode cX5_run 63 = .ok (.iconst 1, 1) := by decide +kernel
theorem dX5_run_64 : decode cX5_run 64 = .ok (.goto 4, 3) := by decide +kernel
theorem dX5_run_67 : decode cX5_run 67 = .ok (.iconst 0, 1) := by decide +kernel
theorem dX5_run_68 : decode cX5_run 68 = .ok (.bastore, 1) := by decide +kernel
theorem dX5_run_69 : decode cX5_run 69 = .ok (.aload_n 0, 1) := by decide +kernel
theorem dX5_run_70 : decode cX5_run 70 = .ok (.getfield 54, 3) := by decide +kernel
theorem dX5_run_73 : decode cX5_run 73 = .ok (.iload_n 1, 1) := by decide +kernel
theorem dX5_run_74 : decode cX5_run 74 = .ok (.iaload, 1) := by decide +kernel
theorem dX5_run_75 : decode cX5_run 75 = .ok (.ireturn, 1) := by decide +kernel
set_option maxRecDepth 20000 in
theorem ggX5_send_X5_noServant : GoodIn wsX5_send wsX5_noServant := goodIn_r _ [10, 11, 12, 13, 9, 14, 24, 25, 26, 27, 28, 29, 30, 31, 32, 33, 34, 35, 36, 37, 38, 39, 40, 41, 42, 43, 44, 45, 46, 47, 48, 49, 50, 51] rfl (by decide +kernel)
set_option maxRecDepth 20000 in
theorem gX5_send_X5_noServant : GoodIn wsX5_send (wsV RX5 106 RX5 yX5_noServant wsX5_noServant) := goodIn_app (goodIn_r _ [6, 7, 8, 9] rfl (by decide +kernel)) ggX5_send_X5_noServant
set_option maxRecDepth 20000 in
theorem ggX5_send_X5_serves : GoodIn wsX5_send wsX5_serves := goodIn_r _ [18, 3, 5, 24, 25, 26, 27, 28, 29, 30, 31, 32, 33, 34, 35, 36, 37, 38, 39, 40, 41, 42, 43, 44, 45, 46, 47, 48, 49, 50, 51] rfl (by decide +kernel)
set_option maxRecDepth 20000 in
theorem gX5_send_X5_serves : GoodIn wsX5_send (wsV RX5 144 RX5 yX5_serves wsX5_serves) := goodIn_app (goodIn_r _ [15, 16, 17, 9] rfl (by decide +kernel)) ggX5_send_X5_serves
set_option maxRecDepth 20000 in
theorem ggX5_send_X5_held : GoodIn wsX5_send wsX5_held := goodIn_r _ [22, 23, 24, 25, 26, 27, 28, 29, 30, 31, 32, 33, 34, 35, 36, 37, 38, 39, 40, 41, 42, 43, 44, 45, 46, 47, 48, 49, 50, 51] rfl (by decide +kernel)
set_option maxRecDepth 20000 in
theorem gX5_send_X5_held : GoodIn wsX5_send (wsV RX5 91 RX5 yX5_held wsX5_held) := goodIn_app (goodIn_r _ [19, 20, 21, 9] rfl (by decide +kernel)) ggX5_send_X5_held
theorem dX5_send_0 : decode cX5_send 0 = .ok (.aload_n 0, 1) := by decide +kernel
theorem dX5_send_1 : decode cX5_send 1 = .ok (.iconst 0, 1) := by decide +kernel
theorem dX5_send_2 : decode cX5_send 2 = .ok (.putfield 78, 3) := by decide +kernel
theorem dX5_send_5 : decode cX5_send 5 = .ok (.aload_n 0, 1) := by decide +kernel
theorem dX5_send_6 : decode cX5_send 6 = .ok (.iload_n 1, 1) := by decide +kernel
theorem dX5_send_7 : decode cX5_send 7 = .ok (.invokevirtual 106, 3) := by decide +kernel
theorem dX5_send_10 : decode cX5_send 10 = .ok (.ifCond .eq 5, 3) := by decide +kernel
theorem dX5_send_13 : decode cX5_send 13 = .ok (.iconst (-1), 1) := by decide +kernel
theorem dX5_send_14 : decode cX5_send 14 = .ok (.ireturn, 1) := by decide +kernel
theorem dX5_send_15 : decode cX5_send 15 = .ok (.aload_n 0, 1) := by decide +kernel
theorem dX5_send_16 : decode cX5_send 16 = .ok (.getfield 50, 3) := by decide +kernel
theorem dX5_send_19 : decode cX5_send 19 = .ok (.bipush (-9), 2) := by decide +kernel
theorem dX5_send_21 : decode cX5_send 21 = .ok (.if_icmp .eq 35, 3) := by decide +kernel
theorem dX5_send_24 : decode cX5_send 24 = .ok (.aload_n 0, 1) := by decide +kernel
theorem dX5_send_25 : decode cX5_send 25 = .ok (.iload_n 1, 1) := by decide +kernel
theorem dX5_send_26 : decode cX5_send 26 = .ok (.aload_n 0, 1) := by decide +kernel
theorem dX5_send_27 : decode cX5_send 27 = .ok (.getfield 50, 3) := by decide +kernel
theorem dX5_send_30 : decode cX5_send 30 = .ok (.invokevirtual 144, 3) := by decide +kernel
theorem dX5_send_33 : decode cX5_send 33 = .ok (.ifCond .eq 23, 3) := by decide +kernel
theorem dX5_send_36 : decode cX5_send 36 = .ok (.aload_n 0, 1) := by decide +kernel
theorem dX5_send_37 : decode cX5_send 37 = .ok (.aload_n 0, 1) := by decide +kernel
theorem dX5_send_38 : decode cX5_send 38 = .ok (.getfield 35, 3) := by decide +kernel
theorem dX5_send_41 : decode cX5_send 41 = .ok (.iload_n 1, 1) := by decide +kernel
theorem dX5_send_42 : decode cX5_send 42 = .ok (.iaload, 1) := by decide +kernel
theorem dX5_send_43 : decode cX5_send 43 = .ok (.iload_n 1, 1) := by decide +kernel
theorem dX5_send_44 : decode cX5_send 44 = .ok (.invokevirtual 91, 3) := by decide +kernel
theorem dX5_send_47 : decode cX5_send 47 = .ok (.aload_n 0, 1) := by decide +kernel
theorem dX5_send_48 : decode cX5_send 48 = .ok (.getfield 13, 3) := by decide +kernel
theorem dX5_send_51 : decode cX5_send 51 = .ok (.iload_n 1, 1) := by decide +kernel
theorem dX5_send_52 : decode cX5_send 52 = .ok (.iaload, 1) := by decide +kernel
theorem dX5_send_53 : decode cX5_send 53 = .ok (.if_icmp .gt 6, 3) := by decide +kernel
theorem dX5_send_56 : decode cX5_send 56 = .ok (.bipush (-3), 2) := by decide +kernel
theorem dX5_send_58 : decode cX5_send 58 = .ok (.ireturn, 1) := by decide +kernel
theorem dX5_send_59 : decode cX5_send 59 = .ok (.aload_n 0, 1) := by decide +kernel
theorem dX5_send_60 : decode cX5_send 60 = .ok (.getfield 54, 3) := by decide +kernel
theorem dX5_send_63 : decode cX5_send 63 = .ok (.iload_n 1, 1) := by decide +kernel
theorem dX5_send_64 : decode cX5_send 64 = .ok (.aload_n 0, 1) := by decide +kernel
theorem dX5_send_65 : decode cX5_send 65 = .ok (.getfield 50, 3) := by decide +kernel
theorem dX5_send_68 : decode cX5_send 68 = .ok (.iconst 1, 1) := by decide +kernel
theorem dX5_send_69 : decode cX5_send 69 = .ok (.isub, 1) := by decide +kernel
theorem dX5_send_70 : decode cX5_send 70 = .ok (.iastore, 1) := by decide +kernel
theorem dX5_send_71 : decode cX5_send 71 = .ok (.aload_n 0, 1) := by decide +kernel
theorem dX5_send_72 : decode cX5_send 72 = .ok (.getfield 54, 3) := by decide +kernel
theorem dX5_send_75 : decode cX5_send 75 = .ok (.iload_n 1, 1) := by decide +kernel
theorem dX5_send_76 : decode cX5_send 76 = .ok (.iaload, 1) := by decide +kernel
theorem dX5_send_77 : decode cX5_send 77 = .ok (.ireturn, 1) := by decide +kernel
theorem dX5_dueOf_0 : decode cX5_dueOf 0 = .ok (.iconst 0, 1) := by decide +kernel
theorem dX5_dueOf_1 : decode cX5_dueOf 1 = .ok (.istore_n 3, 1) := by decide +kernel
theorem dX5_dueOf_2 : decode cX5_dueOf 2 = .ok (.iconst 0, 1) := by decide +kernel
theorem dX5_dueOf_3 : decode cX5_dueOf 3 = .ok (.istore 4, 2) := by decide +kernel
theorem dX5_dueOf_5 : decode cX5_dueOf 5 = .ok (.iload 4, 2) := by decide +kernel
theorem dX5_dueOf_7 : decode cX5_dueOf 7 = .ok (.iload_n 2, 1) := by decide +kernel
theorem dX5_dueOf_8 : decode cX5_dueOf 8 = .ok (.if_icmp .gt 44, 3) := by decide +kernel
theorem dX5_dueOf_11 : decode cX5_dueOf 11 = .ok (.iload 4, 2) := by decide +kernel
theorem dX5_dueOf_13 : decode cX5_dueOf 13 = .ok (.aload_n 0, 1) := by decide +kernel
theorem dX5_dueOf_14 : decode cX5_dueOf 14 = .ok (.getfield 54, 3) := by decide +kernel
theorem dX5_dueOf_17 : decode cX5_dueOf 17 = .ok (.iload_n 1, 1) := by decide +kernel
theorem dX5_dueOf_18 : decode cX5_dueOf 18 = .ok (.iaload, 1) := by decide +kernel
theorem dX5_dueOf_19 : decode cX5_dueOf 19 = .ok (.if_icmp .gt 33, 3) := by decide +kernel
theorem dX5_dueOf_22 : decode cX5_dueOf 22 = .ok (.iload_n 3, 1) := by decide +kernel
theorem dX5_dueOf_23 : decode cX5_dueOf 23 = .ok (.aload_n 0, 1) := by decide +kernel
theorem dX5_dueOf_24 : decode cX5_dueOf 24 = .ok (.getfield 63, 3) := by decide +kernel
theorem dX5_dueOf_27 : decode cX5_dueOf 27 = .ok (.sipush 364, 3) := by decide +kernel
theorem dX5_dueOf_30 : decode cX5_dueOf 30 = .ok (.iload_n 1, 1) := by decide +kernel
theorem dX5_dueOf_31 : decode cX5_dueOf 31 = .ok (.imul, 1) := by decide +kernel
theorem dX5_dueOf_32 : decode cX5_dueOf 32 = .ok (.iload 4, 2) := by decide +kernel
theorem dX5_dueOf_34 : decode cX5_dueOf 34 = .ok (.iadd, 1) := by decide +kernel
theorem dX5_dueOf_35 : decode cX5_dueOf 35 = .ok (.baload, 1) := by decide +kernel
theorem dX5_dueOf_36 : decode cX5_dueOf 36 = .ok (.ifCond .eq 7, 3) := by decide +kernel
theorem dX5_dueOf_39 : decode cX5_dueOf 39 = .ok (.iconst 1, 1) := by decide +kernel
theorem dX5_dueOf_40 : decode cX5_dueOf 40 = .ok (.goto 4, 3) := by decide +kernel
theorem dX5_dueOf_43 : decode cX5_dueOf 43 = .ok (.iconst 2, 1) := by decide +kernel
theorem dX5_dueOf_44 : decode cX5_dueOf 44 = .ok (.iadd, 1) := by decide +kernel
theorem dX5_dueOf_45 : decode cX5_dueOf 45 = .ok (.istore_n 3, 1) := by decide +kernel
theorem dX5_dueOf_46 : decode cX5_dueOf 46 = .ok (.iinc 4 1, 3) := by decide +kernel
theorem dX5_dueOf_49 : decode cX5_dueOf 49 = .ok (.goto (-44), 3) := by decide +kernel
theorem dX5_dueOf_52 : decode cX5_dueOf 52 = .ok (.aload_n 0, 1) := by decide +kernel
theorem dX5_dueOf_53 : decode cX5_dueOf 53 = .ok (.getfield 60, 3) := by decide +kernel
theorem dX5_dueOf_56 : decode cX5_dueOf 56 = .ok (.iload_n 1, 1) := by decide +kernel
theorem dX5_dueOf_57 : decode cX5_dueOf 57 = .ok (.baload, 1) := by decide +kernel
theorem dX5_dueOf_58 : decode cX5_dueOf 58 = .ok (.ifCond .eq 7, 3) := by decide +kernel
theorem dX5_dueOf_61 : decode cX5_dueOf 61 = .ok (.iconst 0, 1) := by decide +kernel
theorem dX5_dueOf_62 : decode cX5_dueOf 62 = .ok (.goto 18, 3) := by decide +kernel
theorem dX5_dueOf_65 : decode cX5_dueOf 65 = .ok (.bipush 12, 2) := by decide +kernel
theorem dX5_dueOf_67 : decode cX5_dueOf 67 = .ok (.aload_n 0, 1) := by decide +kernel
theorem dX5_dueOf_68 : decode cX5_dueOf 68 = .ok (.getfield 38, 3) := by decide +kernel
theorem dX5_dueOf_71 : decode cX5_dueOf 71 = .ok (.iload_n 1, 1) := by decide +kernel
theorem dX5_dueOf_72 : decode cX5_dueOf 72 = .ok (.iaload, 1) := by decide +kernel
theorem dX5_dueOf_73 : decode cX5_dueOf 73 = .ok (.imul, 1) := by decide +kernel
theorem dX5_dueOf_74 : decode cX5_dueOf 74 = .ok (.iload_n 3, 1) := by decide +kernel
theorem dX5_dueOf_75 : decode cX5_dueOf 75 = .ok (.imul, 1) := by decide +kernel
theorem dX5_dueOf_76 : decode cX5_dueOf 76 = .ok (.sipush 728, 3) := by decide +kernel
theorem dX5_dueOf_79 : decode cX5_dueOf 79 = .ok (.idiv, 1) := by decide +kernel
theorem dX5_dueOf_80 : decode cX5_dueOf 80 = .ok (.ireturn, 1) := by decide +kernel
set_option maxRecDepth 20000 in
theorem ggX5_due_X5_noServant : GoodIn wsX5_due wsX5_noServant := goodIn_r _ [9, 10, 11, 12, 8, 13, 22, 23, 24, 25, 26, 27, 28, 29, 30, 31, 32, 33, 34, 35, 36, 37, 38, 39, 40, 41, 42, 43, 44, 45, 46, 47, 48, 49] rfl (by decide +kernel)
set_option maxRecDepth 20000 in
theorem gX5_due_X5_noServant : GoodIn wsX5_due (wsV RX5 106 RX5 yX5_noServant wsX5_noServant) := goodIn_app (goodIn_r _ [5, 6, 7, 8] rfl (by decide +kernel)) ggX5_due_X5_noServant
set_option maxRecDepth 20000 in
theorem ggX5_due_X5_in : GoodIn wsX5_due wsX5_in := goodIn_r _ [13] rfl (by decide +kernel)
set_option maxRecDepth 20000 in
theorem gX5_due_X5_in : GoodIn wsX5_due (va_wsS RX5 84 yX5_in wsX5_in) := goodIn_app (goodIn_r _ [11, 12, 8] rfl (by decide +kernel)) ggX5_due_X5_in
set_option maxRecDepth 20000 in
theorem ggX5_due_X5_dueOf : GoodIn wsX5_due wsX5_dueOf := goodIn_r _ [17, 18, 19, 20, 21, 22, 23, 24, 25, 26, 27, 28, 29, 30, 31, 32, 33, 34, 35, 36, 37, 38, 39, 40, 41, 42, 43, 44, 45, 46, 47, 48, 49] rfl (by decide +kernel)
set_option maxRecDepth 20000 in
theorem gX5_due_X5_dueOf : GoodIn wsX5_due (wsV RX5 148 RX5 yX5_dueOf wsX5_dueOf) := goodIn_app (goodIn_r _ [14, 15, 16, 8] rfl (by decide +kernel)) ggX5_due_X5_dueOf
theorem dX5_due_0 : decode cX5_due 0 = .ok (.aload_n 0, 1) := by decide +kernel
theorem dX5_due_1 : decode cX5_due 1 = .ok (.iconst 0, 1) := by decide +kernel
theorem dX5_due_2 : decode cX5_due 2 = .ok (.putfield 78, 3) := by decide +kernel
theorem dX5_due_5 : decode cX5_due 5 = .ok (.aload_n 0, 1) := by decide +kernel
theorem dX5_due_6 : decode cX5_due 6 = .ok (.iload_n 1, 1) := by decide +kernel
theorem dX5_due_7 : decode cX5_due 7 = .ok (.invokevirtual 106, 3) := by decide +kernel
theorem dX5_due_10 : decode cX5_due 10 = .ok (.ifCond .eq 5, 3) := by decide +kernel
theorem dX5_due_13 : decode cX5_due 13 = .ok (.iconst (-1), 1) := by decide +kernel
theorem dX5_due_14 : decode cX5_due 14 = .ok (.ireturn, 1) := by decide +kernel
theorem dX5_due_15 : decode cX5_due 15 = .ok (.iload_n 2, 1) := by decide +kernel
theorem dX5_due_16 : decode cX5_due 16 = .ok (.i2l, 1) := by decide +kernel
theorem dX5_due_17 : decode cX5_due 17 = .ok (.lconst 0, 1) := by decide +kernel
theorem dX5_due_18 : decode cX5_due 18 = .ok (.ldc2_w 142, 3) := by decide +kernel
theorem dX5_due_21 : decode cX5_due 21 = .ok (.invokestatic 84, 3) := by decide +kernel
theorem dX5_due_24 : decode cX5_due 24 = .ok (.ifCond .ne 6, 3) := by decide +kernel
theorem dX5_due_27 : decode cX5_due 27 = .ok (.bipush (-2), 2) := by decide +kernel
theorem dX5_due_29 : decode cX5_due 29 = .ok (.ireturn, 1) := by decide +kernel
theorem dX5_due_30 : decode cX5_due 30 = .ok (.aload_n 0, 1) := by decide +kernel
theorem dX5_due_31 : decode cX5_due 31 = .ok (.getfield 50, 3) := by decide +kernel
theorem dX5_due_34 : decode cX5_due 34 = .ok (.bipush (-9), 2) := by decide +kernel
theorem dX5_due_36 : decode cX5_due 36 = .ok (.if_icmp .eq 14, 3) := by decide +kernel
theorem dX5_due_39 : decode cX5_due 39 = .ok (.aload_n 0, 1) := by decide +kernel
theorem dX5_due_40 : decode cX5_due 40 = .ok (.getfield 35, 3) := by decide +kernel
theorem dX5_due_43 : decode cX5_due 43 = .ok (.iload_n 1, 1) := by decide +kernel
theorem dX5_due_44 : decode cX5_due 44 = .ok (.iaload, 1) := by decide +kernel
theorem dX5_due_45 : decode cX5_due 45 = .ok (.bipush (-9), 2) := by decide +kernel
theorem dX5_due_47 : decode cX5_due 47 = .ok (.if_icmp .ne 8, 3) := by decide +kernel
theorem dX5_due_50 : decode cX5_due 50 = .ok (.bipush (-3), 2) := by decide +kernel
theorem dX5_due_52 : decode cX5_due 52 = .ok (.goto 9, 3) := by decide +kernel
theorem dX5_due_55 : decode cX5_due 55 = .ok (.aload_n 0, 1) := by decide +kernel
theorem dX5_due_56 : decode cX5_due 56 = .ok (.iload_n 1, 1) := by decide +kernel
theorem dX5_due_57 : decode cX5_due 57 = .ok (.iload_n 2, 1) := by decide +kernel
theorem dX5_due_58 : decode cX5_due 58 = .ok (.invokevirtual 148, 3) := by decide +kernel
theorem dX5_due_61 : decode cX5_due 61 = .ok (.ireturn, 1) := by decide +kernel
set_option maxRecDepth 20000 in
theorem ggX5_owes_X5_noMaster : GoodIn wsX5_owes wsX5_noMaster := goodIn_r _ [9, 10, 11, 12, 8, 13, 22, 23, 24, 25, 26, 27, 28, 29, 30, 31, 32, 33, 34, 35, 36, 37, 38, 39, 40, 41, 42, 43, 44, 45, 46, 47, 48, 49] rfl (by decide +kernel)
set_option maxRecDepth 20000 in
theorem gX5_owes_X5_noMaster : GoodIn wsX5_owes (wsV RX5 110 RX5 yX5_noMaster wsX5_noMaster) := goodIn_app (goodIn_r _ [5, 6, 7, 8] rfl (by decide +kernel)) ggX5_owes_X5_noMaster
set_option maxRecDepth 20000 in
theorem ggX5_owes_X5_in : GoodIn wsX5_owes wsX5_in := goodIn_r _ [13] rfl (by decide +kernel)
set_option maxRecDepth 20000 in
theorem gX5_owes_X5_in : GoodIn wsX5_owes (va_wsS RX5 84 yX5_in wsX5_in) := goodIn_app (goodIn_r _ [11, 12, 8] rfl (by decide +kernel)) ggX5_owes_X5_in
set_option maxRecDepth 20000 in
theorem ggX5_owes_X5_dueOf : GoodIn wsX5_owes wsX5_dueOf := goodIn_r _ [17, 18, 19, 20, 21, 22, 23, 24, 25, 26, 27, 28, 29, 30, 31, 32, 33, 34, 35, 36, 37, 38, 39, 40, 41, 42, 43, 44, 45, 46, 47, 48, 49] rfl (by decide +kernel)
set_option maxRecDepth 20000 in
theorem gX5_owes_X5_dueOf : GoodIn wsX5_owes (wsV RX5 148 RX5 yX5_dueOf wsX5_dueOf) := goodIn_app (goodIn_r _ [14, 15, 16, 8] rfl (by decide +kernel)) ggX5_owes_X5_dueOf
theorem dX5_owes_0 : decode cX5_owes 0 = .ok (.aload_n 0, 1) := by decide +kernel
theorem dX5_owes_1 : decode cX5_owes 1 = .ok (.iconst 0, 1) := by decide +kernel
theorem dX5_owes_2 : decode cX5_owes 2 = .ok (.putfield 78, 3) := by decide +kernel
theorem dX5_owes_5 : decode cX5_owes 5 = .ok (.aload_n 0, 1) := by decide +kernel
theorem dX5_owes_6 : decode cX5_owes 6 = .ok (.iload_n 1, 1) := by decide +kernel
theorem dX5_owes_7 : decode cX5_owes 7 = .ok (.invokevirtual 110, 3) := by decide +kernel
theorem dX5_owes_10 : decode cX5_owes 10 = .ok (.ifCond .eq 5, 3) := by decide +kernel
theorem dX5_owes_13 : decode cX5_owes 13 = .ok (.iconst (-1), 1) := by decide +kernel
theorem dX5_owes_14 : decode cX5_owes 14 = .ok (.ireturn, 1) := by decide +kernel
theorem dX5_owes_15 : decode cX5_owes 15 = .ok (.iload_n 2, 1) := by decide +kernel
theorem dX5_owes_16 : decode cX5_owes 16 = .ok (.i2l, 1) := by decide +kernel
theorem dX5_owes_17 : decode cX5_owes 17 = .ok (.lconst 0, 1) := by decide +kernel
theorem dX5_owes_18 : decode cX5_owes 18 = .ok (.ldc2_w 142, 3) := by decide +kernel
theorem dX5_owes_21 : decode cX5_owes 21 = .ok (.invokestatic 84, 3) := by decide +kernel
theorem dX5_owes_24 : decode cX5_owes 24 = .ok (.ifCond .ne 6, 3) := by decide +kernel
theorem dX5_owes_27 : decode cX5_owes 27 = .ok (.bipush (-2), 2) := by decide +kernel
theorem dX5_owes_29 : decode cX5_owes 29 = .ok (.ireturn, 1) := by decide +kernel
theorem dX5_owes_30 : decode cX5_owes 30 = .ok (.aload_n 0, 1) := by decide +kernel
theorem dX5_owes_31 : decode cX5_owes 31 = .ok (.getfield 50, 3) := by decide +kernel
theorem dX5_owes_34 : decode cX5_owes 34 = .ok (.bipush (-9), 2) := by decide +kernel
theorem dX5_owes_36 : decode cX5_owes 36 = .ok (.if_icmp .ne 8, 3) := by decide +kernel
theorem dX5_owes_39 : decode cX5_owes 39 = .ok (.bipush (-3), 2) := by decide +kernel
theorem dX5_owes_41 : decode cX5_owes 41 = .ok (.goto 29, 3) := by decide +kernel
theorem dX5_owes_44 : decode cX5_owes 44 = .ok (.aload_n 0, 1) := by decide +kernel
theorem dX5_owes_45 : decode cX5_owes 45 = .ok (.getfield 44, 3) := by decide +kernel
theorem dX5_owes_48 : decode cX5_owes 48 = .ok (.iload_n 1, 1) := by decide +kernel
theorem dX5_owes_49 : decode cX5_owes 49 = .ok (.iaload, 1) := by decide +kernel
theorem dX5_owes_50 : decode cX5_owes 50 = .ok (.bipush (-9), 2) := by decide +kernel
theorem dX5_owes_52 : decode cX5_owes 52 = .ok (.if_icmp .ne 7, 3) := by decide +kernel
theorem dX5_owes_55 : decode cX5_owes 55 = .ok (.iconst 0, 1) := by decide +kernel
theorem dX5_owes_56 : decode cX5_owes 56 = .ok (.goto 14, 3) := by decide +kernel
theorem dX5_owes_59 : decode cX5_owes 59 = .ok (.aload_n 0, 1) := by decide +kernel
theorem dX5_owes_60 : decode cX5_owes 60 = .ok (.aload_n 0, 1) := by decide +kernel
theorem dX5_owes_61 : decode cX5_owes 61 = .ok (.getfield 44, 3) := by decide +kernel
theorem dX5_owes_64 : decode cX5_owes 64 = .ok (.iload_n 1, 1) := by decide +kernel
theorem dX5_owes_65 : decode cX5_owes 65 = .ok (.iaload, 1) := by decide +kernel
theorem dX5_owes_66 : decode cX5_owes 66 = .ok (.iload_n 2, 1) := by decide +kernel
theorem dX5_owes_67 : decode cX5_owes 67 = .ok (.invokevirtual 148, 3) := by decide +kernel
theorem dX5_owes_70 : decode cX5_owes 70 = .ok (.ireturn, 1) := by decide +kernel
set_option maxRecDepth 20000 in
theorem ggX5_hands_X5_in : GoodIn wsX5_hands wsX5_in := goodIn_r _ [10] rfl (by decide +kernel)
set_option maxRecDepth 20000 in
theorem gX5_hands_X5_in : GoodIn wsX5_hands (va_wsS RX5 84 yX5_in wsX5_in) := goodIn_app (goodIn_r _ [7, 8, 9] rfl (by decide +kernel)) ggX5_hands_X5_in
set_option maxRecDepth 20000 in
theorem ggX5_hands_X5_serves : GoodIn wsX5_hands wsX5_serves := goodIn_r _ [14, 15, 16, 17, 18, 19, 20, 21, 22, 23, 24, 25, 26, 27, 28, 29, 30, 31, 32, 33, 34, 35, 36, 37, 38, 39, 40, 41, 42, 43, 44] rfl (by decide +kernel)
set_option maxRecDepth 20000 in
theorem gX5_hands_X5_serves : GoodIn wsX5_hands (wsV RX5 144 RX5 yX5_serves wsX5_serves) := goodIn_app (goodIn_r _ [11, 12, 13, 9] rfl (by decide +kernel)) ggX5_hands_X5_serves
theorem dX5_hands_0 : decode cX5_hands 0 = .ok (.aload_n 0, 1) := by decide +kernel
theorem dX5_hands_1 : decode cX5_hands 1 = .ok (.iconst 0, 1) := by decide +kernel
theorem dX5_hands_2 : decode cX5_hands 2 = .ok (.putfield 78, 3) := by decide +kernel
theorem dX5_hands_5 : decode cX5_hands 5 = .ok (.iload_n 1, 1) := by decide +kernel
theorem dX5_hands_6 : decode cX5_hands 6 = .ok (.i2l, 1) := by decide +kernel
theorem dX5_hands_7 : decode cX5_hands 7 = .ok (.lconst 0, 1) := by decide +kernel
theorem dX5_hands_8 : decode cX5_hands 8 = .ok (.ldc2_w 98, 3) := by decide +kernel
theorem dX5_hands_11 : decode cX5_hands 11 = .ok (.invokestatic 84, 3) := by decide +kernel
theorem dX5_hands_14 : decode cX5_hands 14 = .ok (.ifCond .eq 15, 3) := by decide +kernel
theorem dX5_hands_17 : decode cX5_hands 17 = .ok (.iload_n 2, 1) := by decide +kernel
theorem dX5_hands_18 : decode cX5_hands 18 = .ok (.i2l, 1) := by decide +kernel
theorem dX5_hands_19 : decode cX5_hands 19 = .ok (.lconst 0, 1) := by decide +kernel
theorem dX5_hands_20 : decode cX5_hands 20 = .ok (.ldc2_w 142, 3) := by decide +kernel
theorem dX5_hands_23 : decode cX5_hands 23 = .ok (.invokestatic 84, 3) := by decide +kernel
theorem dX5_hands_26 : decode cX5_hands 26 = .ok (.ifCond .ne 6, 3) := by decide +kernel
theorem dX5_hands_29 : decode cX5_hands 29 = .ok (.bipush (-2), 2) := by decide +kernel
theorem dX5_hands_31 : decode cX5_hands 31 = .ok (.ireturn, 1) := by decide +kernel
theorem dX5_hands_32 : decode cX5_hands 32 = .ok (.aload_n 0, 1) := by decide +kernel
theorem dX5_hands_33 : decode cX5_hands 33 = .ok (.getfield 50, 3) := by decide +kernel
theorem dX5_hands_36 : decode cX5_hands 36 = .ok (.bipush (-9), 2) := by decide +kernel
theorem dX5_hands_38 : decode cX5_hands 38 = .ok (.if_icmp .ne 6, 3) := by decide +kernel
theorem dX5_hands_41 : decode cX5_hands 41 = .ok (.bipush (-3), 2) := by decide +kernel
theorem dX5_hands_43 : decode cX5_hands 43 = .ok (.ireturn, 1) := by decide +kernel
theorem dX5_hands_44 : decode cX5_hands 44 = .ok (.iconst 0, 1) := by decide +kernel
theorem dX5_hands_45 : decode cX5_hands 45 = .ok (.istore_n 3, 1) := by decide +kernel
theorem dX5_hands_46 : decode cX5_hands 46 = .ok (.iconst 0, 1) := by decide +kernel
theorem dX5_hands_47 : decode cX5_hands 47 = .ok (.istore 4, 2) := by decide +kernel
theorem dX5_hands_49 : decode cX5_hands 49 = .ok (.iload 4, 2) := by decide +kernel
theorem dX5_hands_51 : decode cX5_hands 51 = .ok (.aload_n 0, 1) := by decide +kernel
theorem dX5_hands_52 : decode cX5_hands 52 = .ok (.getfield 81, 3) := by decide +kernel
theorem dX5_hands_55 : decode cX5_hands 55 = .ok (.if_icmp .ge 38, 3) := by decide +kernel
theorem dX5_hands_58 : decode cX5_hands 58 = .ok (.iload_n 3, 1) := by decide +kernel
theorem dX5_hands_59 : decode cX5_hands 59 = .ok (.aload_n 0, 1) := by decide +kernel
theorem dX5_hands_60 : decode cX5_hands 60 = .ok (.getfield 7, 3) := by decide +kernel
theorem dX5_hands_63 : decode cX5_hands 63 = .ok (.iload 4, 2) := by decide +kernel
theorem dX5_hands_65 : decode cX5_hands 65 = .ok (.iaload, 1) := by decide +kernel
theorem dX5_hands_66 : decode cX5_hands 66 = .ok (.iload_n 1, 1) := by decide +kernel
theorem dX5_hands_67 : decode cX5_hands 67 = .ok (.if_icmp .ne 17, 3) := by decide +kernel
theorem dX5_hands_70 : decode cX5_hands 70 = .ok (.aload_n 0, 1) := by decide +kernel
theorem dX5_hands_71 : decode cX5_hands 71 = .ok (.iload 4, 2) := by decide +kernel
theorem dX5_hands_73 : decode cX5_hands 73 = .ok (.iload_n 2, 1) := by decide +kernel
theorem dX5_hands_74 : decode cX5_hands 74 = .ok (.invokevirtual 144, 3) := by decide +kernel
theorem dX5_hands_77 : decode cX5_hands 77 = .ok (.ifCond .eq 7, 3) := by decide +kernel
theorem dX5_hands_80 : decode cX5_hands 80 = .ok (.iconst 1, 1) := by decide +kernel
theorem dX5_hands_81 : decode cX5_hands 81 = .ok (.goto 4, 3) := by decide +kernel
theorem dX5_hands_84 : decode cX5_hands 84 = .ok (.iconst 0, 1) := by decide +kernel
theorem dX5_hands_85 : decode cX5_hands 85 = .ok (.iadd, 1) := by decide +kernel
theorem dX5_hands_86 : decode cX5_hands 86 = .ok (.istore_n 3, 1) := by decide +kernel
theorem dX5_hands_87 : decode cX5_hands 87 = .ok (.iinc 4 1, 3) := by decide +kernel
theorem dX5_hands_90 : decode cX5_hands 90 = .ok (.goto (-41), 3) := by decide +kernel
theorem dX5_hands_93 : decode cX5_hands 93 = .ok (.iload_n 3, 1) := by decide +kernel
theorem dX5_hands_94 : decode cX5_hands 94 = .ok (.ireturn, 1) := by decide +kernel
theorem dX5_total_0 : decode cX5_total 0 = .ok (.aload_n 0, 1) := by decide +kernel
theorem dX5_total_1 : decode cX5_total 1 = .ok (.iconst 0, 1) := by decide +kernel
theorem dX5_total_2 : decode cX5_total 2 = .ok (.putfield 78, 3) := by decide +kernel
theorem dX5_total_5 : decode cX5_total 5 = .ok (.iconst 0, 1) := by decide +kernel
theorem dX5_total_6 : decode cX5_total 6 = .ok (.istore_n 2, 1) := by decide +kernel
theorem dX5_total_7 : decode cX5_total 7 = .ok (.iconst 0, 1) := by decide +kernel
theorem dX5_total_8 : decode cX5_total 8 = .ok (.istore_n 3, 1) := by decide +kernel
theorem dX5_total_9 : decode cX5_total 9 = .ok (.iconst 0, 1) := by decide +kernel
theorem dX5_total_10 : decode cX5_total 10 = .ok (.istore 4, 2) := by decide +kernel
theorem dX5_total_12 : decode cX5_total 12 = .ok (.iload 4, 2) := by decide +kernel
theorem dX5_total_14 : decode cX5_total 14 = .ok (.aload_n 0, 1) := by decide +kernel
theorem dX5_total_15 : decode cX5_total 15 = .ok (.getfield 81, 3) := by decide +kernel
theorem dX5_total_18 : decode cX5_total 18 = .ok (.if_icmp .ge 55, 3) := by decide +kernel
theorem dX5_total_21 : decode cX5_total 21 = .ok (.iload_n 2, 1) := by decide +kernel
theorem dX5_total_22 : decode cX5_total 22 = .ok (.aload_n 0, 1) := by decide +kernel
theorem dX5_total_23 : decode cX5_total 23 = .ok (.getfield 35, 3) := by decide +kernel
theorem dX5_total_26 : decode cX5_total 26 = .ok (.iload 4, 2) := by decide +kernel
theorem dX5_total_28 : decode cX5_total 28 = .ok (.iaload, 1) := by decide +kernel
theorem dX5_total_29 : decode cX5_total 29 = .ok (.bipush (-9), 2) := by decide +kernel
theorem dX5_total_31 : decode cX5_total 31 = .ok (.if_icmp .ne 7, 3) := by decide +kernel
theorem dX5_total_34 : decode cX5_total 34 = .ok (.iconst 0, 1) := by decide +kernel
theorem dX5_total_35 : decode cX5_total 35 = .ok (.goto 4, 3) := by decide +kernel
theorem dX5_total_38 : decode cX5_total 38 = .ok (.iconst 1, 1) := by decide +kernel
theorem dX5_total_39 : decode cX5_total 39 = .ok (.iadd, 1) := by decide +kernel
theorem dX5_total_40 : decode cX5_total 40 = .ok (.istore_n 2, 1) := by decide +kernel
theorem dX5_total_41 : decode cX5_total 41 = .ok (.iload_n 3, 1) := by decide +kernel
theorem dX5_total_42 : decode cX5_total 42 = .ok (.aload_n 0, 1) := by decide +kernel
theorem dX5_total_43 : decode cX5_total 43 = .ok (.getfield 35, 3) := by decide +kernel
theorem dX5_total_46 : decode cX5_total 46 = .ok (.iload 4, 2) := by decide +kernel
theorem dX5_total_48 : decode cX5_total 48 = .ok (.iaload, 1) := by decide +kernel
theorem dX5_total_49 : decode cX5_total 49 = .ok (.bipush (-9), 2) := by decide +kernel
theorem dX5_total_51 : decode cX5_total 51 = .ok (.if_icmp .ne 7, 3) := by decide +kernel
theorem dX5_total_54 : decode cX5_total 54 = .ok (.iconst 0, 1) := by decide +kernel
theorem dX5_total_55 : decode cX5_total 55 = .ok (.goto 10, 3) := by decide +kernel
theorem dX5_total_58 : decode cX5_total 58 = .ok (.aload_n 0, 1) := by decide +kernel
theorem dX5_total_59 : decode cX5_total 59 = .ok (.getfield 38, 3) := by decide +kernel
theorem dX5_total_62 : decode cX5_total 62 = .ok (.iload 4, 2) := by decide +kernel
theorem dX5_total_64 : decode cX5_total 64 = .ok (.iaload, 1) := by decide +kernel
theorem dX5_total_65 : decode cX5_total 65 = .ok (.iadd, 1) := by decide +kernel
theorem dX5_total_66 : decode cX5_total 66 = .ok (.istore_n 3, 1) := by decide +kernel
theorem dX5_total_67 : decode cX5_total 67 = .ok (.iinc 4 1, 3) := by decide +kernel
theorem dX5_total_70 : decode cX5_total 70 = .ok (.goto (-58), 3) := by decide +kernel
theorem dX5_total_73 : decode cX5_total 73 = .ok (.iload_n 1, 1) := by decide +kernel
theorem dX5_total_74 : decode cX5_total 74 = .ok (.tableswitch 71 0 6 #[42, 47, 52, 54, 59, 64, 66], 42) := by decide +kernel
theorem dX5_total_116 : decode cX5_total 116 = .ok (.aload_n 0, 1) := by decide +kernel
theorem dX5_total_117 : decode cX5_total 117 = .ok (.getfield 81, 3) := by decide +kernel
theorem dX5_total_120 : decode cX5_total 120 = .ok (.ireturn, 1) := by decide +kernel
theorem dX5_total_121 : decode cX5_total 121 = .ok (.aload_n 0, 1) := by decide +kernel
theorem dX5_total_122 : decode cX5_total 122 = .ok (.getfield 88, 3) := by decide +kernel
theorem dX5_total_125 : decode cX5_total 125 = .ok (.ireturn, 1) := by decide +kernel
theorem dX5_total_126 : decode cX5_total 126 = .ok (.iload_n 2, 1) := by decide +kernel
theorem dX5_total_127 : decode cX5_total 127 = .ok (.ireturn, 1) := by decide +kernel
theorem dX5_total_128 : decode cX5_total 128 = .ok (.aload_n 0, 1) := by decide +kernel
theorem dX5_total_129 : decode cX5_total 129 = .ok (.getfield 117, 3) := by decide +kernel
theorem dX5_total_132 : decode cX5_total 132 = .ok (.ireturn, 1) := by decide +kernel
theorem dX5_total_133 : decode cX5_total 133 = .ok (.aload_n 0, 1) := by decide +kernel
theorem dX5_total_134 : decode cX5_total 134 = .ok (.getfield 50, 3) := by decide +kernel
theorem dX5_total_137 : decode cX5_total 137 = .ok (.ireturn, 1) := by decide +kernel
theorem dX5_total_138 : decode cX5_total 138 = .ok (.iload_n 3, 1) := by decide +kernel
theorem dX5_total_139 : decode cX5_total 139 = .ok (.ireturn, 1) := by decide +kernel
theorem dX5_total_140 : decode cX5_total 140 = .ok (.aload_n 0, 1) := by decide +kernel
theorem dX5_total_141 : decode cX5_total 141 = .ok (.getfield 139, 3) := by decide +kernel
theorem dX5_total_144 : decode cX5_total 144 = .ok (.ireturn, 1) := by decide +kernel
theorem dX5_total_145 : decode cX5_total 145 = .ok (.bipush (-2), 2) := by decide +kernel
theorem dX5_total_147 : decode cX5_total 147 = .ok (.ireturn, 1) := by decide +kernel
theorem dJ6_bitCount_0f7a4_0 : decode cJ6_bitCount_0f7a4 0 = .ok (.iload_n 0, 1) := by decide +kernel
theorem dJ6_bitCount_0f7a4_1 : decode cJ6_bitCount_0f7a4 1 = .ok (.iload_n 0, 1) := by decide +kernel
theorem dJ6_bitCount_0f7a4_2 : decode cJ6_bitCount_0f7a4 2 = .ok (.iconst 1, 1) := by decide +kernel
theorem dJ6_bitCount_0f7a4_3 : decode cJ6_bitCount_0f7a4 3 = .ok (.iushr, 1) := by decide +kernel
theorem dJ6_bitCount_0f7a4_4 : decode cJ6_bitCount_0f7a4 4 = .ok (.ldc_w 265, 3) := by decide +kernel
theorem dJ6_bitCount_0f7a4_7 : decode cJ6_bitCount_0f7a4 7 = .ok (.iand, 1) := by decide +kernel
theorem dJ6_bitCount_0f7a4_8 : decode cJ6_bitCount_0f7a4 8 = .ok (.isub, 1) := by decide +kernel
theorem dJ6_bitCount_0f7a4_9 : decode cJ6_bitCount_0f7a4 9 = .ok (.istore_n 0, 1) := by decide +kernel
theorem dJ6_bitCount_0f7a4_10 : decode cJ6_bitCount_0f7a4 10 = .ok (.iload_n 0, 1) := by decide +kernel
theorem dJ6_bitCount_0f7a4_11 : decode cJ6_bitCount_0f7a4 11 = .ok (.ldc_w 266, 3) := by decide +kernel
theorem dJ6_bitCount_0f7a4_14 : decode cJ6_bitCount_0f7a4 14 = .ok (.iand, 1) := by decide +kernel
theorem dJ6_bitCount_0f7a4_15 : decode cJ6_bitCount_0f7a4 15 = .ok (.iload_n 0, 1) := by decide +kernel
theorem dJ6_bitCount_0f7a4_16 : decode cJ6_bitCount_0f7a4 16 = .ok (.iconst 2, 1) := by decide +kernel
theorem dJ6_bitCount_0f7a4_17 : decode cJ6_bitCount_0f7a4 17 = .ok (.iushr, 1) := by decide +kernel
theorem dJ6_bitCount_0f7a4_18 : decode cJ6_bitCount_0f7a4 18 = .ok (.ldc_w 266, 3) := by decide +kernel
theorem dJ6_bitCount_0f7a4_21 : decode cJ6_bitCount_0f7a4 21 = .ok (.iand, 1) := by decide +kernel
theorem dJ6_bitCount_0f7a4_22 : decode cJ6_bitCount_0f7a4 22 = .ok (.iadd, 1) := by decide +kernel
theorem dJ6_bitCount_0f7a4_23 : decode cJ6_bitCount_0f7a4 23 = .ok (.istore_n 0, 1) := by decide +kernel
theorem dJ6_bitCount_0f7a4_24 : decode cJ6_bitCount_0f7a4 24 = .ok (.iload_n 0, 1) := by decide +kernel
theorem dJ6_bitCount_0f7a4_25 : decode cJ6_bitCount_0f7a4 25 = .ok (.iload_n 0, 1) := by decide +kernel
theorem dJ6_bitCount_0f7a4_26 : decode cJ6_bitCount_0f7a4 26 = .ok (.iconst 4, 1) := by decide +kernel
theorem dJ6_bitCount_0f7a4_27 : decode cJ6_bitCount_0f7a4 27 = .ok (.iushr, 1) := by decide +kernel
theorem dJ6_bitCount_0f7a4_28 : decode cJ6_bitCount_0f7a4 28 = .ok (.iadd, 1) := by decide +kernel
theorem dJ6_bitCount_0f7a4_29 : decode cJ6_bitCount_0f7a4 29 = .ok (.ldc_w 267, 3) := by decide +kernel
theorem dJ6_bitCount_0f7a4_32 : decode cJ6_bitCount_0f7a4 32 = .ok (.iand, 1) := by decide +kernel
theorem dJ6_bitCount_0f7a4_33 : decode cJ6_bitCount_0f7a4 33 = .ok (.istore_n 0, 1) := by decide +kernel
theorem dJ6_bitCount_0f7a4_34 : decode cJ6_bitCount_0f7a4 34 = .ok (.iload_n 0, 1) := by decide +kernel
theorem dJ6_bitCount_0f7a4_35 : decode cJ6_bitCount_0f7a4 35 = .ok (.iload_n 0, 1) := by decide +kernel
theorem dJ6_bitCount_0f7a4_36 : decode cJ6_bitCount_0f7a4 36 = .ok (.bipush 8, 2) := by decide +kernel
theorem dJ6_bitCount_0f7a4_38 : decode cJ6_bitCount_0f7a4 38 = .ok (.iushr, 1) := by decide +kernel
theorem dJ6_bitCount_0f7a4_39 : decode cJ6_bitCount_0f7a4 39 = .ok (.iadd, 1) := by decide +kernel
theorem dJ6_bitCount_0f7a4_40 : decode cJ6_bitCount_0f7a4 40 = .ok (.istore_n 0, 1) := by decide +kernel
theorem dJ6_bitCount_0f7a4_41 : decode cJ6_bitCount_0f7a4 41 = .ok (.iload_n 0, 1) := by decide +kernel
theorem dJ6_bitCount_0f7a4_42 : decode cJ6_bitCount_0f7a4 42 = .ok (.iload_n 0, 1) := by decide +kernel
theorem dJ6_bitCount_0f7a4_43 : decode cJ6_bitCount_0f7a4 43 = .ok (.bipush 16, 2) := by decide +kernel
theorem dJ6_bitCount_0f7a4_45 : decode cJ6_bitCount_0f7a4 45 = .ok (.iushr, 1) := by decide +kernel
theorem dJ6_bitCount_0f7a4_46 : decode cJ6_bitCount_0f7a4 46 = .ok (.iadd, 1) := by decide +kernel
theorem dJ6_bitCount_0f7a4_47 : decode cJ6_bitCount_0f7a4 47 = .ok (.istore_n 0, 1) := by decide +kernel
theorem dJ6_bitCount_0f7a4_48 : decode cJ6_bitCount_0f7a4 48 = .ok (.iload_n 0, 1) := by decide +kernel
theorem dJ6_bitCount_0f7a4_49 : decode cJ6_bitCount_0f7a4 49 = .ok (.bipush 63, 2) := by decide +kernel
theorem dJ6_bitCount_0f7a4_51 : decode cJ6_bitCount_0f7a4 51 = .ok (.iand, 1) := by decide +kernel
theorem dJ6_bitCount_0f7a4_52 : decode cJ6_bitCount_0f7a4 52 = .ok (.ireturn, 1) := by decide +kernel
theorem dJ9_max_7cf53_0 : decode cJ9_max_7cf53 0 = .ok (.iload_n 0, 1) := by decide +kernel
theorem dJ9_max_7cf53_1 : decode cJ9_max_7cf53 1 = .ok (.iload_n 1, 1) := by decide +kernel
theorem dJ9_max_7cf53_2 : decode cJ9_max_7cf53 2 = .ok (.if_icmp .lt 7, 3) := by decide +kernel
theorem dJ9_max_7cf53_5 : decode cJ9_max_7cf53 5 = .ok (.iload_n 0, 1) := by decide +kernel
theorem dJ9_max_7cf53_6 : decode cJ9_max_7cf53 6 = .ok (.goto 4, 3) := by decide +kernel
theorem dJ9_max_7cf53_9 : decode cJ9_max_7cf53 9 = .ok (.iload_n 1, 1) := by decide +kernel
theorem dJ9_max_7cf53_10 : decode cJ9_max_7cf53 10 = .ok (.ireturn, 1) := by decide +kernel
theorem dJ9_min_7cf53_0 : decode cJ9_min_7cf53 0 = .ok (.iload_n 0, 1) := by decide +kernel
theorem dJ9_min_7cf53_1 : decode cJ9_min_7cf53 1 = .ok (.iload_n 1, 1) := by decide +kernel
theorem dJ9_min_7cf53_2 : decode cJ9_min_7cf53 2 = .ok (.if_icmp .gt 7, 3) := by decide +kernel
theorem dJ9_min_7cf53_5 : decode cJ9_min_7cf53 5 = .ok (.iload_n 0, 1) := by decide +kernel
theorem dJ9_min_7cf53_6 : decode cJ9_min_7cf53 6 = .ok (.goto 4, 3) := by decide +kernel
theorem dJ9_min_7cf53_9 : decode cJ9_min_7cf53 9 = .ok (.iload_n 1, 1) := by decide +kernel
theorem dJ9_min_7cf53_10 : decode cJ9_min_7cf53 10 = .ok (.ireturn, 1) := by decide +kernel
theorem dJ7_fill_53178_0 : decode cJ7_fill_53178 0 = .ok (.iconst 0, 1) := by decide +kernel
theorem dJ7_fill_53178_1 : decode cJ7_fill_53178 1 = .ok (.istore_n 2, 1) := by decide +kernel
theorem dJ7_fill_53178_2 : decode cJ7_fill_53178 2 = .ok (.aload_n 0, 1) := by decide +kernel
theorem dJ7_fill_53178_3 : decode cJ7_fill_53178 3 = .ok (.arraylength, 1) := by decide +kernel
theorem dJ7_fill_53178_4 : decode cJ7_fill_53178 4 = .ok (.istore_n 3, 1) := by decide +kernel
theorem dJ7_fill_53178_5 : decode cJ7_fill_53178 5 = .ok (.iload_n 2, 1) := by decide +kernel
theorem dJ7_fill_53178_6 : decode cJ7_fill_53178 6 = .ok (.iload_n 3, 1) := by decide +kernel
theorem dJ7_fill_53178_7 : decode cJ7_fill_53178 7 = .ok (.if_icmp .ge 13, 3) := by decide +kernel
theorem dJ7_fill_53178_10 : decode cJ7_fill_53178 10 = .ok (.aload_n 0, 1) := by decide +kernel
theorem dJ7_fill_53178_11 : decode cJ7_fill_53178 11 = .ok (.iload_n 2, 1) := by decide +kernel
theorem dJ7_fill_53178_12 : decode cJ7_fill_53178 12 = .ok (.iload_n 1, 1) := by decide +kernel
theorem dJ7_fill_53178_13 : decode cJ7_fill_53178 13 = .ok (.iastore, 1) := by decide +kernel
theorem dJ7_fill_53178_14 : decode cJ7_fill_53178 14 = .ok (.iinc 2 1, 3) := by decide +kernel
theorem dJ7_fill_53178_17 : decode cJ7_fill_53178 17 = .ok (.goto (-12), 3) := by decide +kernel
theorem dJ7_fill_53178_20 : decode cJ7_fill_53178 20 = .ok (.return_, 1) := by decide +kernel
end
section
set_option maxRecDepth 20000 in
theorem ggL_law_X4_init : GoodIn wsL_law wsX4_init := goodIn_r _ [8, 9, 10, 11, 12, 13, 14, 15, 16, 17, 18, 19, 20, 21, 22, 23, 24, 25, 26, 27, 28, 29, 30, 31, 32, 33, 34, 35, 36, 37, 38, 39, 40, 41, 42, 43, 44, 45, 46, 47, 48, 49, 50, 51, 52, 53, 54, 55, 56, 57, 58, 59, 60, 61, 62, 63, 64, 65, 66, 67, 68, 69, 70, 71, 72, 73, 74, 75, 76, 77, 78, 79, 80, 81, 82, 83, 84, 85, 634, 635, 636, 637, 638, 639, 640, 641, 642, 601, 602, 603, 604, 605, 643, 644, 645, 646, 647, 648, 649, 650, 651, 652, 653, 654, 655, 656, 657, 658, 659] rfl (by decide +kernel)
set_option maxRecDepth 20000 in
theorem gL_law_X4_init : GoodIn wsL_law (wsX4_init) := ggL_law_X4_init
set_option maxRecDepth 20000 in
theorem ggL_law_X5_init : GoodIn wsL_law wsX5_init := goodIn_r _ [88, 89, 10, 11, 33, 90, 91, 92, 93, 94, 95, 80, 96, 97, 98, 99, 100, 101, 102, 103, 104, 105, 106, 107, 108, 109, 110, 111, 606, 607, 608, 609, 610, 611, 612, 613, 614, 615, 616, 617, 618, 619, 620, 621, 622, 623, 624, 625, 626, 627, 628, 629, 630, 631, 632, 633] rfl (by decide +kernel)
set_option maxRecDepth 20000 in
theorem gL_law_X5_init : GoodIn wsL_law (wsX5_init) := ggL_law_X5_init
set_option maxRecDepth 20000 in
theorem ggL_law_X4_servant : GoodIn wsL_law wsX4_servant := goodIn_r _ [115, 27, 15, 116, 117, 2, 118, 119, 120, 121, 122, 123, 124, 26, 125, 78, 126, 127, 128, 14, 129, 130, 34, 35, 36, 601, 602, 603, 604, 605, 654, 655, 656, 657, 658, 659, 634, 635, 636, 637, 638, 639, 640, 641, 642] rfl (by decide +kernel)
set_option maxRecDepth 20000 in
theorem gL_law_X4_servant : GoodIn wsL_law (wsV RL 13 RX4 yX4_servant wsX4_servant) := goodIn_app (goodIn_r _ [112, 113, 114, 2] rfl (by decide +kernel)) ggL_law_X4_servant
set_option maxRecDepth 20000 in
theorem ggL_law_X5_servant : GoodIn wsL_law wsX5_servant := goodIn_r _ [134, 135, 136, 137, 138, 103, 139, 90, 91, 92, 140, 141, 5, 142, 606, 607, 608, 609, 610, 611, 612, 613, 614, 615, 616, 617, 618, 619, 620, 621, 622, 623, 624, 625, 626, 627, 628, 629, 630, 631, 632, 633] rfl (by decide +kernel)
set_option maxRecDepth 20000 in
theorem gL_law_X5_servant : GoodIn wsL_law (wsV RL 17 RX5 yX5_servant wsX5_servant) := goodIn_app (goodIn_r _ [131, 132, 133, 5] rfl (by decide +kernel)) ggL_law_X5_servant
set_option maxRecDepth 20000 in
theorem ggL_law_X4_master : GoodIn wsL_law wsX4_master := goodIn_r _ [146, 27, 15, 116, 117, 2, 118, 119, 120, 121, 122, 123, 124, 26, 125, 78, 147, 148, 149, 14, 150, 151, 37, 38, 601, 602, 603, 604, 605, 654, 655, 656, 657, 658, 659, 634, 635, 636, 637, 638, 639, 640, 641, 642] rfl (by decide +kernel)
set_option maxRecDepth 20000 in
theorem gL_law_X4_master : GoodIn wsL_law (wsV RL 18 RX4 yX4_master wsX4_master) := goodIn_app (goodIn_r _ [143, 144, 145, 2] rfl (by decide +kernel)) ggL_law_X4_master
set_option maxRecDepth 20000 in
theorem ggL_law_X5_master : GoodIn wsL_law wsX5_master := goodIn_r _ [155, 135, 136, 156, 103, 157, 93, 94, 140, 141, 5, 142, 606, 607, 608, 609, 610, 611, 612, 613, 614, 615, 616, 617, 618, 619, 620, 621, 622, 623, 624, 625, 626, 627, 628, 629, 630, 631, 632, 633] rfl (by decide +kernel)
set_option maxRecDepth 20000 in
theorem gL_law_X5_master : GoodIn wsL_law (wsV RL 22 RX5 yX5_master wsX5_master) := goodIn_app (goodIn_r _ [152, 153, 154, 5] rfl (by decide +kernel)) ggL_law_X5_master
set_option maxRecDepth 20000 in
theorem ggL_law_X4_bar : GoodIn wsL_law wsX4_bar := goodIn_r _ [161, 15, 162, 163, 164, 14, 165, 166, 167, 168, 169, 151, 170, 171, 172, 173, 130, 174, 175, 176, 177, 41, 178, 179, 180, 181, 601, 602, 603, 604, 605, 634, 635, 636, 637, 638, 639, 640, 641, 642] rfl (by decide +kernel)
set_option maxRecDepth 20000 in
theorem gL_law_X4_bar : GoodIn wsL_law (wsV RL 23 RX4 yX4_bar wsX4_bar) := goodIn_app (goodIn_r _ [158, 159, 160, 2] rfl (by decide +kernel)) ggL_law_X4_bar
set_option maxRecDepth 20000 in
theorem ggL_law_X5_bar : GoodIn wsL_law wsX5_bar := goodIn_r _ [185, 135, 96, 186, 187, 188, 5, 189, 139, 140, 141, 142, 190, 191, 192, 193, 157, 606, 607, 608, 609, 610, 611, 612, 613, 614, 615, 616, 617, 618, 619, 620, 621, 622, 623, 624, 625, 626, 627, 628, 629, 630, 631, 632, 633] rfl (by decide +kernel)
set_option maxRecDepth 20000 in
theorem gL_law_X5_bar : GoodIn wsL_law (wsV RL 27 RX5 yX5_bar wsX5_bar) := goodIn_app (goodIn_r _ [182, 183, 184, 5] rfl (by decide +kernel)) ggL_law_X5_bar
set_option maxRecDepth 20000 in
theorem ggL_law_X4_hear : GoodIn wsL_law wsX4_hear := goodIn_r _ [197, 15, 162, 163, 164, 14, 165, 166, 167, 168, 169, 151, 170, 171, 172, 173, 130, 119, 120, 2, 121, 198, 199, 200, 201, 40, 202, 203, 204, 205, 601, 602, 603, 604, 605, 634, 635, 636, 637, 638, 639, 640, 641, 642] rfl (by decide +kernel)
set_option maxRecDepth 20000 in
theorem gL_law_X4_hear : GoodIn wsL_law (wsV RL 28 RX4 yX4_hear wsX4_hear) := goodIn_app (goodIn_r _ [194, 195, 196, 2] rfl (by decide +kernel)) ggL_law_X4_hear
set_option maxRecDepth 20000 in
theorem ggL_law_X5_hear : GoodIn wsL_law wsX5_hear := goodIn_r _ [209, 135, 137, 95, 190, 191, 192, 5, 193, 157, 140, 141, 142, 186, 187, 188, 189, 139, 210, 211, 212, 213, 606, 607, 608, 609, 610, 611, 612, 613, 614, 615, 616, 617, 618, 619, 620, 621, 622, 623, 624, 625, 626, 627, 628, 629, 630, 631, 632, 633] rfl (by decide +kernel)
set_option maxRecDepth 20000 in
theorem gL_law_X5_hear : GoodIn wsL_law (wsV RL 31 RX5 yX5_hear wsX5_hear) := goodIn_app (goodIn_r _ [206, 207, 208, 5] rfl (by decide +kernel)) ggL_law_X5_hear
set_option maxRecDepth 20000 in
theorem ggL_law_X4_pass : GoodIn wsL_law wsX4_pass := goodIn_r _ [217, 15, 162, 163, 164, 14, 165, 166, 167, 168, 169, 151, 170, 171, 172, 173, 130, 218, 219, 220, 221, 222, 40, 198, 199, 200, 201, 202, 203, 204, 205, 601, 602, 603, 604, 605, 634, 635, 636, 637, 638, 639, 640, 641, 642] rfl (by decide +kernel)
set_option maxRecDepth 20000 in
theorem gL_law_X4_pass : GoodIn wsL_law (wsV RL 32 RX4 yX4_pass wsX4_pass) := goodIn_app (goodIn_r _ [214, 215, 216, 2] rfl (by decide +kernel)) ggL_law_X4_pass
set_option maxRecDepth 20000 in
theorem ggL_law_X5_pass : GoodIn wsL_law wsX5_pass := goodIn_r _ [226, 135, 95, 190, 191, 192, 5, 193, 157, 140, 141, 142, 186, 187, 188, 189, 139, 606, 607, 608, 609, 610, 611, 612, 613, 614, 615, 616, 617, 618, 619, 620, 621, 622, 623, 624, 625, 626, 627, 628, 629, 630, 631, 632, 633] rfl (by decide +kernel)
set_option maxRecDepth 20000 in
theorem gL_law_X5_pass : GoodIn wsL_law (wsV RL 35 RX5 yX5_pass wsX5_pass) := goodIn_app (goodIn_r _ [223, 224, 225, 5] rfl (by decide +kernel)) ggL_law_X5_pass
set_option maxRecDepth 20000 in
theorem ggL_law_X4_about : GoodIn wsL_law wsX4_about := goodIn_r _ [230, 15, 231, 232, 233, 22, 234, 235, 236, 27, 237, 171, 172, 14, 173, 130, 238, 239, 240, 26, 241, 77, 79, 242, 123, 124, 125, 78, 243, 244, 245, 18, 246, 58, 601, 602, 603, 604, 605, 634, 635, 636, 637, 638, 639, 640, 641, 642, 643, 644, 645, 646, 647, 648, 649, 650, 654, 655, 656, 657, 658, 659] rfl (by decide +kernel)
set_option maxRecDepth 20000 in
theorem gL_law_X4_about : GoodIn wsL_law (wsV RL 36 RX4 yX4_about wsX4_about) := goodIn_app (goodIn_r _ [227, 228, 229, 2] rfl (by decide +kernel)) ggL_law_X4_about
set_option maxRecDepth 20000 in
theorem ggL_law_X5_about : GoodIn wsL_law wsX5_about := goodIn_r _ [250, 135, 98, 90, 91, 92, 99, 100, 103, 104, 186, 187, 188, 5, 189, 139, 140, 141, 142, 606, 607, 608, 609, 610, 611, 612, 613, 614, 615, 616, 617, 618, 619, 620, 621, 622, 623, 624, 625, 626, 627, 628, 629, 630, 631, 632, 633] rfl (by decide +kernel)
set_option maxRecDepth 20000 in
theorem gL_law_X5_about : GoodIn wsL_law (wsV RL 39 RX5 yX5_about wsX5_about) := goodIn_app (goodIn_r _ [247, 248, 249, 5] rfl (by decide +kernel)) ggL_law_X5_about
set_option maxRecDepth 20000 in
theorem ggL_law_X4_house : GoodIn wsL_law wsX4_house := goodIn_r _ [254, 15, 255, 256, 22, 257, 218, 167, 168, 14, 169, 151, 258, 259, 260, 18, 261, 62, 262, 263, 264, 265, 266, 267, 268, 601, 602, 603, 604, 605, 634, 635, 636, 637, 638, 639, 640, 641, 642, 643, 644, 645, 646, 647, 648, 649, 650] rfl (by decide +kernel)
set_option maxRecDepth 20000 in
theorem gL_law_X4_house : GoodIn wsL_law (wsV RL 40 RX4 yX4_house wsX4_house) := goodIn_app (goodIn_r _ [251, 252, 253, 2] rfl (by decide +kernel)) ggL_law_X4_house
set_option maxRecDepth 20000 in
theorem ggL_law_X5_house : GoodIn wsL_law wsX5_house := goodIn_r _ [272, 135, 97, 93, 94, 101, 190, 191, 192, 5, 193, 157, 140, 141, 142, 606, 607, 608, 609, 610, 611, 612, 613, 614, 615, 616, 617, 618, 619, 620, 621, 622, 623, 624, 625, 626, 627, 628, 629, 630, 631, 632, 633] rfl (by decide +kernel)
set_option maxRecDepth 20000 in
theorem gL_law_X5_house : GoodIn wsL_law (wsV RL 43 RX5 yX5_house wsX5_house) := goodIn_app (goodIn_r _ [269, 270, 271, 5] rfl (by decide +kernel)) ggL_law_X5_house
set_option maxRecDepth 20000 in
theorem ggL_law_X4_holds : GoodIn wsL_law wsX4_holds := goodIn_r _ [276, 15, 162, 163, 164, 14, 165, 166, 167, 168, 169, 151, 170, 171, 172, 173, 130, 198, 199, 200, 201, 40, 601, 602, 603, 604, 605, 634, 635, 636, 637, 638, 639, 640, 641, 642] rfl (by decide +kernel)
set_option maxRecDepth 20000 in
theorem gL_law_X4_holds : GoodIn wsL_law (wsV RL 44 RX4 yX4_holds wsX4_holds) := goodIn_app (goodIn_r _ [273, 274, 275, 2] rfl (by decide +kernel)) ggL_law_X4_holds
set_option maxRecDepth 20000 in
theorem ggL_law_X5_holds : GoodIn wsL_law wsX5_holds := goodIn_r _ [280, 135, 190, 191, 192, 5, 193, 157, 140, 141, 142, 186, 187, 188, 189, 139, 210, 211, 212, 213, 95, 606, 607, 608, 609, 610, 611, 612, 613, 614, 615, 616, 617, 618, 619, 620, 621, 622, 623, 624, 625, 626, 627, 628, 629, 630, 631, 632, 633] rfl (by decide +kernel)
set_option maxRecDepth 20000 in
theorem gL_law_X5_holds : GoodIn wsL_law (wsV RL 47 RX5 yX5_holds wsX5_holds) := goodIn_app (goodIn_r _ [277, 278, 279, 5] rfl (by decide +kernel)) ggL_law_X5_holds
set_option maxRecDepth 20000 in
theorem ggL_law_X4_offer : GoodIn wsL_law wsX4_offer := goodIn_r _ [284, 15, 162, 163, 164, 14, 165, 166, 167, 168, 169, 151, 170, 171, 172, 173, 130, 285, 286, 287, 288, 37, 34, 38, 36, 289, 175, 176, 177, 41, 290, 199, 200, 201, 40, 601, 602, 603, 604, 605, 634, 635, 636, 637, 638, 639, 640, 641, 642] rfl (by decide +kernel)
set_option maxRecDepth 20000 in
theorem gL_law_X4_offer : GoodIn wsL_law (wsV RL 48 RX4 yX4_offer wsX4_offer) := goodIn_app (goodIn_r _ [281, 282, 283, 2] rfl (by decide +kernel)) ggL_law_X4_offer
set_option maxRecDepth 20000 in
theorem ggL_law_X5_offer : GoodIn wsL_law wsX5_offer := goodIn_r _ [294, 135, 190, 191, 192, 5, 193, 157, 140, 141, 142, 186, 187, 188, 189, 139, 295, 296, 297, 298, 94, 93, 90, 96, 92, 210, 211, 212, 213, 95, 606, 607, 608, 609, 610, 611, 612, 613, 614, 615, 616, 617, 618, 619, 620, 621, 622, 623, 624, 625, 626, 627, 628, 629, 630, 631, 632, 633] rfl (by decide +kernel)
set_option maxRecDepth 20000 in
theorem gL_law_X5_offer : GoodIn wsL_law (wsV RL 51 RX5 yX5_offer wsX5_offer) := goodIn_app (goodIn_r _ [291, 292, 293, 5] rfl (by decide +kernel)) ggL_law_X5_offer
set_option maxRecDepth 20000 in
theorem ggL_law_X4_next : GoodIn wsL_law wsX4_next := goodIn_r _ [302, 15, 22, 218, 167, 168, 14, 169, 151, 303, 304, 305, 18, 306, 56, 307, 308, 286, 287, 288, 37, 34, 38, 36, 289, 175, 176, 177, 41, 290, 199, 200, 201, 40, 309, 310, 311, 312, 62, 313, 314, 315, 316, 601, 602, 603, 604, 605, 634, 635, 636, 637, 638, 639, 640, 641, 642, 643, 644, 645, 646, 647, 648, 649, 650] rfl (by decide +kernel)
set_option maxRecDepth 20000 in
theorem gL_law_X4_next : GoodIn wsL_law (wsV RL 52 RX4 yX4_next wsX4_next) := goodIn_app (goodIn_r _ [299, 300, 301, 2] rfl (by decide +kernel)) ggL_law_X4_next
set_option maxRecDepth 20000 in
theorem ggL_law_X5_next : GoodIn wsL_law wsX5_next := goodIn_r _ [320, 135, 97, 190, 191, 192, 5, 193, 157, 140, 141, 142, 321, 322, 323, 324, 139, 295, 296, 297, 298, 94, 93, 90, 96, 92, 210, 211, 212, 213, 95, 606, 607, 608, 609, 610, 611, 612, 613, 614, 615, 616, 617, 618, 619, 620, 621, 622, 623, 624, 625, 626, 627, 628, 629, 630, 631, 632, 633] rfl (by decide +kernel)
set_option maxRecDepth 20000 in
theorem gL_law_X5_next : GoodIn wsL_law (wsV RL 56 RX5 yX5_next wsX5_next) := goodIn_app (goodIn_r _ [317, 318, 319, 5] rfl (by decide +kernel)) ggL_law_X5_next
set_option maxRecDepth 20000 in
theorem ggL_law_X4_go : GoodIn wsL_law wsX4_go := goodIn_r _ [328, 27, 22, 329, 119, 120, 2, 121, 122, 123, 124, 26, 125, 78, 330, 331, 332, 18, 333, 67, 334, 335, 48, 336, 337, 338, 339, 340, 56, 341, 61, 342, 343, 344, 345, 58, 62, 57, 346, 304, 305, 306, 307, 308, 286, 287, 14, 288, 37, 34, 38, 36, 289, 175, 176, 177, 41, 290, 199, 200, 201, 40, 309, 310, 311, 312, 313, 314, 315, 316, 347, 348, 349, 350, 59, 351, 244, 245, 246, 352, 353, 354, 21, 355, 356, 50, 51, 357, 358, 359, 360, 60, 361, 362, 363, 364, 601, 602, 603, 604, 605, 643, 644, 645, 646, 647, 648, 649, 650, 654, 655, 656, 657, 658, 659, 634, 635, 636, 637, 638, 639, 640, 641, 642, 651, 652, 653] rfl (by decide +kernel)
set_option maxRecDepth 20000 in
theorem gL_law_X4_go : GoodIn wsL_law (wsV RL 57 RX4 yX4_go wsX4_go) := goodIn_app (goodIn_r _ [325, 326, 327, 2] rfl (by decide +kernel)) ggL_law_X4_go
set_option maxRecDepth 20000 in
theorem ggL_law_X5_go : GoodIn wsL_law wsX5_go := goodIn_r _ [368, 135, 369, 103, 370, 157, 104, 140, 141, 5, 142, 371, 372, 373, 374, 97, 101, 98, 99, 102, 375, 100, 321, 322, 323, 324, 139, 295, 296, 297, 298, 94, 93, 90, 96, 92, 210, 211, 212, 213, 95, 606, 607, 608, 609, 610, 611, 612, 613, 614, 615, 616, 617, 618, 619, 620, 621, 622, 623, 624, 625, 626, 627, 628, 629, 630, 631, 632, 633] rfl (by decide +kernel)
set_option maxRecDepth 20000 in
theorem gL_law_X5_go : GoodIn wsL_law (wsV RL 60 RX5 yX5_go wsX5_go) := goodIn_app (goodIn_r _ [365, 366, 367, 5] rfl (by decide +kernel)) ggL_law_X5_go
set_option maxRecDepth 20000 in
theorem ggL_law_X4_bargains : GoodIn wsL_law wsX4_bargains := goodIn_r _ [379, 22, 380, 381, 601, 602, 603, 604, 605, 643, 644, 645, 646, 647, 648, 649, 650, 651, 652, 653] rfl (by decide +kernel)
set_option maxRecDepth 20000 in
theorem gL_law_X4_bargains : GoodIn wsL_law (wsV RL 61 RX4 yX4_bargains wsX4_bargains) := goodIn_app (goodIn_r _ [376, 377, 378, 2] rfl (by decide +kernel)) ggL_law_X4_bargains
set_option maxRecDepth 20000 in
theorem ggL_law_X5_bargains : GoodIn wsL_law wsX5_bargains := goodIn_r _ [385, 135, 375, 606, 607, 608, 609, 610, 611, 612, 613, 614, 615, 616, 617, 618, 619, 620, 621, 622, 623, 624, 625, 626, 627, 628, 629, 630, 631, 632, 633] rfl (by decide +kernel)
set_option maxRecDepth 20000 in
theorem gL_law_X5_bargains : GoodIn wsL_law (wsV RL 65 RX5 yX5_bargains wsX5_bargains) := goodIn_app (goodIn_r _ [382, 383, 384, 5] rfl (by decide +kernel)) ggL_law_X5_bargains
set_option maxRecDepth 20000 in
theorem ggL_law_X4_bargain : GoodIn wsL_law wsX4_bargain := goodIn_r _ [389, 22, 380, 390, 391, 392, 21, 393, 356, 119, 120, 2, 121, 394, 395, 396, 397, 51, 601, 602, 603, 604, 605, 643, 644, 645, 646, 647, 648, 649, 650, 651, 652, 653] rfl (by decide +kernel)
set_option maxRecDepth 20000 in
theorem gL_law_X4_bargain : GoodIn wsL_law (wsV RL 66 RX4 yX4_bargain wsX4_bargain) := goodIn_app (goodIn_r _ [386, 387, 388, 2] rfl (by decide +kernel)) ggL_law_X4_bargain
set_option maxRecDepth 20000 in
theorem ggL_law_X5_bargain : GoodIn wsL_law wsX5_bargain := goodIn_r _ [401, 135, 375, 402, 102, 140, 141, 5, 142, 606, 607, 608, 609, 610, 611, 612, 613, 614, 615, 616, 617, 618, 619, 620, 621, 622, 623, 624, 625, 626, 627, 628, 629, 630, 631, 632, 633] rfl (by decide +kernel)
set_option maxRecDepth 20000 in
theorem gL_law_X5_bargain : GoodIn wsL_law (wsV RL 69 RX5 yX5_bargain wsX5_bargain) := goodIn_app (goodIn_r _ [398, 399, 400, 5] rfl (by decide +kernel)) ggL_law_X5_bargain
set_option maxRecDepth 20000 in
theorem ggL_law_X4_torn : GoodIn wsL_law wsX4_torn := goodIn_r _ [406, 22, 407, 408, 409, 18, 410, 56, 307, 341, 411, 412, 413, 414, 58, 59, 308, 286, 287, 14, 288, 37, 34, 38, 36, 289, 175, 176, 177, 41, 290, 199, 200, 201, 40, 351, 244, 245, 246, 415, 416, 417, 418, 61, 313, 314, 315, 316, 601, 602, 603, 604, 605, 643, 644, 645, 646, 647, 648, 649, 650, 634, 635, 636, 637, 638, 639, 640, 641, 642] rfl (by decide +kernel)
set_option maxRecDepth 20000 in
theorem gL_law_X4_torn : GoodIn wsL_law (wsV RL 70 RX4 yX4_torn wsX4_torn) := goodIn_app (goodIn_r _ [403, 404, 405, 2] rfl (by decide +kernel)) ggL_law_X4_torn
set_option maxRecDepth 20000 in
theorem ggL_law_X5_torn : GoodIn wsL_law wsX5_torn := goodIn_r _ [422, 135, 139, 157, 98, 99, 101, 423, 424, 425, 5, 426, 295, 296, 297, 298, 94, 93, 90, 96, 92, 210, 211, 212, 213, 95, 606, 607, 608, 609, 610, 611, 612, 613, 614, 615, 616, 617, 618, 619, 620, 621, 622, 623, 624, 625, 626, 627, 628, 629, 630, 631, 632, 633] rfl (by decide +kernel)
set_option maxRecDepth 20000 in
theorem gL_law_X5_torn : GoodIn wsL_law (wsV RL 73 RX5 yX5_torn wsX5_torn) := goodIn_app (goodIn_r _ [419, 420, 421, 5] rfl (by decide +kernel)) ggL_law_X5_torn
set_option maxRecDepth 20000 in
theorem ggL_law_X4_pair : GoodIn wsL_law wsX4_pair := goodIn_r _ [430, 22, 431, 432, 433, 18, 434, 56, 307, 341, 411, 412, 413, 414, 58, 59, 308, 286, 287, 14, 288, 37, 34, 38, 36, 289, 175, 176, 177, 41, 290, 199, 200, 201, 40, 351, 244, 245, 246, 415, 416, 417, 418, 61, 313, 314, 315, 316, 601, 602, 603, 604, 605, 643, 644, 645, 646, 647, 648, 649, 650, 634, 635, 636, 637, 638, 639, 640, 641, 642] rfl (by decide +kernel)
set_option maxRecDepth 20000 in
theorem gL_law_X4_pair : GoodIn wsL_law (wsV RL 74 RX4 yX4_pair wsX4_pair) := goodIn_app (goodIn_r _ [427, 428, 429, 2] rfl (by decide +kernel)) ggL_law_X4_pair
set_option maxRecDepth 20000 in
theorem ggL_law_X5_pair : GoodIn wsL_law wsX5_pair := goodIn_r _ [438, 135, 139, 157, 98, 99, 101, 423, 424, 425, 5, 426, 295, 296, 297, 298, 94, 93, 90, 96, 92, 210, 211, 212, 213, 95, 606, 607, 608, 609, 610, 611, 612, 613, 614, 615, 616, 617, 618, 619, 620, 621, 622, 623, 624, 625, 626, 627, 628, 629, 630, 631, 632, 633] rfl (by decide +kernel)
set_option maxRecDepth 20000 in
theorem gL_law_X5_pair : GoodIn wsL_law (wsV RL 77 RX5 yX5_pair wsX5_pair) := goodIn_app (goodIn_r _ [435, 436, 437, 5] rfl (by decide +kernel)) ggL_law_X5_pair
set_option maxRecDepth 20000 in
theorem ggL_law_X4_foretold : GoodIn wsL_law wsX4_foretold := goodIn_r _ [442, 23, 119, 120, 2, 121, 443, 64, 65, 18, 66, 67, 57, 68, 58, 59, 60, 61, 62, 69, 70, 71, 72, 330, 331, 332, 333, 334, 335, 48, 336, 337, 338, 339, 340, 56, 341, 342, 343, 344, 345, 346, 304, 305, 306, 307, 308, 286, 287, 14, 288, 37, 34, 38, 36, 289, 175, 176, 177, 41, 290, 199, 200, 201, 40, 309, 310, 311, 312, 313, 314, 315, 316, 347, 348, 349, 350, 351, 244, 245, 246, 352, 353, 354, 21, 355, 356, 50, 51, 357, 358, 359, 360, 444, 445, 446, 447, 407, 408, 409, 410, 411, 412, 413, 414, 415, 416, 417, 418, 448, 449, 450, 451, 601, 602, 603, 604, 605, 643, 644, 645, 646, 647, 648, 649, 650, 651, 652, 653, 634, 635, 636, 637, 638, 639, 640, 641, 642] rfl (by decide +kernel)
set_option maxRecDepth 20000 in
theorem gL_law_X4_foretold : GoodIn wsL_law (wsV RL 78 RX4 yX4_foretold wsX4_foretold) := goodIn_app (goodIn_r _ [439, 440, 441, 2] rfl (by decide +kernel)) ggL_law_X4_foretold
set_option maxRecDepth 20000 in
theorem ggL_law_X5_foretold : GoodIn wsL_law wsX5_foretold := goodIn_r _ [455, 135, 136, 139, 109, 110, 157, 111, 140, 141, 5, 142, 456, 457, 458, 459, 108, 321, 322, 323, 324, 295, 296, 297, 298, 94, 93, 90, 96, 92, 210, 211, 212, 213, 95, 423, 424, 425, 426, 606, 607, 608, 609, 610, 611, 612, 613, 614, 615, 616, 617, 618, 619, 620, 621, 622, 623, 624, 625, 626, 627, 628, 629, 630, 631, 632, 633] rfl (by decide +kernel)
set_option maxRecDepth 20000 in
theorem gL_law_X5_foretold : GoodIn wsL_law (wsV RL 81 RX5 yX5_foretold wsX5_foretold) := goodIn_app (goodIn_r _ [452, 453, 454, 5] rfl (by decide +kernel)) ggL_law_X5_foretold
set_option maxRecDepth 20000 in
theorem ggL_law_X4_text : GoodIn wsL_law wsX4_text := goodIn_r _ [463, 28, 119, 120, 2, 121, 601, 602, 603, 604, 605] rfl (by decide +kernel)
set_option maxRecDepth 20000 in
theorem gL_law_X4_text : GoodIn wsL_law (wsV RL 82 RX4 yX4_text wsX4_text) := goodIn_app (goodIn_r _ [460, 461, 462, 2] rfl (by decide +kernel)) ggL_law_X4_text
set_option maxRecDepth 20000 in
theorem ggL_law_X5_text : GoodIn wsL_law wsX5_text := goodIn_r _ [467, 135, 468, 140, 141, 5, 142, 606, 607, 608, 609, 610, 611, 612, 613, 614, 615, 616, 617, 618, 619, 620, 621, 622, 623, 624, 625, 626, 627, 628, 629, 630, 631, 632, 633] rfl (by decide +kernel)
set_option maxRecDepth 20000 in
theorem gL_law_X5_text : GoodIn wsL_law (wsV RL 85 RX5 yX5_text wsX5_text) := goodIn_app (goodIn_r _ [464, 465, 466, 5] rfl (by decide +kernel)) ggL_law_X5_text
set_option maxRecDepth 20000 in
theorem ggL_law_X4_days : GoodIn wsL_law wsX4_days := goodIn_r _ [472, 27, 473, 119, 120, 2, 121, 122, 123, 124, 26, 125, 78, 601, 602, 603, 604, 605, 654, 655, 656, 657, 658, 659] rfl (by decide +kernel)
set_option maxRecDepth 20000 in
theorem gL_law_X4_days : GoodIn wsL_law (wsV RL 86 RX4 yX4_days wsX4_days) := goodIn_app (goodIn_r _ [469, 470, 471, 2] rfl (by decide +kernel)) ggL_law_X4_days
set_option maxRecDepth 20000 in
theorem ggL_law_X5_days : GoodIn wsL_law wsX5_days := goodIn_r _ [477, 135, 478, 103, 140, 141, 5, 142, 606, 607, 608, 609, 610, 611, 612, 613, 614, 615, 616, 617, 618, 619, 620, 621, 622, 623, 624, 625, 626, 627, 628, 629, 630, 631, 632, 633] rfl (by decide +kernel)
set_option maxRecDepth 20000 in
theorem gL_law_X5_days : GoodIn wsL_law (wsV RL 89 RX5 yX5_days wsX5_days) := goodIn_app (goodIn_r _ [474, 475, 476, 5] rfl (by decide +kernel)) ggL_law_X5_days
set_option maxRecDepth 20000 in
theorem ggL_law_X4_sick : GoodIn wsL_law wsX4_sick := goodIn_r _ [482, 15, 27, 237, 171, 172, 14, 173, 130, 119, 120, 2, 121, 483, 484, 485, 26, 486, 78, 242, 123, 124, 125, 487, 488, 489, 490, 77, 79, 243, 244, 245, 18, 246, 58, 491, 492, 493, 494, 495, 335, 48, 336, 84, 496, 497, 498, 499, 500, 501, 502, 503, 504, 505, 601, 602, 603, 604, 605, 634, 635, 636, 637, 638, 639, 640, 641, 642, 654, 655, 656, 657, 658, 659, 643, 644, 645, 646, 647, 648, 649, 650] rfl (by decide +kernel)
set_option maxRecDepth 20000 in
theorem gL_law_X4_sick : GoodIn wsL_law (wsV RL 90 RX4 yX4_sick wsX4_sick) := goodIn_app (goodIn_r _ [479, 480, 481, 2] rfl (by decide +kernel)) ggL_law_X4_sick
set_option maxRecDepth 20000 in
theorem ggL_law_X5_sick : GoodIn wsL_law wsX5_sick := goodIn_r _ [509, 135, 478, 103, 107, 186, 187, 188, 5, 189, 139, 140, 141, 142, 510, 511, 512, 513, 98, 104, 606, 607, 608, 609, 610, 611, 612, 613, 614, 615, 616, 617, 618, 619, 620, 621, 622, 623, 624, 625, 626, 627, 628, 629, 630, 631, 632, 633] rfl (by decide +kernel)
set_option maxRecDepth 20000 in
theorem gL_law_X5_sick : GoodIn wsL_law (wsV RL 93 RX5 yX5_sick wsX5_sick) := goodIn_app (goodIn_r _ [506, 507, 508, 5] rfl (by decide +kernel)) ggL_law_X5_sick
set_option maxRecDepth 20000 in
theorem ggL_law_X4_warn : GoodIn wsL_law wsX4_warn := goodIn_r _ [517, 15, 27, 518, 237, 171, 172, 14, 173, 130, 483, 484, 485, 26, 486, 78, 242, 123, 124, 125, 487, 488, 489, 490, 77, 79, 243, 244, 245, 18, 246, 58, 519, 520, 521, 522, 81, 495, 335, 48, 336, 601, 602, 603, 604, 605, 654, 655, 656, 657, 658, 659, 634, 635, 636, 637, 638, 639, 640, 641, 642, 643, 644, 645, 646, 647, 648, 649, 650] rfl (by decide +kernel)
set_option maxRecDepth 20000 in
theorem gL_law_X4_warn : GoodIn wsL_law (wsV RL 94 RX4 yX4_warn wsX4_warn) := goodIn_app (goodIn_r _ [514, 515, 516, 2] rfl (by decide +kernel)) ggL_law_X4_warn
set_option maxRecDepth 20000 in
theorem ggL_law_X5_warn : GoodIn wsL_law wsX5_warn := goodIn_r _ [526, 135, 103, 105, 104, 186, 187, 188, 5, 189, 139, 140, 141, 142, 510, 511, 512, 513, 98, 606, 607, 608, 609, 610, 611, 612, 613, 614, 615, 616, 617, 618, 619, 620, 621, 622, 623, 624, 625, 626, 627, 628, 629, 630, 631, 632, 633] rfl (by decide +kernel)
set_option maxRecDepth 20000 in
theorem gL_law_X5_warn : GoodIn wsL_law (wsV RL 97 RX5 yX5_warn wsX5_warn) := goodIn_app (goodIn_r _ [523, 524, 525, 5] rfl (by decide +kernel)) ggL_law_X5_warn
set_option maxRecDepth 20000 in
theorem ggL_law_X4_run : GoodIn wsL_law wsX4_run := goodIn_r _ [530, 15, 27, 531, 28, 237, 171, 172, 14, 173, 130, 483, 484, 485, 26, 486, 78, 242, 123, 124, 125, 487, 488, 489, 490, 77, 79, 243, 244, 245, 18, 246, 58, 532, 533, 534, 535, 601, 602, 603, 604, 605, 654, 655, 656, 657, 658, 659, 634, 635, 636, 637, 638, 639, 640, 641, 642, 643, 644, 645, 646, 647, 648, 649, 650] rfl (by decide +kernel)
set_option maxRecDepth 20000 in
theorem gL_law_X4_run : GoodIn wsL_law (wsV RL 98 RX4 yX4_run wsX4_run) := goodIn_app (goodIn_r _ [527, 528, 529, 2] rfl (by decide +kernel)) ggL_law_X4_run
set_option maxRecDepth 20000 in
theorem ggL_law_X5_run : GoodIn wsL_law wsX5_run := goodIn_r _ [539, 135, 103, 104, 106, 468, 186, 187, 188, 5, 189, 139, 140, 141, 142, 510, 511, 512, 513, 98, 606, 607, 608, 609, 610, 611, 612, 613, 614, 615, 616, 617, 618, 619, 620, 621, 622, 623, 624, 625, 626, 627, 628, 629, 630, 631, 632, 633] rfl (by decide +kernel)
set_option maxRecDepth 20000 in
theorem gL_law_X5_run : GoodIn wsL_law (wsV RL 101 RX5 yX5_run wsX5_run) := goodIn_app (goodIn_r _ [536, 537, 538, 5] rfl (by decide +kernel)) ggL_law_X5_run
set_option maxRecDepth 20000 in
theorem ggL_law_X4_send : GoodIn wsL_law wsX4_send := goodIn_r _ [543, 15, 27, 237, 171, 172, 14, 173, 130, 483, 484, 485, 26, 486, 78, 242, 123, 124, 125, 487, 488, 489, 490, 77, 79, 243, 244, 245, 18, 246, 58, 544, 545, 546, 2, 547, 22, 234, 232, 198, 199, 200, 201, 40, 532, 533, 534, 535, 601, 602, 603, 604, 605, 634, 635, 636, 637, 638, 639, 640, 641, 642, 654, 655, 656, 657, 658, 659, 643, 644, 645, 646, 647, 648, 649, 650] rfl (by decide +kernel)
set_option maxRecDepth 20000 in
theorem gL_law_X4_send : GoodIn wsL_law (wsV RL 102 RX4 yX4_send wsX4_send) := goodIn_app (goodIn_r _ [540, 541, 542, 2] rfl (by decide +kernel)) ggL_law_X4_send
set_option maxRecDepth 20000 in
theorem ggL_law_X5_send : GoodIn wsL_law wsX5_send := goodIn_r _ [551, 135, 103, 98, 91, 104, 186, 187, 188, 5, 189, 139, 140, 141, 142, 510, 511, 512, 513, 210, 211, 212, 213, 95, 606, 607, 608, 609, 610, 611, 612, 613, 614, 615, 616, 617, 618, 619, 620, 621, 622, 623, 624, 625, 626, 627, 628, 629, 630, 631, 632, 633] rfl (by decide +kernel)
set_option maxRecDepth 20000 in
theorem gL_law_X5_send : GoodIn wsL_law (wsV RL 105 RX5 yX5_send wsX5_send) := goodIn_app (goodIn_r _ [548, 549, 550, 5] rfl (by decide +kernel)) ggL_law_X5_send
set_option maxRecDepth 20000 in
theorem ggL_law_X4_due : GoodIn wsL_law wsX4_due := goodIn_r _ [555, 15, 27, 22, 237, 171, 172, 14, 173, 130, 556, 557, 2, 558, 119, 120, 121, 122, 123, 124, 26, 125, 78, 559, 244, 245, 18, 246, 58, 560, 561, 562, 563, 82, 79, 495, 335, 48, 336, 77, 564, 565, 503, 504, 505, 84, 496, 497, 498, 499, 500, 501, 601, 602, 603, 604, 605, 634, 635, 636, 637, 638, 639, 640, 641, 642, 654, 655, 656, 657, 658, 659, 643, 644, 645, 646, 647, 648, 649, 650] rfl (by decide +kernel)
set_option maxRecDepth 20000 in
theorem gL_law_X4_due : GoodIn wsL_law (wsV RL 106 RX4 yX4_due wsX4_due) := goodIn_app (goodIn_r _ [552, 553, 554, 2] rfl (by decide +kernel)) ggL_law_X4_due
set_option maxRecDepth 20000 in
theorem ggL_law_X5_due : GoodIn wsL_law wsX5_due := goodIn_r _ [569, 135, 478, 103, 98, 186, 187, 188, 5, 189, 139, 140, 141, 142, 570, 571, 572, 573, 104, 107, 106, 99, 606, 607, 608, 609, 610, 611, 612, 613, 614, 615, 616, 617, 618, 619, 620, 621, 622, 623, 624, 625, 626, 627, 628, 629, 630, 631, 632, 633] rfl (by decide +kernel)
set_option maxRecDepth 20000 in
theorem gL_law_X5_due : GoodIn wsL_law (wsV RL 109 RX5 yX5_due wsX5_due) := goodIn_app (goodIn_r _ [566, 567, 568, 5] rfl (by decide +kernel)) ggL_law_X5_due
set_option maxRecDepth 20000 in
theorem ggL_law_X4_owes : GoodIn wsL_law wsX4_owes := goodIn_r _ [577, 15, 27, 22, 257, 218, 167, 168, 14, 169, 151, 556, 557, 2, 558, 119, 120, 121, 122, 123, 124, 26, 125, 78, 560, 561, 562, 563, 82, 79, 495, 335, 48, 336, 77, 564, 565, 503, 504, 505, 84, 496, 497, 498, 499, 500, 501, 601, 602, 603, 604, 605, 643, 644, 645, 646, 647, 648, 649, 650, 634, 635, 636, 637, 638, 639, 640, 641, 642, 654, 655, 656, 657, 658, 659] rfl (by decide +kernel)
set_option maxRecDepth 20000 in
theorem gL_law_X4_owes : GoodIn wsL_law (wsV RL 110 RX4 yX4_owes wsX4_owes) := goodIn_app (goodIn_r _ [574, 575, 576, 2] rfl (by decide +kernel)) ggL_law_X4_owes
set_option maxRecDepth 20000 in
theorem ggL_law_X5_owes : GoodIn wsL_law wsX5_owes := goodIn_r _ [581, 135, 478, 103, 101, 190, 191, 192, 5, 193, 157, 140, 141, 142, 570, 571, 572, 573, 104, 107, 106, 99, 606, 607, 608, 609, 610, 611, 612, 613, 614, 615, 616, 617, 618, 619, 620, 621, 622, 623, 624, 625, 626, 627, 628, 629, 630, 631, 632, 633] rfl (by decide +kernel)
set_option maxRecDepth 20000 in
theorem gL_law_X5_owes : GoodIn wsL_law (wsV RL 113 RX5 yX5_owes wsX5_owes) := goodIn_app (goodIn_r _ [578, 579, 580, 5] rfl (by decide +kernel)) ggL_law_X5_owes
set_option maxRecDepth 20000 in
theorem ggL_law_X4_hands : GoodIn wsL_law wsX4_hands := goodIn_r _ [585, 27, 15, 586, 231, 116, 117, 2, 118, 119, 120, 121, 556, 557, 558, 122, 123, 124, 26, 125, 78, 587, 488, 489, 490, 77, 79, 243, 244, 245, 18, 246, 58, 601, 602, 603, 604, 605, 634, 635, 636, 637, 638, 639, 640, 641, 642, 654, 655, 656, 657, 658, 659, 643, 644, 645, 646, 647, 648, 649, 650] rfl (by decide +kernel)
set_option maxRecDepth 20000 in
theorem gL_law_X4_hands : GoodIn wsL_law (wsV RL 114 RX4 yX4_hands wsX4_hands) := goodIn_app (goodIn_r _ [582, 583, 584, 2] rfl (by decide +kernel)) ggL_law_X4_hands
set_option maxRecDepth 20000 in
theorem ggL_law_X5_hands : GoodIn wsL_law wsX5_hands := goodIn_r _ [591, 135, 136, 478, 103, 139, 90, 140, 141, 5, 142, 510, 511, 512, 513, 98, 104, 606, 607, 608, 609, 610, 611, 612, 613, 614, 615, 616, 617, 618, 619, 620, 621, 622, 623, 624, 625, 626, 627, 628, 629, 630, 631, 632, 633] rfl (by decide +kernel)
set_option maxRecDepth 20000 in
theorem gL_law_X5_hands : GoodIn wsL_law (wsV RL 117 RX5 yX5_hands wsX5_hands) := goodIn_app (goodIn_r _ [588, 589, 590, 5] rfl (by decide +kernel)) ggL_law_X5_hands
set_option maxRecDepth 20000 in
theorem ggL_law_X4_total : GoodIn wsL_law wsX4_total := goodIn_r _ [595, 15, 586, 596, 22, 329, 27, 473, 28, 444, 445, 446, 18, 447, 56, 307, 351, 244, 245, 246, 58, 448, 449, 450, 451, 59, 601, 602, 603, 604, 605, 634, 635, 636, 637, 638, 639, 640, 641, 642, 643, 644, 645, 646, 647, 648, 649, 650, 654, 655, 656, 657, 658, 659] rfl (by decide +kernel)
set_option maxRecDepth 20000 in
theorem gL_law_X4_total : GoodIn wsL_law (wsV RL 118 RX4 yX4_total wsX4_total) := goodIn_app (goodIn_r _ [592, 593, 594, 2] rfl (by decide +kernel)) ggL_law_X4_total
set_option maxRecDepth 20000 in
theorem ggL_law_X5_total : GoodIn wsL_law wsX5_total := goodIn_r _ [600, 135, 139, 98, 99, 157, 370, 103, 468, 606, 607, 608, 609, 610, 611, 612, 613, 614, 615, 616, 617, 618, 619, 620, 621, 622, 623, 624, 625, 626, 627, 628, 629, 630, 631, 632, 633] rfl (by decide +kernel)
set_option maxRecDepth 20000 in
theorem gL_law_X5_total : GoodIn wsL_law (wsV RL 121 RX5 yX5_total wsX5_total) := goodIn_app (goodIn_r _ [597, 598, 599, 5] rfl (by decide +kernel)) ggL_law_X5_total
theorem dL_law_0 : decode cL_law 0 = .ok (.new 7, 3) := by decide +kernel
theorem dL_law_3 : decode cL_law 3 = .ok (.dup, 1) := by decide +kernel
theorem dL_law_4 : decode cL_law 4 = .ok (.invokespecial 9, 3) := by decide +kernel
theorem dL_law_7 : decode cL_law 7 = .ok (.astore_n 1, 1) := by decide +kernel
theorem dL_law_8 : decode cL_law 8 = .ok (.new 10, 3) := by decide +kernel
theorem dL_law_11 : decode cL_law 11 = .ok (.dup, 1) := by decide +kernel
theorem dL_law_12 : decode cL_law 12 = .ok (.invokespecial 12, 3) := by decide +kernel
theorem dL_law_15 : decode cL_law 15 = .ok (.astore_n 2, 1) := by decide +kernel
theorem dL_law_16 : decode cL_law 16 = .ok (.iconst 0, 1) := by decide +kernel
theorem dL_law_17 : decode cL_law 17 = .ok (.istore_n 3, 1) := by decide +kernel
theorem dL_law_18 : decode cL_law 18 = .ok (.iload_n 3, 1) := by decide +kernel
theorem dL_law_19 : decode cL_law 19 = .ok (.aload_n 0, 1) := by decide +kernel
theorem dL_law_20 : decode cL_law 20 = .ok (.arraylength, 1) := by decide +kernel
theorem dL_law_21 : decode cL_law 21 = .ok (.iconst 4, 1) := by decide +kernel
theorem dL_law_22 : decode cL_law 22 = .ok (.isub, 1) := by decide +kernel
theorem dL_law_23 : decode cL_law 23 = .ok (.if_icmp .gt 919, 3) := by decide +kernel
theorem dL_law_26 : decode cL_law 26 = .ok (.aload_n 0, 1) := by decide +kernel
theorem dL_law_27 : decode cL_law 27 = .ok (.iload_n 3, 1) := by decide +kernel
theorem dL_law_28 : decode cL_law 28 = .ok (.iaload, 1) := by decide +kernel
theorem dL_law_29 : decode cL_law 29 = .ok (.bipush 31, 2) := by decide +kernel
theorem dL_law_31 : decode cL_law 31 = .ok (.iand, 1) := by decide +kernel
theorem dL_law_32 : decode cL_law 32 = .ok (.tableswitch 904 0 25 #[120, 163, 196, 255, 298, 341, 374, 407, 440, 473, 496, 519, 532, 565, 578, 601, 634, 657, 680, 713, 736, 759, 782, 815, 848, 881], 120) := by decide +kernel
theorem dL_law_152 : decode cL_law 152 = .ok (.aload_n 1, 1) := by decide +kernel
theorem dL_law_153 : decode cL_law 153 = .ok (.aload_n 0, 1) := by decide +kernel
theorem dL_law_154 : decode cL_law 154 = .ok (.iload_n 3, 1) := by decide +kernel
theorem dL_law_155 : decode cL_law 155 = .ok (.iconst 1, 1) := by decide +kernel
theorem dL_law_156 : decode cL_law 156 = .ok (.iadd, 1) := by decide +kernel
theorem dL_law_157 : decode cL_law 157 = .ok (.iaload, 1) := by decide +kernel
theorem dL_law_158 : decode cL_law 158 = .ok (.aload_n 0, 1) := by decide +kernel
theorem dL_law_159 : decode cL_law 159 = .ok (.iload_n 3, 1) := by decide +kernel
theorem dL_law_160 : decode cL_law 160 = .ok (.iconst 2, 1) := by decide +kernel
theorem dL_law_161 : decode cL_law 161 = .ok (.iadd, 1) := by decide +kernel
theorem dL_law_162 : decode cL_law 162 = .ok (.iaload, 1) := by decide +kernel
theorem dL_law_163 : decode cL_law 163 = .ok (.aload_n 0, 1) := by decide +kernel
theorem dL_law_164 : decode cL_law 164 = .ok (.iload_n 3, 1) := by decide +kernel
theorem dL_law_165 : decode cL_law 165 = .ok (.iconst 3, 1) := by decide +kernel
theorem dL_law_166 : decode cL_law 166 = .ok (.iadd, 1) := by decide +kernel
theorem dL_law_167 : decode cL_law 167 = .ok (.iaload, 1) := by decide +kernel
theorem dL_law_168 : decode cL_law 168 = .ok (.invokevirtual 13, 3) := by decide +kernel
theorem dL_law_171 : decode cL_law 171 = .ok (.aload_n 2, 1) := by decide +kernel
theorem dL_law_172 : decode cL_law 172 = .ok (.aload_n 0, 1) := by decide +kernel
theorem dL_law_173 : decode cL_law 173 = .ok (.iload_n 3, 1) := by decide +kernel
theorem dL_law_174 : decode cL_law 174 = .ok (.iconst 1, 1) := by decide +kernel
theorem dL_law_175 : decode cL_law 175 = .ok (.iadd, 1) := by decide +kernel
theorem dL_law_176 : decode cL_law 176 = .ok (.iaload, 1) := by decide +kernel
theorem dL_law_177 : decode cL_law 177 = .ok (.aload_n 0, 1) := by decide +kernel
theorem dL_law_178 : decode cL_law 178 = .ok (.iload_n 3, 1) := by decide +kernel
theorem dL_law_179 : decode cL_law 179 = .ok (.iconst 2, 1) := by decide +kernel
theorem dL_law_180 : decode cL_law 180 = .ok (.iadd, 1) := by decide +kernel
theorem dL_law_181 : decode cL_law 181 = .ok (.iaload, 1) := by decide +kernel
theorem dL_law_182 : decode cL_law 182 = .ok (.aload_n 0, 1) := by decide +kernel
theorem dL_law_183 : decode cL_law 183 = .ok (.iload_n 3, 1) := by decide +kernel
theorem dL_law_184 : decode cL_law 184 = .ok (.iconst 3, 1) := by decide +kernel
theorem dL_law_185 : decode cL_law 185 = .ok (.iadd, 1) := by decide +kernel
theorem dL_law_186 : decode cL_law 186 = .ok (.iaload, 1) := by decide +kernel
theorem dL_law_187 : decode cL_law 187 = .ok (.invokevirtual 17, 3) := by decide +kernel
theorem dL_law_190 : decode cL_law 190 = .ok (.if_icmp .eq 746, 3) := by decide +kernel
theorem dL_law_193 : decode cL_law 193 = .ok (.iconst 0, 1) := by decide +kernel
theorem dL_law_194 : decode cL_law 194 = .ok (.ireturn, 1) := by decide +kernel
theorem dL_law_195 : decode cL_law 195 = .ok (.aload_n 1, 1) := by decide +kernel
theorem dL_law_196 : decode cL_law 196 = .ok (.aload_n 0, 1) := by decide +kernel
theorem dL_law_197 : decode cL_law 197 = .ok (.iload_n 3, 1) := by decide +kernel
theorem dL_law_198 : decode cL_law 198 = .ok (.iconst 1, 1) := by decide +kernel
theorem dL_law_199 : decode cL_law 199 = .ok (.iadd, 1) := by decide +kernel
theorem dL_law_200 : decode cL_law 200 = .ok (.iaload, 1) := by decide +kernel
theorem dL_law_201 : decode cL_law 201 = .ok (.aload_n 0, 1) := by decide +kernel
theorem dL_law_202 : decode cL_law 202 = .ok (.iload_n 3, 1) := by decide +kernel
theorem dL_law_203 : decode cL_law 203 = .ok (.iconst 2, 1) := by decide +kernel
theorem dL_law_204 : decode cL_law 204 = .ok (.iadd, 1) := by decide +kernel
theorem dL_law_205 : decode cL_law 205 = .ok (.iaload, 1) := by decide +kernel
theorem dL_law_206 : decode cL_law 206 = .ok (.invokevirtual 18, 3) := by decide +kernel
theorem dL_law_209 : decode cL_law 209 = .ok (.aload_n 2, 1) := by decide +kernel
theorem dL_law_210 : decode cL_law 210 = .ok (.aload_n 0, 1) := by decide +kernel
theorem dL_law_211 : decode cL_law 211 = .ok (.iload_n 3, 1) := by decide +kernel
theorem dL_law_212 : decode cL_law 212 = .ok (.iconst 1, 1) := by decide +kernel
theorem dL_law_213 : decode cL_law 213 = .ok (.iadd, 1) := by decide +kernel
theorem dL_law_214 : decode cL_law 214 = .ok (.iaload, 1) := by decide +kernel
theorem dL_law_215 : decode cL_law 215 = .ok (.aload_n 0, 1) := by decide +kernel
theorem dL_law_216 : decode cL_law 216 = .ok (.iload_n 3, 1) := by decide +kernel
theorem dL_law_217 : decode cL_law 217 = .ok (.iconst 2, 1) := by decide +kernel
theorem dL_law_218 : decode cL_law 218 = .ok (.iadd, 1) := by decide +kernel
theorem dL_law_219 : decode cL_law 219 = .ok (.iaload, 1) := by decide +kernel
theorem dL_law_220 : decode cL_law 220 = .ok (.invokevirtual 22, 3) := by decide +kernel
theorem dL_law_223 : decode cL_law 223 = .ok (.if_icmp .eq 713, 3) := by decide +kernel
theorem dL_law_226 : decode cL_law 226 = .ok (.iconst 0, 1) := by decide +kernel
theorem dL_law_227 : decode cL_law 227 = .ok (.ireturn, 1) := by decide +kernel
theorem dL_law_228 : decode cL_law 228 = .ok (.aload_n 1, 1) := by decide +kernel
theorem dL_law_229 : decode cL_law 229 = .ok (.aload_n 0, 1) := by decide +kernel
theorem dL_law_230 : decode cL_law 230 = .ok (.iload_n 3, 1) := by decide +kernel
theorem dL_law_231 : decode cL_law 231 = .ok (.iconst 1, 1) := by decide +kernel
theorem dL_law_232 : decode cL_law 232 = .ok (.iadd, 1) := by decide +kernel
theorem dL_law_233 : decode cL_law 233 = .ok (.iaload, 1) := by decide +kernel
theorem dL_law_234 : decode cL_law 234 = .ok (.aload_n 0, 1) := by decide +kernel
theorem dL_law_235 : decode cL_law 235 = .ok (.iload_n 3, 1) := by decide +kernel
theorem dL_law_236 : decode cL_law 236 = .ok (.iconst 2, 1) := by decide +kernel
theorem dL_law_237 : decode cL_law 237 = .ok (.iadd, 1) := by decide +kernel
theorem dL_law_238 : decode cL_law 238 = .ok (.iaload, 1) := by decide +kernel
theorem dL_law_239 : decode cL_law 239 = .ok (.aload_n 0, 1) := by decide +kernel
theorem dL_law_240 : decode cL_law 240 = .ok (.iload_n 3, 1) := by decide +kernel
theorem dL_law_241 : decode cL_law 241 = .ok (.iconst 3, 1) := by decide +kernel
theorem dL_law_242 : decode cL_law 242 = .ok (.iadd, 1) := by decide +kernel
theorem dL_law_243 : decode cL_law 243 = .ok (.iaload, 1) := by decide +kernel
theorem dL_law_244 : decode cL_law 244 = .ok (.ifCond .eq 7, 3) := by decide +kernel
theorem dL_law_247 : decode cL_law 247 = .ok (.iconst 1, 1) := by decide +kernel
theorem dL_law_248 : decode cL_law 248 = .ok (.goto 4, 3) := by decide +kernel
theorem dL_law_251 : decode cL_law 251 = .ok (.iconst 0, 1) := by decide +kernel
theorem dL_law_252 : decode cL_law 252 = .ok (.invokevirtual 23, 3) := by decide +kernel
theorem dL_law_255 : decode cL_law 255 = .ok (.aload_n 2, 1) := by decide +kernel
theorem dL_law_256 : decode cL_law 256 = .ok (.aload_n 0, 1) := by decide +kernel
theorem dL_law_257 : decode cL_law 257 = .ok (.iload_n 3, 1) := by decide +kernel
theorem dL_law_258 : decode cL_law 258 = .ok (.iconst 1, 1) := by decide +kernel
theorem dL_law_259 : decode cL_law 259 = .ok (.iadd, 1) := by decide +kernel
theorem dL_law_260 : decode cL_law 260 = .ok (.iaload, 1) := by decide +kernel
theorem dL_law_261 : decode cL_law 261 = .ok (.aload_n 0, 1) := by decide +kernel
theorem dL_law_262 : decode cL_law 262 = .ok (.iload_n 3, 1) := by decide +kernel
theorem dL_law_263 : decode cL_law 263 = .ok (.iconst 2, 1) := by decide +kernel
theorem dL_law_264 : decode cL_law 264 = .ok (.iadd, 1) := by decide +kernel
theorem dL_law_265 : decode cL_law 265 = .ok (.iaload, 1) := by decide +kernel
theorem dL_law_266 : decode cL_law 266 = .ok (.aload_n 0, 1) := by decide +kernel
theorem dL_law_267 : decode cL_law 267 = .ok (.iload_n 3, 1) := by decide +kernel
theorem dL_law_268 : decode cL_law 268 = .ok (.iconst 3, 1) := by decide +kernel
theorem dL_law_269 : decode cL_law 269 = .ok (.iadd, 1) := by decide +kernel
theorem dL_law_270 : decode cL_law 270 = .ok (.iaload, 1) := by decide +kernel
theorem dL_law_271 : decode cL_law 271 = .ok (.ifCond .eq 7, 3) := by decide +kernel
theorem dL_law_274 : decode cL_law 274 = .ok (.iconst 1, 1) := by decide +kernel
theorem dL_law_275 : decode cL_law 275 = .ok (.goto 4, 3) := by decide +kernel
theorem dL_law_278 : decode cL_law 278 = .ok (.iconst 0, 1) := by decide +kernel
theorem dL_law_279 : decode cL_law 279 = .ok (.invokevirtual 27, 3) := by decide +kernel
theorem dL_law_282 : decode cL_law 282 = .ok (.if_icmp .eq 654, 3) := by decide +kernel
theorem dL_law_285 : decode cL_law 285 = .ok (.iconst 0, 1) := by decide +kernel
theorem dL_law_286 : decode cL_law 286 = .ok (.ireturn, 1) := by decide +kernel
theorem dL_law_287 : decode cL_law 287 = .ok (.aload_n 1, 1) := by decide +kernel
theorem dL_law_288 : decode cL_law 288 = .ok (.aload_n 0, 1) := by decide +kernel
theorem dL_law_289 : decode cL_law 289 = .ok (.iload_n 3, 1) := by decide +kernel
theorem dL_law_290 : decode cL_law 290 = .ok (.iconst 1, 1) := by decide +kernel
theorem dL_law_291 : decode cL_law 291 = .ok (.iadd, 1) := by decide +kernel
theorem dL_law_292 : decode cL_law 292 = .ok (.iaload, 1) := by decide +kernel
theorem dL_law_293 : decode cL_law 293 = .ok (.aload_n 0, 1) := by decide +kernel
theorem dL_law_294 : decode cL_law 294 = .ok (.iload_n 3, 1) := by decide +kernel
theorem dL_law_295 : decode cL_law 295 = .ok (.iconst 2, 1) := by decide +kernel
theorem dL_law_296 : decode cL_law 296 = .ok (.iadd, 1) := by decide +kernel
theorem dL_law_297 : decode cL_law 297 = .ok (.iaload, 1) := by decide +kernel
theorem dL_law_298 : decode cL_law 298 = .ok (.aload_n 0, 1) := by decide +kernel
theorem dL_law_299 : decode cL_law 299 = .ok (.iload_n 3, 1) := by decide +kernel
theorem dL_law_300 : decode cL_law 300 = .ok (.iconst 3, 1) := by decide +kernel
theorem dL_law_301 : decode cL_law 301 = .ok (.iadd, 1) := by decide +kernel
theorem dL_law_302 : decode cL_law 302 = .ok (.iaload, 1) := by decide +kernel
theorem dL_law_303 : decode cL_law 303 = .ok (.invokevirtual 28, 3) := by decide +kernel
theorem dL_law_306 : decode cL_law 306 = .ok (.aload_n 2, 1) := by decide +kernel
theorem dL_law_307 : decode cL_law 307 = .ok (.aload_n 0, 1) := by decide +kernel
theorem dL_law_308 : decode cL_law 308 = .ok (.iload_n 3, 1) := by decide +kernel
theorem dL_law_309 : decode cL_law 309 = .ok (.iconst 1, 1) := by decide +kernel
theorem dL_law_310 : decode cL_law 310 = .ok (.iadd, 1) := by decide +kernel
theorem dL_law_311 : decode cL_law 311 = .ok (.iaload, 1) := by decide +kernel
theorem dL_law_312 : decode cL_law 312 = .ok (.aload_n 0, 1) := by decide +kernel
theorem dL_law_313 : decode cL_law 313 = .ok (.iload_n 3, 1) := by decide +kernel
theorem dL_law_314 : decode cL_law 314 = .ok (.iconst 2, 1) := by decide +kernel
theorem dL_law_315 : decode cL_law 315 = .ok (.iadd, 1) := by decide +kernel
theorem dL_law_316 : decode cL_law 316 = .ok (.iaload, 1) := by decide +kernel
theorem dL_law_317 : decode cL_law 317 = .ok (.aload_n 0, 1) := by decide +kernel
theorem dL_law_318 : decode cL_law 318 = .ok (.iload_n 3, 1) := by decide +kernel
theorem dL_law_319 : decode cL_law 319 = .ok (.iconst 3, 1) := by decide +kernel
theorem dL_law_320 : decode cL_law 320 = .ok (.iadd, 1) := by decide +kernel
theorem dL_law_321 : decode cL_law 321 = .ok (.iaload, 1) := by decide +kernel
theorem dL_law_322 : decode cL_law 322 = .ok (.invokevirtual 31, 3) := by decide +kernel
theorem dL_law_325 : decode cL_law 325 = .ok (.if_icmp .eq 611, 3) := by decide +kernel
theorem dL_law_328 : decode cL_law 328 = .ok (.iconst 0, 1) := by decide +kernel
theorem dL_law_329 : decode cL_law 329 = .ok (.ireturn, 1) := by decide +kernel
theorem dL_law_330 : decode cL_law 330 = .ok (.aload_n 1, 1) := by decide +kernel
theorem dL_law_331 : decode cL_law 331 = .ok (.aload_n 0, 1) := by decide +kernel
theorem dL_law_332 : decode cL_law 332 = .ok (.iload_n 3, 1) := by decide +kernel
theorem dL_law_333 : decode cL_law 333 = .ok (.iconst 1, 1) := by decide +kernel
theorem dL_law_334 : decode cL_law 334 = .ok (.iadd, 1) := by decide +kernel
theorem dL_law_335 : decode cL_law 335 = .ok (.iaload, 1) := by decide +kernel
theorem dL_law_336 : decode cL_law 336 = .ok (.aload_n 0, 1) := by decide +kernel
theorem dL_law_337 : decode cL_law 337 = .ok (.iload_n 3, 1) := by decide +kernel
theorem dL_law_338 : decode cL_law 338 = .ok (.iconst 2, 1) := by decide +kernel
theorem dL_law_339 : decode cL_law 339 = .ok (.iadd, 1) := by decide +kernel
theorem dL_law_340 : decode cL_law 340 = .ok (.iaload, 1) := by decide +kernel
theorem dL_law_341 : decode cL_law 341 = .ok (.aload_n 0, 1) := by decide +kernel
theorem dL_law_342 : decode cL_law 342 = .ok (.iload_n 3, 1) := by decide +kernel
theorem dL_law_343 : decode cL_law 343 = .ok (.iconst 3, 1) := by decide +kernel
theorem dL_law_344 : decode cL_law 344 = .ok (.iadd, 1) := by decide +kernel
theorem dL_law_345 : decode cL_law 345 = .ok (.iaload, 1) := by decide +kernel
theorem dL_law_346 : decode cL_law 346 = .ok (.invokevirtual 32, 3) := by decide +kernel
theorem dL_law_349 : decode cL_law 349 = .ok (.aload_n 2, 1) := by decide +kernel
theorem dL_law_350 : decode cL_law 350 = .ok (.aload_n 0, 1) := by decide +kernel
theorem dL_law_351 : decode cL_law 351 = .ok (.iload_n 3, 1) := by decide +kernel
theorem dL_law_352 : decode cL_law 352 = .ok (.iconst 1, 1) := by decide +kernel
theorem dL_law_353 : decode cL_law 353 = .ok (.iadd, 1) := by decide +kernel
theorem dL_law_354 : decode cL_law 354 = .ok (.iaload, 1) := by decide +kernel
theorem dL_law_355 : decode cL_law 355 = .ok (.aload_n 0, 1) := by decide +kernel
theorem dL_law_356 : decode cL_law 356 = .ok (.iload_n 3, 1) := by decide +kernel
theorem dL_law_357 : decode cL_law 357 = .ok (.iconst 2, 1) := by decide +kernel
theorem dL_law_358 : decode cL_law 358 = .ok (.iadd, 1) := by decide +kernel
theorem dL_law_359 : decode cL_law 359 = .ok (.iaload, 1) := by decide +kernel
theorem dL_law_360 : decode cL_law 360 = .ok (.aload_n 0, 1) := by decide +kernel
theorem dL_law_361 : decode cL_law 361 = .ok (.iload_n 3, 1) := by decide +kernel
theorem dL_law_362 : decode cL_law 362 = .ok (.iconst 3, 1) := by decide +kernel
theorem dL_law_363 : decode cL_law 363 = .ok (.iadd, 1) := by decide +kernel
theorem dL_law_364 : decode cL_law 364 = .ok (.iaload, 1) := by decide +kernel
theorem dL_law_365 : decode cL_law 365 = .ok (.invokevirtual 35, 3) := by decide +kernel
theorem dL_law_368 : decode cL_law 368 = .ok (.if_icmp .eq 568, 3) := by decide +kernel
theorem dL_law_371 : decode cL_law 371 = .ok (.iconst 0, 1) := by decide +kernel
theorem dL_law_372 : decode cL_law 372 = .ok (.ireturn, 1) := by decide +kernel
theorem dL_law_373 : decode cL_law 373 = .ok (.aload_n 1, 1) := by decide +kernel
theorem dL_law_374 : decode cL_law 374 = .ok (.aload_n 0, 1) := by decide +kernel
theorem dL_law_375 : decode cL_law 375 = .ok (.iload_n 3, 1) := by decide +kernel
theorem dL_law_376 : decode cL_law 376 = .ok (.iconst 1, 1) := by decide +kernel
theorem dL_law_377 : decode cL_law 377 = .ok (.iadd, 1) := by decide +kernel
theorem dL_law_378 : decode cL_law 378 = .ok (.iaload, 1) := by decide +kernel
theorem dL_law_379 : decode cL_law 379 = .ok (.aload_n 0, 1) := by decide +kernel
theorem dL_law_380 : decode cL_law 380 = .ok (.iload_n 3, 1) := by decide +kernel
theorem dL_law_381 : decode cL_law 381 = .ok (.iconst 2, 1) := by decide +kernel
theorem dL_law_382 : decode cL_law 382 = .ok (.iadd, 1) := by decide +kernel
theorem dL_law_383 : decode cL_law 383 = .ok (.iaload, 1) := by decide +kernel
theorem dL_law_384 : decode cL_law 384 = .ok (.invokevirtual 36, 3) := by decide +kernel
theorem dL_law_387 : decode cL_law 387 = .ok (.aload_n 2, 1) := by decide +kernel
theorem dL_law_388 : decode cL_law 388 = .ok (.aload_n 0, 1) := by decide +kernel
theorem dL_law_389 : decode cL_law 389 = .ok (.iload_n 3, 1) := by decide +kernel
theorem dL_law_390 : decode cL_law 390 = .ok (.iconst 1, 1) := by decide +kernel
theorem dL_law_391 : decode cL_law 391 = .ok (.iadd, 1) := by decide +kernel
theorem dL_law_392 : decode cL_law 392 = .ok (.iaload, 1) := by decide +kernel
theorem dL_law_393 : decode cL_law 393 = .ok (.aload_n 0, 1) := by decide +kernel
theorem dL_law_394 : decode cL_law 394 = .ok (.iload_n 3, 1) := by decide +kernel
theorem dL_law_395 : decode cL_law 395 = .ok (.iconst 2, 1) := by decide +kernel
theorem dL_law_396 : decode cL_law 396 = .ok (.iadd, 1) := by decide +kernel
theorem dL_law_397 : decode cL_law 397 = .ok (.iaload, 1) := by decide +kernel
theorem dL_law_398 : decode cL_law 398 = .ok (.invokevirtual 39, 3) := by decide +kernel
theorem dL_law_401 : decode cL_law 401 = .ok (.if_icmp .eq 535, 3) := by decide +kernel
theorem dL_law_404 : decode cL_law 404 = .ok (.iconst 0, 1) := by decide +kernel
theorem dL_law_405 : decode cL_law 405 = .ok (.ireturn, 1) := by decide +kernel
theorem dL_law_406 : decode cL_law 406 = .ok (.aload_n 1, 1) := by decide +kernel
theorem dL_law_407 : decode cL_law 407 = .ok (.aload_n 0, 1) := by decide +kernel
theorem dL_law_408 : decode cL_law 408 = .ok (.iload_n 3, 1) := by decide +kernel
theorem dL_law_409 : decode cL_law 409 = .ok (.iconst 1, 1) := by decide +kernel
theorem dL_law_410 : decode cL_law 410 = .ok (.iadd, 1) := by decide +kernel
theorem dL_law_411 : decode cL_law 411 = .ok (.iaload, 1) := by decide +kernel
theorem dL_law_412 : decode cL_law 412 = .ok (.aload_n 0, 1) := by decide +kernel
theorem dL_law_413 : decode cL_law 413 = .ok (.iload_n 3, 1) := by decide +kernel
theorem dL_law_414 : decode cL_law 414 = .ok (.iconst 2, 1) := by decide +kernel
theorem dL_law_415 : decode cL_law 415 = .ok (.iadd, 1) := by decide +kernel
theorem dL_law_416 : decode cL_law 416 = .ok (.iaload, 1) := by decide +kernel
theorem dL_law_417 : decode cL_law 417 = .ok (.invokevirtual 40, 3) := by decide +kernel
theorem dL_law_420 : decode cL_law 420 = .ok (.aload_n 2, 1) := by decide +kernel
theorem dL_law_421 : decode cL_law 421 = .ok (.aload_n 0, 1) := by decide +kernel
theorem dL_law_422 : decode cL_law 422 = .ok (.iload_n 3, 1) := by decide +kernel
theorem dL_law_423 : decode cL_law 423 = .ok (.iconst 1, 1) := by decide +kernel
theorem dL_law_424 : decode cL_law 424 = .ok (.iadd, 1) := by decide +kernel
theorem dL_law_425 : decode cL_law 425 = .ok (.iaload, 1) := by decide +kernel
theorem dL_law_426 : decode cL_law 426 = .ok (.aload_n 0, 1) := by decide +kernel
theorem dL_law_427 : decode cL_law 427 = .ok (.iload_n 3, 1) := by decide +kernel
theorem dL_law_428 : decode cL_law 428 = .ok (.iconst 2, 1) := by decide +kernel
theorem dL_law_429 : decode cL_law 429 = .ok (.iadd, 1) := by decide +kernel
theorem dL_law_430 : decode cL_law 430 = .ok (.iaload, 1) := by decide +kernel
theorem dL_law_431 : decode cL_law 431 = .ok (.invokevirtual 43, 3) := by decide +kernel
theorem dL_law_434 : decode cL_law 434 = .ok (.if_icmp .eq 502, 3) := by decide +kernel
theorem dL_law_437 : decode cL_law 437 = .ok (.iconst 0, 1) := by decide +kernel
theorem dL_law_438 : decode cL_law 438 = .ok (.ireturn, 1) := by decide +kernel
theorem dL_law_439 : decode cL_law 439 = .ok (.aload_n 1, 1) := by decide +kernel
theorem dL_law_440 : decode cL_law 440 = .ok (.aload_n 0, 1) := by decide +kernel
theorem dL_law_441 : decode cL_law 441 = .ok (.iload_n 3, 1) := by decide +kernel
theorem dL_law_442 : decode cL_law 442 = .ok (.iconst 1, 1) := by decide +kernel
theorem dL_law_443 : decode cL_law 443 = .ok (.iadd, 1) := by decide +kernel
theorem dL_law_444 : decode cL_law 444 = .ok (.iaload, 1) := by decide +kernel
theorem dL_law_445 : decode cL_law 445 = .ok (.aload_n 0, 1) := by decide +kernel
theorem dL_law_446 : decode cL_law 446 = .ok (.iload_n 3, 1) := by decide +kernel
theorem dL_law_447 : decode cL_law 447 = .ok (.iconst 2, 1) := by decide +kernel
theorem dL_law_448 : decode cL_law 448 = .ok (.iadd, 1) := by decide +kernel
theorem dL_law_449 : decode cL_law 449 = .ok (.iaload, 1) := by decide +kernel
theorem dL_law_450 : decode cL_law 450 = .ok (.invokevirtual 44, 3) := by decide +kernel
theorem dL_law_453 : decode cL_law 453 = .ok (.aload_n 2, 1) := by decide +kernel
theorem dL_law_454 : decode cL_law 454 = .ok (.aload_n 0, 1) := by decide +kernel
theorem dL_law_455 : decode cL_law 455 = .ok (.iload_n 3, 1) := by decide +kernel
theorem dL_law_456 : decode cL_law 456 = .ok (.iconst 1, 1) := by decide +kernel
theorem dL_law_457 : decode cL_law 457 = .ok (.iadd, 1) := by decide +kernel
theorem dL_law_458 : decode cL_law 458 = .ok (.iaload, 1) := by decide +kernel
theorem dL_law_459 : decode cL_law 459 = .ok (.aload_n 0, 1) := by decide +kernel
theorem dL_law_460 : decode cL_law 460 = .ok (.iload_n 3, 1) := by decide +kernel
theorem dL_law_461 : decode cL_law 461 = .ok (.iconst 2, 1) := by decide +kernel
theorem dL_law_462 : decode cL_law 462 = .ok (.iadd, 1) := by decide +kernel
theorem dL_law_463 : decode cL_law 463 = .ok (.iaload, 1) := by decide +kernel
theorem dL_law_464 : decode cL_law 464 = .ok (.invokevirtual 47, 3) := by decide +kernel
theorem dL_law_467 : decode cL_law 467 = .ok (.if_icmp .eq 469, 3) := by decide +kernel
theorem dL_law_470 : decode cL_law 470 = .ok (.iconst 0, 1) := by decide +kernel
theorem dL_law_471 : decode cL_law 471 = .ok (.ireturn, 1) := by decide +kernel
theorem dL_law_472 : decode cL_law 472 = .ok (.aload_n 1, 1) := by decide +kernel
theorem dL_law_473 : decode cL_law 473 = .ok (.aload_n 0, 1) := by decide +kernel
theorem dL_law_474 : decode cL_law 474 = .ok (.iload_n 3, 1) := by decide +kernel
theorem dL_law_475 : decode cL_law 475 = .ok (.iconst 1, 1) := by decide +kernel
theorem dL_law_476 : decode cL_law 476 = .ok (.iadd, 1) := by decide +kernel
theorem dL_law_477 : decode cL_law 477 = .ok (.iaload, 1) := by decide +kernel
theorem dL_law_478 : decode cL_law 478 = .ok (.aload_n 0, 1) := by decide +kernel
theorem dL_law_479 : decode cL_law 479 = .ok (.iload_n 3, 1) := by decide +kernel
theorem dL_law_480 : decode cL_law 480 = .ok (.iconst 2, 1) := by decide +kernel
theorem dL_law_481 : decode cL_law 481 = .ok (.iadd, 1) := by decide +kernel
theorem dL_law_482 : decode cL_law 482 = .ok (.iaload, 1) := by decide +kernel
theorem dL_law_483 : decode cL_law 483 = .ok (.invokevirtual 48, 3) := by decide +kernel
theorem dL_law_486 : decode cL_law 486 = .ok (.aload_n 2, 1) := by decide +kernel
theorem dL_law_487 : decode cL_law 487 = .ok (.aload_n 0, 1) := by decide +kernel
theorem dL_law_488 : decode cL_law 488 = .ok (.iload_n 3, 1) := by decide +kernel
theorem dL_law_489 : decode cL_law 489 = .ok (.iconst 1, 1) := by decide +kernel
theorem dL_law_490 : decode cL_law 490 = .ok (.iadd, 1) := by decide +kernel
theorem dL_law_491 : decode cL_law 491 = .ok (.iaload, 1) := by decide +kernel
theorem dL_law_492 : decode cL_law 492 = .ok (.aload_n 0, 1) := by decide +kernel
theorem dL_law_493 : decode cL_law 493 = .ok (.iload_n 3, 1) := by decide +kernel
theorem dL_law_494 : decode cL_law 494 = .ok (.iconst 2, 1) := by decide +kernel
theorem dL_law_495 : decode cL_law 495 = .ok (.iadd, 1) := by decide +kernel
theorem dL_law_496 : decode cL_law 496 = .ok (.iaload, 1) := by decide +kernel
theorem dL_law_497 : decode cL_law 497 = .ok (.invokevirtual 51, 3) := by decide +kernel
theorem dL_law_500 : decode cL_law 500 = .ok (.if_icmp .eq 436, 3) := by decide +kernel
theorem dL_law_503 : decode cL_law 503 = .ok (.iconst 0, 1) := by decide +kernel
theorem dL_law_504 : decode cL_law 504 = .ok (.ireturn, 1) := by decide +kernel
theorem dL_law_505 : decode cL_law 505 = .ok (.aload_n 1, 1) := by decide +kernel
theorem dL_law_506 : decode cL_law 506 = .ok (.aload_n 0, 1) := by decide +kernel
theorem dL_law_507 : decode cL_law 507 = .ok (.iload_n 3, 1) := by decide +kernel
theorem dL_law_508 : decode cL_law 508 = .ok (.iconst 1, 1) := by decide +kernel
theorem dL_law_509 : decode cL_law 509 = .ok (.iadd, 1) := by decide +kernel
theorem dL_law_510 : decode cL_law 510 = .ok (.iaload, 1) := by decide +kernel
theorem dL_law_511 : decode cL_law 511 = .ok (.invokevirtual 52, 3) := by decide +kernel
theorem dL_law_514 : decode cL_law 514 = .ok (.aload_n 2, 1) := by decide +kernel
theorem dL_law_515 : decode cL_law 515 = .ok (.aload_n 0, 1) := by decide +kernel
theorem dL_law_516 : decode cL_law 516 = .ok (.iload_n 3, 1) := by decide +kernel
theorem dL_law_517 : decode cL_law 517 = .ok (.iconst 1, 1) := by decide +kernel
theorem dL_law_518 : decode cL_law 518 = .ok (.iadd, 1) := by decide +kernel
theorem dL_law_519 : decode cL_law 519 = .ok (.iaload, 1) := by decide +kernel
theorem dL_law_520 : decode cL_law 520 = .ok (.invokevirtual 56, 3) := by decide +kernel
theorem dL_law_523 : decode cL_law 523 = .ok (.if_icmp .eq 413, 3) := by decide +kernel
theorem dL_law_526 : decode cL_law 526 = .ok (.iconst 0, 1) := by decide +kernel
theorem dL_law_527 : decode cL_law 527 = .ok (.ireturn, 1) := by decide +kernel
theorem dL_law_528 : decode cL_law 528 = .ok (.aload_n 1, 1) := by decide +kernel
theorem dL_law_529 : decode cL_law 529 = .ok (.aload_n 0, 1) := by decide +kernel
theorem dL_law_530 : decode cL_law 530 = .ok (.iload_n 3, 1) := by decide +kernel
theorem dL_law_531 : decode cL_law 531 = .ok (.iconst 1, 1) := by decide +kernel
theorem dL_law_532 : decode cL_law 532 = .ok (.iadd, 1) := by decide +kernel
theorem dL_law_533 : decode cL_law 533 = .ok (.iaload, 1) := by decide +kernel
theorem dL_law_534 : decode cL_law 534 = .ok (.invokevirtual 57, 3) := by decide +kernel
theorem dL_law_537 : decode cL_law 537 = .ok (.aload_n 2, 1) := by decide +kernel
theorem dL_law_538 : decode cL_law 538 = .ok (.aload_n 0, 1) := by decide +kernel
theorem dL_law_539 : decode cL_law 539 = .ok (.iload_n 3, 1) := by decide +kernel
theorem dL_law_540 : decode cL_law 540 = .ok (.iconst 1, 1) := by decide +kernel
theorem dL_law_541 : decode cL_law 541 = .ok (.iadd, 1) := by decide +kernel
theorem dL_law_542 : decode cL_law 542 = .ok (.iaload, 1) := by decide +kernel
theorem dL_law_543 : decode cL_law 543 = .ok (.invokevirtual 60, 3) := by decide +kernel
theorem dL_law_546 : decode cL_law 546 = .ok (.if_icmp .eq 390, 3) := by decide +kernel
theorem dL_law_549 : decode cL_law 549 = .ok (.iconst 0, 1) := by decide +kernel
theorem dL_law_550 : decode cL_law 550 = .ok (.ireturn, 1) := by decide +kernel
theorem dL_law_551 : decode cL_law 551 = .ok (.aload_n 1, 1) := by decide +kernel
theorem dL_law_552 : decode cL_law 552 = .ok (.invokevirtual 61, 3) := by decide +kernel
theorem dL_law_555 : decode cL_law 555 = .ok (.aload_n 2, 1) := by decide +kernel
theorem dL_law_556 : decode cL_law 556 = .ok (.invokevirtual 65, 3) := by decide +kernel
theorem dL_law_559 : decode cL_law 559 = .ok (.if_icmp .eq 377, 3) := by decide +kernel
theorem dL_law_562 : decode cL_law 562 = .ok (.iconst 0, 1) := by decide +kernel
theorem dL_law_563 : decode cL_law 563 = .ok (.ireturn, 1) := by decide +kernel
theorem dL_law_564 : decode cL_law 564 = .ok (.aload_n 1, 1) := by decide +kernel
theorem dL_law_565 : decode cL_law 565 = .ok (.aload_n 0, 1) := by decide +kernel
theorem dL_law_566 : decode cL_law 566 = .ok (.iload_n 3, 1) := by decide +kernel
theorem dL_law_567 : decode cL_law 567 = .ok (.iconst 1, 1) := by decide +kernel
theorem dL_law_568 : decode cL_law 568 = .ok (.iadd, 1) := by decide +kernel
theorem dL_law_569 : decode cL_law 569 = .ok (.iaload, 1) := by decide +kernel
theorem dL_law_570 : decode cL_law 570 = .ok (.aload_n 0, 1) := by decide +kernel
theorem dL_law_571 : decode cL_law 571 = .ok (.iload_n 3, 1) := by decide +kernel
theorem dL_law_572 : decode cL_law 572 = .ok (.iconst 2, 1) := by decide +kernel
theorem dL_law_573 : decode cL_law 573 = .ok (.iadd, 1) := by decide +kernel
theorem dL_law_574 : decode cL_law 574 = .ok (.iaload, 1) := by decide +kernel
theorem dL_law_575 : decode cL_law 575 = .ok (.invokevirtual 66, 3) := by decide +kernel
theorem dL_law_578 : decode cL_law 578 = .ok (.aload_n 2, 1) := by decide +kernel
theorem dL_law_579 : decode cL_law 579 = .ok (.aload_n 0, 1) := by decide +kernel
theorem dL_law_580 : decode cL_law 580 = .ok (.iload_n 3, 1) := by decide +kernel
theorem dL_law_581 : decode cL_law 581 = .ok (.iconst 1, 1) := by decide +kernel
theorem dL_law_582 : decode cL_law 582 = .ok (.iadd, 1) := by decide +kernel
theorem dL_law_583 : decode cL_law 583 = .ok (.iaload, 1) := by decide +kernel
theorem dL_law_584 : decode cL_law 584 = .ok (.aload_n 0, 1) := by decide +kernel
theorem dL_law_585 : decode cL_law 585 = .ok (.iload_n 3, 1) := by decide +kernel
theorem dL_law_586 : decode cL_law 586 = .ok (.iconst 2, 1) := by decide +kernel
theorem dL_law_587 : decode cL_law 587 = .ok (.iadd, 1) := by decide +kernel
theorem dL_law_588 : decode cL_law 588 = .ok (.iaload, 1) := by decide +kernel
theorem dL_law_589 : decode cL_law 589 = .ok (.invokevirtual 69, 3) := by decide +kernel
theorem dL_law_592 : decode cL_law 592 = .ok (.if_icmp .eq 344, 3) := by decide +kernel
theorem dL_law_595 : decode cL_law 595 = .ok (.iconst 0, 1) := by decide +kernel
theorem dL_law_596 : decode cL_law 596 = .ok (.ireturn, 1) := by decide +kernel
theorem dL_law_597 : decode cL_law 597 = .ok (.aload_n 1, 1) := by decide +kernel
theorem dL_law_598 : decode cL_law 598 = .ok (.invokevirtual 70, 3) := by decide +kernel
theorem dL_law_601 : decode cL_law 601 = .ok (.aload_n 2, 1) := by decide +kernel
theorem dL_law_602 : decode cL_law 602 = .ok (.invokevirtual 73, 3) := by decide +kernel
theorem dL_law_605 : decode cL_law 605 = .ok (.if_icmp .eq 331, 3) := by decide +kernel
theorem dL_law_608 : decode cL_law 608 = .ok (.iconst 0, 1) := by decide +kernel
theorem dL_law_609 : decode cL_law 609 = .ok (.ireturn, 1) := by decide +kernel
theorem dL_law_610 : decode cL_law 610 = .ok (.aload_n 1, 1) := by decide +kernel
theorem dL_law_611 : decode cL_law 611 = .ok (.aload_n 0, 1) := by decide +kernel
theorem dL_law_612 : decode cL_law 612 = .ok (.iload_n 3, 1) := by decide +kernel
theorem dL_law_613 : decode cL_law 613 = .ok (.iconst 1, 1) := by decide +kernel
theorem dL_law_614 : decode cL_law 614 = .ok (.iadd, 1) := by decide +kernel
theorem dL_law_615 : decode cL_law 615 = .ok (.iaload, 1) := by decide +kernel
theorem dL_law_616 : decode cL_law 616 = .ok (.invokevirtual 74, 3) := by decide +kernel
theorem dL_law_619 : decode cL_law 619 = .ok (.aload_n 2, 1) := by decide +kernel
theorem dL_law_620 : decode cL_law 620 = .ok (.aload_n 0, 1) := by decide +kernel
theorem dL_law_621 : decode cL_law 621 = .ok (.iload_n 3, 1) := by decide +kernel
theorem dL_law_622 : decode cL_law 622 = .ok (.iconst 1, 1) := by decide +kernel
theorem dL_law_623 : decode cL_law 623 = .ok (.iadd, 1) := by decide +kernel
theorem dL_law_624 : decode cL_law 624 = .ok (.iaload, 1) := by decide +kernel
theorem dL_law_625 : decode cL_law 625 = .ok (.invokevirtual 77, 3) := by decide +kernel
theorem dL_law_628 : decode cL_law 628 = .ok (.if_icmp .eq 308, 3) := by decide +kernel
theorem dL_law_631 : decode cL_law 631 = .ok (.iconst 0, 1) := by decide +kernel
theorem dL_law_632 : decode cL_law 632 = .ok (.ireturn, 1) := by decide +kernel
theorem dL_law_633 : decode cL_law 633 = .ok (.aload_n 1, 1) := by decide +kernel
theorem dL_law_634 : decode cL_law 634 = .ok (.aload_n 0, 1) := by decide +kernel
theorem dL_law_635 : decode cL_law 635 = .ok (.iload_n 3, 1) := by decide +kernel
theorem dL_law_636 : decode cL_law 636 = .ok (.iconst 1, 1) := by decide +kernel
theorem dL_law_637 : decode cL_law 637 = .ok (.iadd, 1) := by decide +kernel
theorem dL_law_638 : decode cL_law 638 = .ok (.iaload, 1) := by decide +kernel
theorem dL_law_639 : decode cL_law 639 = .ok (.aload_n 0, 1) := by decide +kernel
theorem dL_law_640 : decode cL_law 640 = .ok (.iload_n 3, 1) := by decide +kernel
theorem dL_law_641 : decode cL_law 641 = .ok (.iconst 2, 1) := by decide +kernel
theorem dL_law_642 : decode cL_law 642 = .ok (.iadd, 1) := by decide +kernel
theorem dL_law_643 : decode cL_law 643 = .ok (.iaload, 1) := by decide +kernel
theorem dL_law_644 : decode cL_law 644 = .ok (.invokevirtual 78, 3) := by decide +kernel
theorem dL_law_647 : decode cL_law 647 = .ok (.aload_n 2, 1) := by decide +kernel
theorem dL_law_648 : decode cL_law 648 = .ok (.aload_n 0, 1) := by decide +kernel
theorem dL_law_649 : decode cL_law 649 = .ok (.iload_n 3, 1) := by decide +kernel
theorem dL_law_650 : decode cL_law 650 = .ok (.iconst 1, 1) := by decide +kernel
theorem dL_law_651 : decode cL_law 651 = .ok (.iadd, 1) := by decide +kernel
theorem dL_law_652 : decode cL_law 652 = .ok (.iaload, 1) := by decide +kernel
theorem dL_law_653 : decode cL_law 653 = .ok (.aload_n 0, 1) := by decide +kernel
theorem dL_law_654 : decode cL_law 654 = .ok (.iload_n 3, 1) := by decide +kernel
theorem dL_law_655 : decode cL_law 655 = .ok (.iconst 2, 1) := by decide +kernel
theorem dL_law_656 : decode cL_law 656 = .ok (.iadd, 1) := by decide +kernel
theorem dL_law_657 : decode cL_law 657 = .ok (.iaload, 1) := by decide +kernel
theorem dL_law_658 : decode cL_law 658 = .ok (.invokevirtual 81, 3) := by decide +kernel
theorem dL_law_661 : decode cL_law 661 = .ok (.if_icmp .eq 275, 3) := by decide +kernel
theorem dL_law_664 : decode cL_law 664 = .ok (.iconst 0, 1) := by decide +kernel
theorem dL_law_665 : decode cL_law 665 = .ok (.ireturn, 1) := by decide +kernel
theorem dL_law_666 : decode cL_law 666 = .ok (.aload_n 1, 1) := by decide +kernel
theorem dL_law_667 : decode cL_law 667 = .ok (.aload_n 0, 1) := by decide +kernel
theorem dL_law_668 : decode cL_law 668 = .ok (.iload_n 3, 1) := by decide +kernel
theorem dL_law_669 : decode cL_law 669 = .ok (.iconst 1, 1) := by decide +kernel
theorem dL_law_670 : decode cL_law 670 = .ok (.iadd, 1) := by decide +kernel
theorem dL_law_671 : decode cL_law 671 = .ok (.iaload, 1) := by decide +kernel
theorem dL_law_672 : decode cL_law 672 = .ok (.invokevirtual 82, 3) := by decide +kernel
theorem dL_law_675 : decode cL_law 675 = .ok (.aload_n 2, 1) := by decide +kernel
theorem dL_law_676 : decode cL_law 676 = .ok (.aload_n 0, 1) := by decide +kernel
theorem dL_law_677 : decode cL_law 677 = .ok (.iload_n 3, 1) := by decide +kernel
theorem dL_law_678 : decode cL_law 678 = .ok (.iconst 1, 1) := by decide +kernel
theorem dL_law_679 : decode cL_law 679 = .ok (.iadd, 1) := by decide +kernel
theorem dL_law_680 : decode cL_law 680 = .ok (.iaload, 1) := by decide +kernel
theorem dL_law_681 : decode cL_law 681 = .ok (.invokevirtual 85, 3) := by decide +kernel
theorem dL_law_684 : decode cL_law 684 = .ok (.if_icmp .eq 252, 3) := by decide +kernel
theorem dL_law_687 : decode cL_law 687 = .ok (.iconst 0, 1) := by decide +kernel
theorem dL_law_688 : decode cL_law 688 = .ok (.ireturn, 1) := by decide +kernel
theorem dL_law_689 : decode cL_law 689 = .ok (.aload_n 1, 1) := by decide +kernel
theorem dL_law_690 : decode cL_law 690 = .ok (.aload_n 0, 1) := by decide +kernel
theorem dL_law_691 : decode cL_law 691 = .ok (.iload_n 3, 1) := by decide +kernel
theorem dL_law_692 : decode cL_law 692 = .ok (.iconst 1, 1) := by decide +kernel
theorem dL_law_693 : decode cL_law 693 = .ok (.iadd, 1) := by decide +kernel
theorem dL_law_694 : decode cL_law 694 = .ok (.iaload, 1) := by decide +kernel
theorem dL_law_695 : decode cL_law 695 = .ok (.invokevirtual 86, 3) := by decide +kernel
theorem dL_law_698 : decode cL_law 698 = .ok (.aload_n 2, 1) := by decide +kernel
theorem dL_law_699 : decode cL_law 699 = .ok (.aload_n 0, 1) := by decide +kernel
theorem dL_law_700 : decode cL_law 700 = .ok (.iload_n 3, 1) := by decide +kernel
theorem dL_law_701 : decode cL_law 701 = .ok (.iconst 1, 1) := by decide +kernel
theorem dL_law_702 : decode cL_law 702 = .ok (.iadd, 1) := by decide +kernel
theorem dL_law_703 : decode cL_law 703 = .ok (.iaload, 1) := by decide +kernel
theorem dL_law_704 : decode cL_law 704 = .ok (.invokevirtual 89, 3) := by decide +kernel
theorem dL_law_707 : decode cL_law 707 = .ok (.if_icmp .eq 229, 3) := by decide +kernel
theorem dL_law_710 : decode cL_law 710 = .ok (.iconst 0, 1) := by decide +kernel
theorem dL_law_711 : decode cL_law 711 = .ok (.ireturn, 1) := by decide +kernel
theorem dL_law_712 : decode cL_law 712 = .ok (.aload_n 1, 1) := by decide +kernel
theorem dL_law_713 : decode cL_law 713 = .ok (.aload_n 0, 1) := by decide +kernel
theorem dL_law_714 : decode cL_law 714 = .ok (.iload_n 3, 1) := by decide +kernel
theorem dL_law_715 : decode cL_law 715 = .ok (.iconst 1, 1) := by decide +kernel
theorem dL_law_716 : decode cL_law 716 = .ok (.iadd, 1) := by decide +kernel
theorem dL_law_717 : decode cL_law 717 = .ok (.iaload, 1) := by decide +kernel
theorem dL_law_718 : decode cL_law 718 = .ok (.aload_n 0, 1) := by decide +kernel
theorem dL_law_719 : decode cL_law 719 = .ok (.iload_n 3, 1) := by decide +kernel
theorem dL_law_720 : decode cL_law 720 = .ok (.iconst 2, 1) := by decide +kernel
theorem dL_law_721 : decode cL_law 721 = .ok (.iadd, 1) := by decide +kernel
theorem dL_law_722 : decode cL_law 722 = .ok (.iaload, 1) := by decide +kernel
theorem dL_law_723 : decode cL_law 723 = .ok (.invokevirtual 90, 3) := by decide +kernel
theorem dL_law_726 : decode cL_law 726 = .ok (.aload_n 2, 1) := by decide +kernel
theorem dL_law_727 : decode cL_law 727 = .ok (.aload_n 0, 1) := by decide +kernel
theorem dL_law_728 : decode cL_law 728 = .ok (.iload_n 3, 1) := by decide +kernel
theorem dL_law_729 : decode cL_law 729 = .ok (.iconst 1, 1) := by decide +kernel
theorem dL_law_730 : decode cL_law 730 = .ok (.iadd, 1) := by decide +kernel
theorem dL_law_731 : decode cL_law 731 = .ok (.iaload, 1) := by decide +kernel
theorem dL_law_732 : decode cL_law 732 = .ok (.aload_n 0, 1) := by decide +kernel
theorem dL_law_733 : decode cL_law 733 = .ok (.iload_n 3, 1) := by decide +kernel
theorem dL_law_734 : decode cL_law 734 = .ok (.iconst 2, 1) := by decide +kernel
theorem dL_law_735 : decode cL_law 735 = .ok (.iadd, 1) := by decide +kernel
theorem dL_law_736 : decode cL_law 736 = .ok (.iaload, 1) := by decide +kernel
theorem dL_law_737 : decode cL_law 737 = .ok (.invokevirtual 93, 3) := by decide +kernel
theorem dL_law_740 : decode cL_law 740 = .ok (.if_icmp .eq 196, 3) := by decide +kernel
theorem dL_law_743 : decode cL_law 743 = .ok (.iconst 0, 1) := by decide +kernel
theorem dL_law_744 : decode cL_law 744 = .ok (.ireturn, 1) := by decide +kernel
theorem dL_law_745 : decode cL_law 745 = .ok (.aload_n 1, 1) := by decide +kernel
theorem dL_law_746 : decode cL_law 746 = .ok (.aload_n 0, 1) := by decide +kernel
theorem dL_law_747 : decode cL_law 747 = .ok (.iload_n 3, 1) := by decide +kernel
theorem dL_law_748 : decode cL_law 748 = .ok (.iconst 1, 1) := by decide +kernel
theorem dL_law_749 : decode cL_law 749 = .ok (.iadd, 1) := by decide +kernel
theorem dL_law_750 : decode cL_law 750 = .ok (.iaload, 1) := by decide +kernel
theorem dL_law_751 : decode cL_law 751 = .ok (.invokevirtual 94, 3) := by decide +kernel
theorem dL_law_754 : decode cL_law 754 = .ok (.aload_n 2, 1) := by decide +kernel
theorem dL_law_755 : decode cL_law 755 = .ok (.aload_n 0, 1) := by decide +kernel
theorem dL_law_756 : decode cL_law 756 = .ok (.iload_n 3, 1) := by decide +kernel
theorem dL_law_757 : decode cL_law 757 = .ok (.iconst 1, 1) := by decide +kernel
theorem dL_law_758 : decode cL_law 758 = .ok (.iadd, 1) := by decide +kernel
theorem dL_law_759 : decode cL_law 759 = .ok (.iaload, 1) := by decide +kernel
theorem dL_law_760 : decode cL_law 760 = .ok (.invokevirtual 97, 3) := by decide +kernel
theorem dL_law_763 : decode cL_law 763 = .ok (.if_icmp .eq 173, 3) := by decide +kernel
theorem dL_law_766 : decode cL_law 766 = .ok (.iconst 0, 1) := by decide +kernel
theorem dL_law_767 : decode cL_law 767 = .ok (.ireturn, 1) := by decide +kernel
theorem dL_law_768 : decode cL_law 768 = .ok (.aload_n 1, 1) := by decide +kernel
theorem dL_law_769 : decode cL_law 769 = .ok (.aload_n 0, 1) := by decide +kernel
theorem dL_law_770 : decode cL_law 770 = .ok (.iload_n 3, 1) := by decide +kernel
theorem dL_law_771 : decode cL_law 771 = .ok (.iconst 1, 1) := by decide +kernel
theorem dL_law_772 : decode cL_law 772 = .ok (.iadd, 1) := by decide +kernel
theorem dL_law_773 : decode cL_law 773 = .ok (.iaload, 1) := by decide +kernel
theorem dL_law_774 : decode cL_law 774 = .ok (.invokevirtual 98, 3) := by decide +kernel
theorem dL_law_777 : decode cL_law 777 = .ok (.aload_n 2, 1) := by decide +kernel
theorem dL_law_778 : decode cL_law 778 = .ok (.aload_n 0, 1) := by decide +kernel
theorem dL_law_779 : decode cL_law 779 = .ok (.iload_n 3, 1) := by decide +kernel
theorem dL_law_780 : decode cL_law 780 = .ok (.iconst 1, 1) := by decide +kernel
theorem dL_law_781 : decode cL_law 781 = .ok (.iadd, 1) := by decide +kernel
theorem dL_law_782 : decode cL_law 782 = .ok (.iaload, 1) := by decide +kernel
theorem dL_law_783 : decode cL_law 783 = .ok (.invokevirtual 101, 3) := by decide +kernel
theorem dL_law_786 : decode cL_law 786 = .ok (.if_icmp .eq 150, 3) := by decide +kernel
theorem dL_law_789 : decode cL_law 789 = .ok (.iconst 0, 1) := by decide +kernel
theorem dL_law_790 : decode cL_law 790 = .ok (.ireturn, 1) := by decide +kernel
theorem dL_law_791 : decode cL_law 791 = .ok (.aload_n 1, 1) := by decide +kernel
theorem dL_law_792 : decode cL_law 792 = .ok (.aload_n 0, 1) := by decide +kernel
theorem dL_law_793 : decode cL_law 793 = .ok (.iload_n 3, 1) := by decide +kernel
theorem dL_law_794 : decode cL_law 794 = .ok (.iconst 1, 1) := by decide +kernel
theorem dL_law_795 : decode cL_law 795 = .ok (.iadd, 1) := by decide +kernel
theorem dL_law_796 : decode cL_law 796 = .ok (.iaload, 1) := by decide +kernel
theorem dL_law_797 : decode cL_law 797 = .ok (.invokevirtual 102, 3) := by decide +kernel
theorem dL_law_800 : decode cL_law 800 = .ok (.aload_n 2, 1) := by decide +kernel
theorem dL_law_801 : decode cL_law 801 = .ok (.aload_n 0, 1) := by decide +kernel
theorem dL_law_802 : decode cL_law 802 = .ok (.iload_n 3, 1) := by decide +kernel
theorem dL_law_803 : decode cL_law 803 = .ok (.iconst 1, 1) := by decide +kernel
theorem dL_law_804 : decode cL_law 804 = .ok (.iadd, 1) := by decide +kernel
theorem dL_law_805 : decode cL_law 805 = .ok (.iaload, 1) := by decide +kernel
theorem dL_law_806 : decode cL_law 806 = .ok (.invokevirtual 105, 3) := by decide +kernel
theorem dL_law_809 : decode cL_law 809 = .ok (.if_icmp .eq 127, 3) := by decide +kernel
theorem dL_law_812 : decode cL_law 812 = .ok (.iconst 0, 1) := by decide +kernel
theorem dL_law_813 : decode cL_law 813 = .ok (.ireturn, 1) := by decide +kernel
theorem dL_law_814 : decode cL_law 814 = .ok (.aload_n 1, 1) := by decide +kernel
theorem dL_law_815 : decode cL_law 815 = .ok (.aload_n 0, 1) := by decide +kernel
theorem dL_law_816 : decode cL_law 816 = .ok (.iload_n 3, 1) := by decide +kernel
theorem dL_law_817 : decode cL_law 817 = .ok (.iconst 1, 1) := by decide +kernel
theorem dL_law_818 : decode cL_law 818 = .ok (.iadd, 1) := by decide +kernel
theorem dL_law_819 : decode cL_law 819 = .ok (.iaload, 1) := by decide +kernel
theorem dL_law_820 : decode cL_law 820 = .ok (.aload_n 0, 1) := by decide +kernel
theorem dL_law_821 : decode cL_law 821 = .ok (.iload_n 3, 1) := by decide +kernel
theorem dL_law_822 : decode cL_law 822 = .ok (.iconst 2, 1) := by decide +kernel
theorem dL_law_823 : decode cL_law 823 = .ok (.iadd, 1) := by decide +kernel
theorem dL_law_824 : decode cL_law 824 = .ok (.iaload, 1) := by decide +kernel
theorem dL_law_825 : decode cL_law 825 = .ok (.invokevirtual 106, 3) := by decide +kernel
theorem dL_law_828 : decode cL_law 828 = .ok (.aload_n 2, 1) := by decide +kernel
theorem dL_law_829 : decode cL_law 829 = .ok (.aload_n 0, 1) := by decide +kernel
theorem dL_law_830 : decode cL_law 830 = .ok (.iload_n 3, 1) := by decide +kernel
theorem dL_law_831 : decode cL_law 831 = .ok (.iconst 1, 1) := by decide +kernel
theorem dL_law_832 : decode cL_law 832 = .ok (.iadd, 1) := by decide +kernel
theorem dL_law_833 : decode cL_law 833 = .ok (.iaload, 1) := by decide +kernel
theorem dL_law_834 : decode cL_law 834 = .ok (.aload_n 0, 1) := by decide +kernel
theorem dL_law_835 : decode cL_law 835 = .ok (.iload_n 3, 1) := by decide +kernel
theorem dL_law_836 : decode cL_law 836 = .ok (.iconst 2, 1) := by decide +kernel
theorem dL_law_837 : decode cL_law 837 = .ok (.iadd, 1) := by decide +kernel
theorem dL_law_838 : decode cL_law 838 = .ok (.iaload, 1) := by decide +kernel
theorem dL_law_839 : decode cL_law 839 = .ok (.invokevirtual 109, 3) := by decide +kernel
theorem dL_law_842 : decode cL_law 842 = .ok (.if_icmp .eq 94, 3) := by decide +kernel
theorem dL_law_845 : decode cL_law 845 = .ok (.iconst 0, 1) := by decide +kernel
theorem dL_law_846 : decode cL_law 846 = .ok (.ireturn, 1) := by decide +kernel
theorem dL_law_847 : decode cL_law 847 = .ok (.aload_n 1, 1) := by decide +kernel
theorem dL_law_848 : decode cL_law 848 = .ok (.aload_n 0, 1) := by decide +kernel
theorem dL_law_849 : decode cL_law 849 = .ok (.iload_n 3, 1) := by decide +kernel
theorem dL_law_850 : decode cL_law 850 = .ok (.iconst 1, 1) := by decide +kernel
theorem dL_law_851 : decode cL_law 851 = .ok (.iadd, 1) := by decide +kernel
theorem dL_law_852 : decode cL_law 852 = .ok (.iaload, 1) := by decide +kernel
theorem dL_law_853 : decode cL_law 853 = .ok (.aload_n 0, 1) := by decide +kernel
theorem dL_law_854 : decode cL_law 854 = .ok (.iload_n 3, 1) := by decide +kernel
theorem dL_law_855 : decode cL_law 855 = .ok (.iconst 2, 1) := by decide +kernel
theorem dL_law_856 : decode cL_law 856 = .ok (.iadd, 1) := by decide +kernel
theorem dL_law_857 : decode cL_law 857 = .ok (.iaload, 1) := by decide +kernel
theorem dL_law_858 : decode cL_law 858 = .ok (.invokevirtual 110, 3) := by decide +kernel
theorem dL_law_861 : decode cL_law 861 = .ok (.aload_n 2, 1) := by decide +kernel
theorem dL_law_862 : decode cL_law 862 = .ok (.aload_n 0, 1) := by decide +kernel
theorem dL_law_863 : decode cL_law 863 = .ok (.iload_n 3, 1) := by decide +kernel
theorem dL_law_864 : decode cL_law 864 = .ok (.iconst 1, 1) := by decide +kernel
theorem dL_law_865 : decode cL_law 865 = .ok (.iadd, 1) := by decide +kernel
theorem dL_law_866 : decode cL_law 866 = .ok (.iaload, 1) := by decide +kernel
theorem dL_law_867 : decode cL_law 867 = .ok (.aload_n 0, 1) := by decide +kernel
theorem dL_law_868 : decode cL_law 868 = .ok (.iload_n 3, 1) := by decide +kernel
theorem dL_law_869 : decode cL_law 869 = .ok (.iconst 2, 1) := by decide +kernel
theorem dL_law_870 : decode cL_law 870 = .ok (.iadd, 1) := by decide +kernel
theorem dL_law_871 : decode cL_law 871 = .ok (.iaload, 1) := by decide +kernel
theorem dL_law_872 : decode cL_law 872 = .ok (.invokevirtual 113, 3) := by decide +kernel
theorem dL_law_875 : decode cL_law 875 = .ok (.if_icmp .eq 61, 3) := by decide +kernel
theorem dL_law_878 : decode cL_law 878 = .ok (.iconst 0, 1) := by decide +kernel
theorem dL_law_879 : decode cL_law 879 = .ok (.ireturn, 1) := by decide +kernel
theorem dL_law_880 : decode cL_law 880 = .ok (.aload_n 1, 1) := by decide +kernel
theorem dL_law_881 : decode cL_law 881 = .ok (.aload_n 0, 1) := by decide +kernel
theorem dL_law_882 : decode cL_law 882 = .ok (.iload_n 3, 1) := by decide +kernel
theorem dL_law_883 : decode cL_law 883 = .ok (.iconst 1, 1) := by decide +kernel
theorem dL_law_884 : decode cL_law 884 = .ok (.iadd, 1) := by decide +kernel
theorem dL_law_885 : decode cL_law 885 = .ok (.iaload, 1) := by decide +kernel
theorem dL_law_886 : decode cL_law 886 = .ok (.aload_n 0, 1) := by decide +kernel
theorem dL_law_887 : decode cL_law 887 = .ok (.iload_n 3, 1) := by decide +kernel
theorem dL_law_888 : decode cL_law 888 = .ok (.iconst 2, 1) := by decide +kernel
theorem dL_law_889 : decode cL_law 889 = .ok (.iadd, 1) := by decide +kernel
theorem dL_law_890 : decode cL_law 890 = .ok (.iaload, 1) := by decide +kernel
theorem dL_law_891 : decode cL_law 891 = .ok (.invokevirtual 114, 3) := by decide +kernel
theorem dL_law_894 : decode cL_law 894 = .ok (.aload_n 2, 1) := by decide +kernel
theorem dL_law_895 : decode cL_law 895 = .ok (.aload_n 0, 1) := by decide +kernel
theorem dL_law_896 : decode cL_law 896 = .ok (.iload_n 3, 1) := by decide +kernel
theorem dL_law_897 : decode cL_law 897 = .ok (.iconst 1, 1) := by decide +kernel
theorem dL_law_898 : decode cL_law 898 = .ok (.iadd, 1) := by decide +kernel
theorem dL_law_899 : decode cL_law 899 = .ok (.iaload, 1) := by decide +kernel
theorem dL_law_900 : decode cL_law 900 = .ok (.aload_n 0, 1) := by decide +kernel
theorem dL_law_901 : decode cL_law 901 = .ok (.iload_n 3, 1) := by decide +kernel
theorem dL_law_902 : decode cL_law 902 = .ok (.iconst 2, 1) := by decide +kernel
theorem dL_law_903 : decode cL_law 903 = .ok (.iadd, 1) := by decide +kernel
theorem dL_law_904 : decode cL_law 904 = .ok (.iaload, 1) := by decide +kernel
theorem dL_law_905 : decode cL_law 905 = .ok (.invokevirtual 117, 3) := by decide +kernel
theorem dL_law_908 : decode cL_law 908 = .ok (.if_icmp .eq 28, 3) := by decide +kernel
theorem dL_law_911 : decode cL_law 911 = .ok (.iconst 0, 1) := by decide +kernel
theorem dL_law_912 : decode cL_law 912 = .ok (.ireturn, 1) := by decide +kernel
theorem dL_law_913 : decode cL_law 913 = .ok (.aload_n 1, 1) := by decide +kernel
theorem dL_law_914 : decode cL_law 914 = .ok (.aload_n 0, 1) := by decide +kernel
theorem dL_law_915 : decode cL_law 915 = .ok (.iload_n 3, 1) := by decide +kernel
theorem dL_law_916 : decode cL_law 916 = .ok (.iconst 1, 1) := by decide +kernel
theorem dL_law_917 : decode cL_law 917 = .ok (.iadd, 1) := by decide +kernel
theorem dL_law_918 : decode cL_law 918 = .ok (.iaload, 1) := by decide +kernel
theorem dL_law_919 : decode cL_law 919 = .ok (.invokevirtual 118, 3) := by decide +kernel
theorem dL_law_922 : decode cL_law 922 = .ok (.aload_n 2, 1) := by decide +kernel
theorem dL_law_923 : decode cL_law 923 = .ok (.aload_n 0, 1) := by decide +kernel
theorem dL_law_924 : decode cL_law 924 = .ok (.iload_n 3, 1) := by decide +kernel
theorem dL_law_925 : decode cL_law 925 = .ok (.iconst 1, 1) := by decide +kernel
theorem dL_law_926 : decode cL_law 926 = .ok (.iadd, 1) := by decide +kernel
theorem dL_law_927 : decode cL_law 927 = .ok (.iaload, 1) := by decide +kernel
theorem dL_law_928 : decode cL_law 928 = .ok (.invokevirtual 121, 3) := by decide +kernel
theorem dL_law_931 : decode cL_law 931 = .ok (.if_icmp .eq 5, 3) := by decide +kernel
theorem dL_law_934 : decode cL_law 934 = .ok (.iconst 0, 1) := by decide +kernel
theorem dL_law_935 : decode cL_law 935 = .ok (.ireturn, 1) := by decide +kernel
theorem dL_law_936 : decode cL_law 936 = .ok (.iinc 3 4, 3) := by decide +kernel
theorem dL_law_939 : decode cL_law 939 = .ok (.goto (-921), 3) := by decide +kernel
theorem dL_law_942 : decode cL_law 942 = .ok (.iconst 1, 1) := by decide +kernel
theorem dL_law_943 : decode cL_law 943 = .ok (.ireturn, 1) := by decide +kernel
end
section
theorem k_mem {big ws : List Cond} (ps : List Nat) (h : ps.map (fun i => big[i]?) = ws.map some) : ∀ w ∈ ws, w ∈ big := by
  intro w hw
  have h1 : some w ∈ ws.map some := List.mem_map.mpr ⟨w, hw, rfl⟩
  rw [← h] at h1
  obtain ⟨i, -, hi⟩ := List.mem_map.mp h1
  exact List.mem_of_getElem? hi
theorem k_app {T a b : List Cond} (ha : ∀ w ∈ a, w ∈ T) (hb : ∀ w ∈ b, w ∈ T) : ∀ w ∈ a ++ b, w ∈ T := fun w h => (List.mem_append.mp h).elim (ha w) (hb w)
set_option maxRecDepth 20000 in
theorem k_inr1 : ∀ w ∈ wsL_law_r1, w ∈ lw_tbl := k_mem [28, 29, 19, 500, 501, 26, 30, 31, 32, 33, 34, 35, 36, 37, 20, 179, 82, 83, 21, 84, 85, 22, 180, 181] rfl
set_option maxRecDepth 20000 in
theorem k_inr2 : ∀ w ∈ wsL_law_r2, w ∈ lw_tbl := k_mem [148, 149, 25, 182, 183, 38, 39, 40, 41, 81, 47, 49, 51, 56, 58, 42, 60, 61, 86, 87, 88, 89, 90, 91] rfl
set_option maxRecDepth 20000 in
theorem k_inr3 : ∀ w ∈ wsL_law_r3, w ∈ lw_tbl := k_mem [23, 92, 93, 94, 105, 106, 107, 108, 116, 117, 121, 123, 126, 128, 130, 109, 110, 111, 112, 119, 96, 113, 114, 24] rfl
set_option maxRecDepth 20000 in
theorem k_inr4 : ∀ w ∈ wsL_law_r4, w ∈ lw_tbl := k_mem [115, 150, 151, 152, 153, 155, 156, 158, 177, 159, 161, 178, 163, 154, 502, 503, 504, 505, 508, 509, 510, 512, 513, 514] rfl
set_option maxRecDepth 20000 in
theorem k_inr5 : ∀ w ∈ wsL_law_r5, w ∈ lw_tbl := k_mem [515, 516, 517, 518, 519, 520, 523, 525, 526, 527, 528, 529, 530, 531, 532, 533, 195, 196, 197, 198, 199, 200, 201, 202] rfl
set_option maxRecDepth 20000 in
theorem k_inr6 : ∀ w ∈ wsL_law_r6, w ∈ lw_tbl := k_mem [203, 204, 205, 206, 207, 208, 209, 210, 211, 212, 44, 591, 592, 593, 594, 506, 595, 599, 600, 507, 596, 597, 598, 213] rfl
set_option maxRecDepth 20000 in
theorem k_inr7 : ∀ w ∈ wsL_law_r7, w ∈ lw_tbl := k_mem [214, 215, 216, 217, 218, 219, 220, 53, 601, 602, 603, 604, 605, 511, 221, 222, 223, 224, 225, 226, 227, 228, 229, 230] rfl
set_option maxRecDepth 20000 in
theorem k_inr8 : ∀ w ∈ wsL_law_r8, w ∈ lw_tbl := k_mem [231, 232, 233, 234, 235, 236, 237, 238, 239, 240, 241, 242, 243, 244, 606, 607, 608, 609, 610, 612, 8, 613, 614, 616] rfl
set_option maxRecDepth 20000 in
theorem k_inr9 : ∀ w ∈ wsL_law_r9, w ∈ lw_tbl := k_mem [9, 617, 245, 246, 247, 248, 249, 250, 251, 252, 253, 254, 255, 256, 618, 619, 620, 621, 622, 624, 10, 625, 257, 258] rfl
set_option maxRecDepth 20000 in
theorem k_inr10 : ∀ w ∈ wsL_law_r10, w ∈ lw_tbl := k_mem [259, 260, 261, 262, 263, 264, 265, 626, 627, 628, 629, 266, 267, 268, 269, 48, 50, 52, 122, 124, 127, 270, 271, 272] rfl
set_option maxRecDepth 20000 in
theorem k_inr11 : ∀ w ∈ wsL_law_r11, w ∈ lw_tbl := k_mem [273, 274, 275, 276, 277, 278, 279, 630, 631, 632, 633, 280, 281, 282, 283, 57, 59, 129, 284, 285, 286, 287, 288, 289] rfl
set_option maxRecDepth 20000 in
theorem k_inr12 : ∀ w ∈ wsL_law_r12, w ∈ lw_tbl := k_mem [27, 290, 291, 292, 293, 634, 635, 636, 637, 294, 295, 296, 297, 638, 639, 640, 641, 298, 299, 300, 301, 302, 303, 304] rfl
set_option maxRecDepth 20000 in
theorem k_inr13 : ∀ w ∈ wsL_law_r13, w ∈ lw_tbl := k_mem [305, 306, 307, 642, 643, 644, 645, 646, 648, 11, 649, 308, 309, 310, 311, 312, 313, 314, 315, 45, 316, 317, 319, 0] rfl
set_option maxRecDepth 20000 in
theorem k_inr14 : ∀ w ∈ wsL_law_r14, w ∈ lw_tbl := k_mem [320, 321, 322, 323, 324, 650, 651, 652, 653, 654, 656, 12, 657, 325, 326, 327, 328, 120, 329, 330, 331, 332, 333, 334] rfl
set_option maxRecDepth 20000 in
theorem k_inr15 : ∀ w ∈ wsL_law_r15, w ∈ lw_tbl := k_mem [335, 336, 338, 1, 339, 54, 340, 342, 2, 343, 344, 345, 347, 3, 348, 349, 350, 351, 352, 353, 95, 354, 356, 4] rfl
set_option maxRecDepth 20000 in
theorem k_inr16 : ∀ w ∈ wsL_law_r16, w ∈ lw_tbl := k_mem [357, 358, 359, 360, 361, 658, 659, 660, 661, 662, 521, 663, 665, 13, 666, 522, 362, 363, 364, 365, 118, 97, 667, 668] rfl
set_option maxRecDepth 20000 in
theorem k_inr17 : ∀ w ∈ wsL_law_r17, w ∈ lw_tbl := k_mem [669, 670, 366, 367, 368, 369, 370, 371, 372, 373, 374, 375, 376, 377, 671, 672, 673, 674, 675, 378, 379, 380, 381, 382] rfl
set_option maxRecDepth 20000 in
theorem k_inr18 : ∀ w ∈ wsL_law_r18, w ∈ lw_tbl := k_mem [383, 384, 385, 386, 388, 5, 389, 390, 392, 6, 393, 676, 677, 678, 679, 680, 682, 14, 683, 394, 395, 396, 397, 398] rfl
set_option maxRecDepth 20000 in
theorem k_inr19 : ∀ w ∈ wsL_law_r19, w ∈ lw_tbl := k_mem [399, 400, 401, 684, 685, 686, 687, 402, 403, 404, 405, 406, 407, 408, 409, 410, 411, 412, 413, 414, 688, 689, 690, 691] rfl
set_option maxRecDepth 20000 in
theorem k_inr20 : ∀ w ∈ wsL_law_r20, w ∈ lw_tbl := k_mem [692, 694, 15, 695, 415, 416, 417, 418, 696, 697, 698, 699, 524, 419, 420, 421, 422, 157, 700, 701, 702, 703, 704, 423] rfl
set_option maxRecDepth 20000 in
theorem k_inr21 : ∀ w ∈ wsL_law_r21, w ∈ lw_tbl := k_mem [424, 425, 426, 427, 428, 429, 430, 431, 432, 433, 434, 435, 436, 437, 438, 439, 440, 441, 442, 443, 444, 445, 446, 447] rfl
set_option maxRecDepth 20000 in
theorem k_inr22 : ∀ w ∈ wsL_law_r22, w ∈ lw_tbl := k_mem [448, 449, 705, 706, 707, 708, 709, 711, 16, 712, 450, 451, 452, 453, 160, 454, 455, 456, 457, 713, 714, 715, 716, 458] rfl
set_option maxRecDepth 20000 in
theorem k_inr23 : ∀ w ∈ wsL_law_r23, w ∈ lw_tbl := k_mem [459, 460, 461, 162, 462, 463, 464, 465, 717, 718, 719, 720, 466, 467, 468, 469, 470, 472, 7, 473, 721, 722, 723, 724] rfl
set_option maxRecDepth 20000 in
theorem k_inr24 : ∀ w ∈ wsL_law_r24, w ∈ lw_tbl := k_mem [474, 475, 476, 477, 478, 479, 480, 481, 482, 483, 484, 485, 125, 486, 725, 726, 727, 728, 729, 731, 17, 732, 487, 488] rfl
set_option maxRecDepth 20000 in
theorem k_inr25 : ∀ w ∈ wsL_law_r25, w ∈ lw_tbl := k_mem [489, 490, 733, 734, 735, 736, 491, 492, 493, 494, 46, 495, 737, 738, 739, 740, 496, 497, 498, 499, 55, 741, 742, 743] rfl
set_option maxRecDepth 20000 in
theorem k_inr26 : ∀ w ∈ wsL_law_r26, w ∈ lw_tbl := k_mem [744] rfl
set_option maxRecDepth 20000 in
theorem k_inX4 : ∀ w ∈ wsX40, w ∈ lw_tbl := k_mem [184, 186, 188, 190, 192] rfl
set_option maxRecDepth 20000 in
theorem k_inX5 : ∀ w ∈ wsX50, w ∈ lw_tbl := k_mem [534, 536, 538, 540, 542, 544, 546, 548, 550, 552, 554, 556, 558, 560, 562, 564, 566, 568, 570, 572, 574, 576, 578, 580, 582, 584, 586, 588] rfl
set_option maxRecDepth 20000 in
theorem k_inX2 : ∀ w ∈ wsX20, w ∈ lw_tbl := k_mem [62, 64, 66, 68, 70, 72, 74, 76, 78] rfl
set_option maxRecDepth 20000 in
theorem k_inX0 : ∀ w ∈ wsX00, w ∈ lw_tbl := k_mem [131, 133, 135, 137, 139, 141, 143, 145] rfl
set_option maxRecDepth 20000 in
theorem k_inX1 : ∀ w ∈ wsX10, w ∈ lw_tbl := k_mem [98, 100, 102] rfl
set_option maxRecDepth 20000 in
theorem k_inX3 : ∀ w ∈ wsX30, w ∈ lw_tbl := k_mem [164, 166, 168, 170, 172, 174] rfl
theorem wsL_law_in : ∀ w ∈ wsL_law, w ∈ lw_tbl := k_app (k_app (k_app (k_app (k_app (k_app (k_app (k_app k_inr1 (k_app k_inr2 (k_app k_inr3 (k_app k_inr4 (k_app k_inr5 (k_app k_inr6 (k_app k_inr7 (k_app k_inr8 (k_app k_inr9 (k_app k_inr10 (k_app k_inr11 (k_app k_inr12 (k_app k_inr13 (k_app k_inr14 (k_app k_inr15 (k_app k_inr16 (k_app k_inr17 (k_app k_inr18 (k_app k_inr19 (k_app k_inr20 (k_app k_inr21 (k_app k_inr22 (k_app k_inr23 (k_app k_inr24 (k_app k_inr25 (k_inr26)))))))))))))))))))))))))) k_inX4) k_inX5) k_inX2) k_inX0) k_inX1) k_inX3) (fun _ h => absurd h List.not_mem_nil)
end
section
/-! the base: what every contract here speaks of: the kinds of cells (K_X), the worlds, a contract's form, entry, return and call rows -/
abbrev K_X : Type := va_G × ClassId × ClassId × ClassId × ClassId
abbrev k_T (k : K_X) : List (ClassId × FieldType) := [(k.2.1, .int), (k.2.2.1, .boolean), (k.2.2.2.1, .long), (k.2.2.2.2, .array .int)]
abbrev k_K (k : K_X) (U : State) : Prop := va_K k.1 vwCl (k_T k) U
/-- f, but v at j (j mostly a number) -/
def k_st {α : Type} (f : Nat → α) (j : Nat) (v : α) : Nat → α := fun i => cond (Nat.beq i j) v (f i)
theorem k_st_eq {α : Type} (f : Nat → α) (j : Nat) (v : α) : k_st f j v j = v := by simp [k_st]
theorem k_st_ne {α : Type} (f : Nat → α) {j i : Nat} (v : α) (h : i ≠ j) : k_st f j v i = f i := by
  unfold k_st
  cases hq : Nat.beq i j with
  | true => exact absurd (Nat.eq_of_beq_eq_true hq) h
  | false => rfl
def k_Cw (k : K_X) (ws : va_W) (sz : Nat) (U : State) : Prop := U.heap.size = sz ∧ va_P k.1 vwCl ws U.heap ∧ k_K k U ∧ va_D (fun _ => True) ws
def k_Ce (k : K_X) (A : Nat → Prop) (ws : va_W) (t : State) : Prop := va_P k.1 vwCl ws t.heap ∧ k_K k t ∧ va_D A ws
def k_qI (k : K_X) (R : Int32) (w' : va_W) (A : Nat → Prop) : Array Value → State → Outcome → State → Prop := va_Qi (fun r (_ : Unit) => r = R) (fun _ t => k_Ce k A w' t) A
def k_qJ (k : K_X) (R : Int64) (w' : va_W) (A : Nat → Prop) : Array Value → State → Outcome → State → Prop := va_Ql (fun r (_ : Unit) => r = R) (fun _ t => k_Ce k A w' t) A
def k_qV (k : K_X) (w' : va_W) (A : Nat → Prop) : Array Value → State → Outcome → State → Prop := va_Qv (fun (_ : Unit) => True) (fun _ t => k_Ce k A w' t) A
/-- a contract: from the world w, with the arguments av: by Q, the rest unchanged, nothing new -/
def k_C (l : Launch) (y : MethodName) (wsy : List Cond) (rm : Room) (k : K_X) (av : List Value) (w : va_W) (Q : (Nat → Prop) → Array Value → State → Outcome → State → Prop) : Prop := ∀ sz : Nat, Met l y wsy rm (va_Pc av (k_Cw k w sz)) (Q (va_A w sz)) 0 0 (va_A w sz)
def k_rm (f n : Nat) : Room := { frames := f, cells := 0, slots := 0, locals := n }
/-- what holds all the way through a method's body -/
def k_Cx (p : Program) (s : State) (m : MethodId) (meth : Method) (c : Code) (k : K_X) (cc : ByteArray) (ret : Option FieldType) (Ts : List Cond) (own : String) (nL : Nat) (args : Array Value) (A : Nat → Prop) : Prop :=
  p.tables.exec = Jvm.exec ∧ c.code = cc ∧ meth.sig.returnType = ret ∧ (∀ w ∈ Ts, w.before args s = true) ∧ s.vm.findClass own = some m.cls ∧ meth.locks = false ∧ c.maxLocals = nL ∧ (∀ q, s.heap.size ≤ q → A q) ∧ k_K k s
theorem k_mk {l : Launch} {y : MethodName} {wsy ws' : List Cond} {rm : Room} {k : K_X} {av : List Value} {w : va_W} {Q : (Nat → Prop) → Array Value → State → Outcome → State → Prop} {cc : ByteArray} {maxL : Nat} {ret : Option FieldType}
    (hy : plainName y.cls = true) (hw : wsy = Cond.code y cc maxL ret :: ws') (hlen : (lg_sl av).length ≤ maxL)
    (body : ∀ (p : Program) (e : Env) (s : State) (m : MethodId) (below : List Frame) (meth : Method) (c : Code) (A : Nat → Prop) (ls : Array Slot), k_Cx p s m meth c k cc ret wsy y.cls maxL av.toArray A → va_P k.1 vwCl w s.heap → va_D A w → va_S A s.heap s.heap [] → lv_has ls maxL (lv_args 0 av) →
      W p l e rm s m av.toArray below meth c s.heap [] 0 0 (MQ below (Q A) av.toArray s 0 0 A) (F0 m 0 ls [])) : k_C l y wsy rm k av w Q := by
  intro sz
  refine Met.ofW (cc := cc) (maxL := maxL) (ret := ret) hy hw ?_
  intro p e s m args below meth c s₁ B hml hv
  obtain ⟨rfl, hsz, hP, hK, hD0⟩ := hv
  subst hsz
  have hD := hD0.self (sz := s.heap.size)
  have hl := lv_entry av (n := maxL) hlen
  rw [lg_entry_eq]
  exact body p e s m below meth c (va_A w s.heap.size) _ ⟨B.exec, B.bytes, B.returns, atoms_spec (ws := wsy) B.pre, findClass_of_methodNamed B.named, B.notSynchronized, hml, fun q h => Or.inr h, hK⟩ hP hD va_S.rf hl
theorem k_w {Ts : List Cond} {args : Array Value} {s : State} (hts : ∀ w ∈ Ts, w.before args s = true) (i : Nat) {w : Cond} (h : Ts[i]? = some w) : w.before args s = true := hts w (List.mem_of_getElem? h)
theorem k_subP {D : va_G} {cl : List vw_C} {ws wc : va_W} {H : Heap} (hP : va_P D cl ws H) {is : List Nat} (hC : is.map (fun i => ws[i]?) = wc.map some) : va_P D cl wc H := by
  intro j q hq
  have h1 : (is.map (fun i => ws[i]?))[j]? = some (some q) := by rw [hC, List.getElem?_map, hq]; rfl
  rw [List.getElem?_map] at h1
  cases hi : is[j]? with
  | none => rw [hi] at h1; cases h1
  | some i => rw [hi] at h1; exact hP i q (Option.some.inj h1)
theorem k_blind {k : K_X} {av : List Value} {w : va_W} {sz : Nat} : FrameBlind (va_Pc av (k_Cw k w sz)) := fun a U g mk q => by
  obtain ⟨q0, q1, qP, qK, qD⟩ := q
  exact ⟨q0, q1, qP, va_K.moved (u := U) (U := U.calling g mk a) (Vm.Alike.refl U.vm) qK, qD⟩
section KB
variable {p : Program} {l : Launch} {e : Env} {R : Room} {s : State} {m : MethodId} {args : Array Value} {below : List Frame} {meth : Method} {c : Code} {H : Heap} {locs : List Loc} {cells slots : Nat} {Q : State → Prop}
variable {cc : ByteArray} {pc : Nat} {ls : Array Slot} {rest : List Value} {k : K_X} {A : Nat → Prop} {ws : va_W}
theorem k_reti {w' : va_W} {v Rv : Int32} (hx : p.tables.exec = Jvm.exec) (hb : c.code = cc) (hr : meth.sig.returnType = some .int) (hK : k_K k s) (hP : va_P k.1 vwCl w' H) (hD : va_D A w') (hS : va_S A s.heap H locs) (hlocks : meth.locks = false) (hdg : decode cc pc = .ok (.ireturn, 1)) (hv : v = Rv) : W p l e R s m args below meth c H locs 0 0 (MQ below (k_qI k Rv w' A) args s 0 0 A) (F0 m pc ls [.int v]) :=
  W.iret (v := v) hx hb hr (fun t ht hW => ⟨⟨v, (), rfl, hv, by rw [ht]; exact hP, va_K.moved hW.alike hK, hD⟩, hS.F ht⟩) hS.2.2 hdg hlocks
theorem k_retz {w' : va_W} {v Rv : Int32} (hx : p.tables.exec = Jvm.exec) (hb : c.code = cc) (hr : meth.sig.returnType = some .boolean) (hn : narrow .boolean (.int v) = .int v) (hK : k_K k s) (hP : va_P k.1 vwCl w' H) (hD : va_D A w') (hS : va_S A s.heap H locs) (hlocks : meth.locks = false) (hdg : decode cc pc = .ok (.ireturn, 1)) (hv : v = Rv) : W p l e R s m args below meth c H locs 0 0 (MQ below (k_qI k Rv w' A) args s 0 0 A) (F0 m pc ls [.int v]) :=
  W.zret (v := v) hx hb hr hn (fun t ht hW => ⟨⟨v, (), rfl, hv, by rw [ht]; exact hP, va_K.moved hW.alike hK, hD⟩, hS.F ht⟩) hS.2.2 hdg hlocks
theorem k_retj {w' : va_W} {v Rv : Int64} (hx : p.tables.exec = Jvm.exec) (hb : c.code = cc) (hr : meth.sig.returnType = some .long) (hK : k_K k s) (hP : va_P k.1 vwCl w' H) (hD : va_D A w') (hS : va_S A s.heap H locs) (hlocks : meth.locks = false) (hdg : decode cc pc = .ok (.lreturn, 1)) (hv : v = Rv) : W p l e R s m args below meth c H locs 0 0 (MQ below (k_qJ k Rv w' A) args s 0 0 A) (F0 m pc ls [.long v]) :=
  W.lret (v := v) hx hb hr (fun t ht hW => ⟨⟨v, (), rfl, hv, by rw [ht]; exact hP, va_K.moved hW.alike hK, hD⟩, hS.F ht⟩) hS.2.2 hdg hlocks
theorem k_retv {w' : va_W} (hx : p.tables.exec = Jvm.exec) (hb : c.code = cc) (hr : meth.sig.returnType = none) (hK : k_K k s) (hP : va_P k.1 vwCl w' H) (hD : va_D A w') (hS : va_S A s.heap H locs) (hlocks : meth.locks = false) (hdg : decode cc pc = .ok (.return_, 1)) : W p l e R s m args below meth c H locs 0 0 (MQ below (k_qV k w' A) args s 0 0 A) (F0 m pc ls []) :=
  W.vret hx hb hr (fun t ht hW => ⟨⟨(), rfl, trivial, by rw [ht]; exact hP, va_K.moved hW.alike hK, hD⟩, hS.F ht⟩) hS.2.2 hdg hlocks
theorem k_aald (hx : p.tables.exec = Jvm.exec) (hb : c.code = cc) (hK : k_K k s) (hP : va_P k.1 vwCl ws H) (q0 : Nat) {b n : Nat} {f : Nat → Option Nat} (ha : ws[q0]? = some (b, .inl (k.2.2.2.2, n, .inr (.inr (.inr (.inr f)))))) {i : Int32} (hin : vp_in i n) {r : Nat} (hf : f i.toNatClampNeg = some r) (hdg : decode cc pc = .ok (.aaload, 1))
    (kk : W p l e R s m args below meth c H locs cells slots Q (F0 m (pc + 1) ls (.ref r :: rest))) : W p l e R s m args below meth c H locs cells slots Q (F0 m pc ls (.int i :: .ref b :: rest)) := by
  have hlt : i.toNatClampNeg < n := Nat.not_le.mp fun q => hin (Or.inr q)
  refine W.aald (v := va_rf (f i.toNatClampNeg)) (ty := .array .int) hx hb (hP q0 _ ha) ((hK.2 3 _ rfl).1 n (fun j => va_rf (f j))) rfl (fun q => by cases q) (by show ¬ (i < 0 ∨ (arrV _ _ _).slots.size ≤ _); rw [arrV_size]; exact hin) (by show (arrV _ _ _).slots[_]? = _; rw [arrV_read _ _ hlt]) rfl rfl hdg ?_
  rw [hf]
  exact kk
variable {y : MethodName} {bytes : ByteArray} {maxL nL n index : Nat} {ret : Option FieldType} {wsy : List Cond} {rm : Room} {Ts : List Cond} {own C : String} {b : Addr} {As st0 : List Value} {wc wc' wr ws' : va_W}
/-- behind a call: the world, in its own order again -/
theorem k_back {H1 : Heap} (hP : va_P k.1 vwCl ws H) (hD : va_D A ws) (isC isR isB : List Nat) (hC : isC.map (fun i => ws[i]?) = wc.map some) (hR : isR.map (fun i => ws[i]?) = wr.map some) (hn : va_nd isR = true) (hdis : ∀ i ∈ isR, i ∉ isC)
    (hB : isB.map (fun i => (wr ++ wc')[i]?) = ws'.map some) (hBn : va_nd isB = true)
    (hk : ∀ q : Nat, q < H.size → ¬ va_A wc H.size q → H1[q]? = H[q]?) (hF : ∀ q, va_A wc H.size q → A q) (hP1 : va_P k.1 vwCl wc' H1) (hD1 : va_D (va_A wc H.size) wc') : va_P k.1 vwCl ws' H1 ∧ va_D A ws' := by
  obtain ⟨hP2, hD2⟩ := va_join hP hD isC isR hC hR hn hdis hk hF hP1 hD1
  exact ⟨k_subP hP2 hB, hD2.sub isB hBn hB⟩
theorem k_Vi {Rv : Int32} (S : CallFix p m c cc nL s args Ts own) (hK : k_K k s) (hA : ∀ q, s.heap.size ≤ q → A q) (hP : va_P k.1 vwCl ws H) (hD : va_D A ws) (hS : va_S A s.heap H locs)
    (hM : k_C l y wsy rm k (.ref b :: As) wc (k_qI k Rv wc')) (cw : CallW R s args own C index y bytes maxL ret wsy rm 0 0 n) (hrecv : ∃ cell : Cell, H[b]? = some cell ∧ cell.vm.isStatics = false ∧ s.vm.findClass C = some cell.cls)
    (hn0 : As.length = n) (hsize : ls.size = nL) (hstack : st0 = As.reverse ++ .ref b :: rest) (hW : (rest.map fun v => v.category).sum ≤ 8) (hdg : decode cc pc = .ok (.invokevirtual index, 3)) (hc0 : cells ≤ R.cells) (hs0 : slots ≤ R.slots)
    (isC isR isB : List Nat) (hC : isC.map (fun i => ws[i]?) = wc.map some) (hR : isR.map (fun i => ws[i]?) = wr.map some) (hn : va_nd isR = true) (hdis : ∀ i ∈ isR, i ∉ isC) (hB : isB.map (fun i => (wr ++ wc')[i]?) = ws'.map some) (hBn : va_nd isB = true) (hCn : va_nd isC = true)
    (kk : ∀ (H1 : Heap) (locs1 : List Loc), va_P k.1 vwCl ws' H1 → va_D A ws' → va_S A s.heap H1 locs1 → W p l e R s m args below meth c H1 locs1 cells slots Q (F0 m (pc + 3) ls (.int Rv :: rest))) : W p l e R s m args below meth c H locs cells slots Q (F0 m pc ls st0) := by
  have hF := va_free (wc := wc) hD hS hA isC hC
  have hPc := k_subP hP hC
  have hDc := hD.sub isC hCn hC
  refine va_calli (va_runV (As := As) (rest := rest) S (hM H.size) cw ⟨k_blind, hrecv, fun U hU hW => ⟨rfl, by rw [hU], by rw [hU]; exact hPc, va_K.moved hW.alike hK, hDc.weaken (fun _ _ _ _ => trivial)⟩⟩ rfl hn0 hsize hstack (lv_room hW) hdg ⟨hc0, hs0⟩) hS (fun q _ h => hF q h) hF (fun r u t H1 locs1 ht hvm hw hB1 hz1 hk1 hS1 => ?_)
  obtain ⟨hP1, -, hD1⟩ := hB1
  rw [ht] at hP1
  subst hw
  obtain ⟨hP2, hD2⟩ := k_back hP hD isC isR isB hC hR hn hdis hB hBn hk1 hF hP1 hD1
  exact kk H1 locs1 hP2 hD2 hS1
theorem k_Vv (S : CallFix p m c cc nL s args Ts own) (hK : k_K k s) (hA : ∀ q, s.heap.size ≤ q → A q) (hP : va_P k.1 vwCl ws H) (hD : va_D A ws) (hS : va_S A s.heap H locs)
    (hM : k_C l y wsy rm k (.ref b :: As) wc (k_qV k wc')) (cw : CallW R s args own C index y bytes maxL ret wsy rm 0 0 n) (hrecv : ∃ cell : Cell, H[b]? = some cell ∧ cell.vm.isStatics = false ∧ s.vm.findClass C = some cell.cls)
    (hn0 : As.length = n) (hsize : ls.size = nL) (hstack : st0 = As.reverse ++ .ref b :: rest) (hW : (rest.map fun v => v.category).sum ≤ 8) (hdg : decode cc pc = .ok (.invokevirtual index, 3)) (hc0 : cells ≤ R.cells) (hs0 : slots ≤ R.slots)
    (isC isR isB : List Nat) (hC : isC.map (fun i => ws[i]?) = wc.map some) (hR : isR.map (fun i => ws[i]?) = wr.map some) (hn : va_nd isR = true) (hdis : ∀ i ∈ isR, i ∉ isC) (hB : isB.map (fun i => (wr ++ wc')[i]?) = ws'.map some) (hBn : va_nd isB = true) (hCn : va_nd isC = true)
    (kk : ∀ (H1 : Heap) (locs1 : List Loc), va_P k.1 vwCl ws' H1 → va_D A ws' → va_S A s.heap H1 locs1 → W p l e R s m args below meth c H1 locs1 cells slots Q (F0 m (pc + 3) ls rest)) : W p l e R s m args below meth c H locs cells slots Q (F0 m pc ls st0) := by
  have hF := va_free (wc := wc) hD hS hA isC hC
  have hPc := k_subP hP hC
  have hDc := hD.sub isC hCn hC
  refine va_callv (va_runV (As := As) (rest := rest) S (hM H.size) cw ⟨k_blind, hrecv, fun U hU hW => ⟨rfl, by rw [hU], by rw [hU]; exact hPc, va_K.moved hW.alike hK, hDc.weaken (fun _ _ _ _ => trivial)⟩⟩ rfl hn0 hsize hstack (lv_room hW) hdg ⟨hc0, hs0⟩) hS (fun q _ h => hF q h) hF (fun u t H1 locs1 ht hvm hw hB1 hz1 hk1 hS1 => ?_)
  obtain ⟨hP1, -, hD1⟩ := hB1
  rw [ht] at hP1
  obtain ⟨hP2, hD2⟩ := k_back hP hD isC isR isB hC hR hn hdis hB hBn hk1 hF hP1 hD1
  exact kk H1 locs1 hP2 hD2 hS1
theorem k_Si {Rv : Int32} (S : CallFix p m c cc nL s args Ts own) (hK : k_K k s) (hA : ∀ q, s.heap.size ≤ q → A q) (hP : va_P k.1 vwCl ws H) (hD : va_D A ws) (hS : va_S A s.heap H locs)
    (hM : k_C l y wsy rm k As wc (k_qI k Rv wc')) (cw : CallB R s args own index y bytes maxL ret wsy rm 0 0 n ∧ (Cond.static y).before args s = true)
    (hn0 : As.length = n) (hsize : ls.size = nL) (hstack : st0 = As.reverse ++ rest) (hW : (rest.map fun v => v.category).sum ≤ 8) (hdg : decode cc pc = .ok (.invokestatic index, 3)) (hc0 : cells ≤ R.cells) (hs0 : slots ≤ R.slots)
    (isC isR isB : List Nat) (hC : isC.map (fun i => ws[i]?) = wc.map some) (hR : isR.map (fun i => ws[i]?) = wr.map some) (hn : va_nd isR = true) (hdis : ∀ i ∈ isR, i ∉ isC) (hB : isB.map (fun i => (wr ++ wc')[i]?) = ws'.map some) (hBn : va_nd isB = true) (hCn : va_nd isC = true)
    (kk : ∀ (H1 : Heap) (locs1 : List Loc), va_P k.1 vwCl ws' H1 → va_D A ws' → va_S A s.heap H1 locs1 → W p l e R s m args below meth c H1 locs1 cells slots Q (F0 m (pc + 3) ls (.int Rv :: rest))) : W p l e R s m args below meth c H locs cells slots Q (F0 m pc ls st0) := by
  have hF := va_free (wc := wc) hD hS hA isC hC
  have hPc := k_subP hP hC
  have hDc := hD.sub isC hCn hC
  refine va_calli (va_runS (As := As) (rest := rest) S (hM H.size) cw ⟨k_blind, fun U hU hW => ⟨rfl, by rw [hU], by rw [hU]; exact hPc, va_K.moved hW.alike hK, hDc.weaken (fun _ _ _ _ => trivial)⟩⟩ rfl hn0 hsize hstack (lv_room hW) hdg ⟨hc0, hs0⟩) hS (fun q _ h => hF q h) hF (fun r u t H1 locs1 ht hvm hw hB1 hz1 hk1 hS1 => ?_)
  obtain ⟨hP1, -, hD1⟩ := hB1
  rw [ht] at hP1
  subst hw
  obtain ⟨hP2, hD2⟩ := k_back hP hD isC isR isB hC hR hn hdis hB hBn hk1 hF hP1 hD1
  exact kk H1 locs1 hP2 hD2 hS1
theorem k_Sj {Rv : Int64} (S : CallFix p m c cc nL s args Ts own) (hK : k_K k s) (hA : ∀ q, s.heap.size ≤ q → A q) (hP : va_P k.1 vwCl ws H) (hD : va_D A ws) (hS : va_S A s.heap H locs)
    (hM : k_C l y wsy rm k As wc (k_qJ k Rv wc')) (cw : CallB R s args own index y bytes maxL ret wsy rm 0 0 n ∧ (Cond.static y).before args s = true)
    (hn0 : As.length = n) (hsize : ls.size = nL) (hstack : st0 = As.reverse ++ rest) (hW : (rest.map fun v => v.category).sum ≤ 8) (hdg : decode cc pc = .ok (.invokestatic index, 3)) (hc0 : cells ≤ R.cells) (hs0 : slots ≤ R.slots)
    (isC isR isB : List Nat) (hC : isC.map (fun i => ws[i]?) = wc.map some) (hR : isR.map (fun i => ws[i]?) = wr.map some) (hn : va_nd isR = true) (hdis : ∀ i ∈ isR, i ∉ isC) (hB : isB.map (fun i => (wr ++ wc')[i]?) = ws'.map some) (hBn : va_nd isB = true) (hCn : va_nd isC = true)
    (kk : ∀ (H1 : Heap) (locs1 : List Loc), va_P k.1 vwCl ws' H1 → va_D A ws' → va_S A s.heap H1 locs1 → W p l e R s m args below meth c H1 locs1 cells slots Q (F0 m (pc + 3) ls (.long Rv :: rest))) : W p l e R s m args below meth c H locs cells slots Q (F0 m pc ls st0) := by
  have hF := va_free (wc := wc) hD hS hA isC hC
  have hPc := k_subP hP hC
  have hDc := hD.sub isC hCn hC
  refine va_calll (va_runS (As := As) (rest := rest) S (hM H.size) cw ⟨k_blind, fun U hU hW => ⟨rfl, by rw [hU], by rw [hU]; exact hPc, va_K.moved hW.alike hK, hDc.weaken (fun _ _ _ _ => trivial)⟩⟩ rfl hn0 hsize hstack (lv_room hW) hdg ⟨hc0, hs0⟩) hS (fun q _ h => hF q h) hF (fun r u t H1 locs1 ht hvm hw hB1 hz1 hk1 hS1 => ?_)
  obtain ⟨hP1, -, hD1⟩ := hB1
  rw [ht] at hP1
  subst hw
  obtain ⟨hP2, hD2⟩ := k_back hP hD isC isR isB hC hR hn hdis hB hBn hk1 hF hP1 hD1
  exact kk H1 locs1 hP2 hD2 hS1
theorem k_Sv (S : CallFix p m c cc nL s args Ts own) (hK : k_K k s) (hA : ∀ q, s.heap.size ≤ q → A q) (hP : va_P k.1 vwCl ws H) (hD : va_D A ws) (hS : va_S A s.heap H locs)
    (hM : k_C l y wsy rm k As wc (k_qV k wc')) (cw : CallB R s args own index y bytes maxL ret wsy rm 0 0 n ∧ (Cond.static y).before args s = true)
    (hn0 : As.length = n) (hsize : ls.size = nL) (hstack : st0 = As.reverse ++ rest) (hW : (rest.map fun v => v.category).sum ≤ 8) (hdg : decode cc pc = .ok (.invokestatic index, 3)) (hc0 : cells ≤ R.cells) (hs0 : slots ≤ R.slots)
    (isC isR isB : List Nat) (hC : isC.map (fun i => ws[i]?) = wc.map some) (hR : isR.map (fun i => ws[i]?) = wr.map some) (hn : va_nd isR = true) (hdis : ∀ i ∈ isR, i ∉ isC) (hB : isB.map (fun i => (wr ++ wc')[i]?) = ws'.map some) (hBn : va_nd isB = true) (hCn : va_nd isC = true)
    (kk : ∀ (H1 : Heap) (locs1 : List Loc), va_P k.1 vwCl ws' H1 → va_D A ws' → va_S A s.heap H1 locs1 → W p l e R s m args below meth c H1 locs1 cells slots Q (F0 m (pc + 3) ls rest)) : W p l e R s m args below meth c H locs cells slots Q (F0 m pc ls st0) := by
  have hF := va_free (wc := wc) hD hS hA isC hC
  have hPc := k_subP hP hC
  have hDc := hD.sub isC hCn hC
  refine va_callv (va_runS (As := As) (rest := rest) S (hM H.size) cw ⟨k_blind, fun U hU hW => ⟨rfl, by rw [hU], by rw [hU]; exact hPc, va_K.moved hW.alike hK, hDc.weaken (fun _ _ _ _ => trivial)⟩⟩ rfl hn0 hsize hstack (lv_room hW) hdg ⟨hc0, hs0⟩) hS (fun q _ h => hF q h) hF (fun u t H1 locs1 ht hvm hw hB1 hz1 hk1 hS1 => ?_)
  obtain ⟨hP1, -, hD1⟩ := hB1
  rw [ht] at hP1
  obtain ⟨hP2, hD2⟩ := k_back hP hD isC isR isB hC hR hn hdis hB hBn hk1 hF hP1 hD1
  exact kk H1 locs1 hP2 hD2 hS1
end KB
/-! the worlds: a block of cells each; a: the block's addresses; the state: by the block's place -/
abbrev k_aI (k : K_X) (n : Nat) (f : Nat → Int32) : va_E := .inl (k.2.1, n, .inl f)
abbrev k_aZ (k : K_X) (n : Nat) (f : Nat → Int32) : va_E := .inl (k.2.2.1, n, .inl f)
abbrev k_aJ (k : K_X) (n : Nat) (f : Nat → Int64) : va_E := .inl (k.2.2.2.1, n, .inr (.inl f))
/-- People: P 0 0 servants, P 0 1 masters, P 1 kind, 2 skill, 3 least, 4 wantedKind, 5 most, 7 barred, 8 + m: what master m heard -/
def w_P (k : K_X) (a : Nat → Nat) (P : Nat → Nat → Int32) : va_W := [(a 0, .inr (2, [.int (P 0 0), .ref (a 1), .ref (a 2), .ref (a 3), .int (P 0 1), .ref (a 4), .ref (a 5), .ref (a 6), .ref (a 7)])), (a 1, k_aI k 10 (P 1)), (a 2, k_aI k 10 (P 2)), (a 3, k_aI k 10 (P 3)), (a 4, k_aI k 10 (P 4)), (a 5, k_aI k 10 (P 5)), (a 6, .inl (k.2.2.2.2, 10, .inr (.inr (.inr (.inr (fun i => if i < 10 then some (a (8 + i)) else none)))))), (a 7, k_aI k 10 (P 7)), (a 8, k_aI k 10 (P 8)), (a 9, k_aI k 10 (P 9)), (a 10, k_aI k 10 (P 10)), (a 11, k_aI k 10 (P 11)), (a 12, k_aI k 10 (P 12)), (a 13, k_aI k 10 (P 13)), (a 14, k_aI k 10 (P 14)), (a 15, k_aI k 10 (P 15)), (a 16, k_aI k 10 (P 16)), (a 17, k_aI k 10 (P 17))]
/-- Fair: F 0 0 minutes, F 1 masterOf, 2 wage, 3 shillingMinute, 4 servantOf, 5 asked; ap, al: its people, its ledger -/
def w_F (k : K_X) (a : Nat → Nat) (ap al : Nat) (F : Nat → Nat → Int32) : va_W := [(a 0, .inr (0, [.ref ap, .ref al, .int (F 0 0), .ref (a 1), .ref (a 2), .ref (a 3), .ref (a 4), .ref (a 5)])), (a 1, k_aI k 10 (F 1)), (a 2, k_aI k 10 (F 2)), (a 3, k_aI k 10 (F 3)), (a 4, k_aI k 10 (F 4)), (a 5, k_aI k 10 (F 5))]
/-- Ledger of room n: L 0 0 count, L 1 rows -/
def w_L (k : K_X) (a : Nat → Nat) (n : Nat) (L : Nat → Nat → Int32) : va_W := [(a 0, .inr (1, [.int (nI n), .ref (a 1), .int (L 0 0)])), (a 1, k_aI k (n * 6) (L 1))]
/-- Year: Y 0 0 day, Y 1 end, 2 warned, 3 forfeited; J sickDays -/
def w_Y (k : K_X) (a : Nat → Nat) (af : Nat) (Y : Nat → Nat → Int32) (J : Nat → Int64) : va_W := [(a 0, .inr (3, [.ref af, .int (Y 0 0), .ref (a 1), .ref (a 2), .ref (a 3), .ref (a 4)])), (a 1, k_aI k 10 (Y 1)), (a 2, k_aZ k 10 (Y 2)), (a 3, k_aZ k 10 (Y 3)), (a 4, k_aJ k 60 J)]
/-- HiringFairs itself -/
def w_X (ax ap af at_ ay : Nat) (tx : Int32) : va_W := [(ax, .inr (4, [.ref ap, .ref af, .ref at_, .ref ay, .int tx]))]
/-- the model: M 0: 0 thrown, 1 servants, 2 masters, 3 minute, 4 bargains, 5 text, 6 day; M 1 kind, 2 skill, 3 least, 4 wants, 5 most, 6 heard, 7 bars, 8 asked, 9 boundTo, 10 wage, 11 shilling, 12 has, 13 told, 14 end, 15 isWarned, 16 isUnpaid, 17 isSick, 18 thenAsked, 19 thenBound, 20 thenWage, 21 thenHas -/
def w_M (k : K_X) (a : Nat → Nat) (M : Nat → Nat → Int32) : va_W := [(a 0, .inr (5, [.int (M 0 0), .int (M 0 1), .ref (a 1), .ref (a 2), .ref (a 3), .int (M 0 2), .ref (a 4), .ref (a 5), .ref (a 6), .ref (a 7), .ref (a 8), .ref (a 9), .ref (a 10), .ref (a 11), .ref (a 12), .int (M 0 3), .int (M 0 4), .ref (a 13), .int (M 0 5), .int (M 0 6), .ref (a 14), .ref (a 15), .ref (a 16), .ref (a 17), .ref (a 18), .ref (a 19), .ref (a 20), .ref (a 21)])), (a 1, k_aI k 10 (M 1)), (a 2, k_aI k 10 (M 2)), (a 3, k_aI k 10 (M 3)), (a 4, k_aI k 10 (M 4)), (a 5, k_aI k 10 (M 5)), (a 6, k_aI k 100 (M 6)), (a 7, k_aZ k 100 (M 7)), (a 8, k_aZ k 100 (M 8)), (a 9, k_aI k 10 (M 9)), (a 10, k_aI k 10 (M 10)), (a 11, k_aI k 10 (M 11)), (a 12, k_aI k 10 (M 12)), (a 13, k_aI k 600 (M 13)), (a 14, k_aI k 10 (M 14)), (a 15, k_aZ k 10 (M 15)), (a 16, k_aZ k 10 (M 16)), (a 17, k_aZ k 3640 (M 17)), (a 18, k_aZ k 100 (M 18)), (a 19, k_aI k 10 (M 19)), (a 20, k_aI k 10 (M 20)), (a 21, k_aI k 10 (M 21))]
theorem w_P_row (k : K_X) (a : Nat → Nat) (P : Nat → Nat → Int32) {i : Nat} (h : i < 10) : (w_P k a P)[8 + i]? = some (a (8 + i), k_aI k 10 (P (8 + i))) := by
  rcases (show i = 0 ∨ i = 1 ∨ i = 2 ∨ i = 3 ∨ i = 4 ∨ i = 5 ∨ i = 6 ∨ i = 7 ∨ i = 8 ∨ i = 9 by omega) with rfl | rfl | rfl | rfl | rfl | rfl | rfl | rfl | rfl | rfl <;> rfl
theorem w_P_rowset (k : K_X) (a : Nat → Nat) (P : Nat → Nat → Int32) {i : Nat} (h : i < 10) (v : Nat → Int32) : (w_P k a P).set (8 + i) (a (8 + i), k_aI k 10 v) = w_P k a (k_st P (8 + i) v) := by
  rcases (show i = 0 ∨ i = 1 ∨ i = 2 ∨ i = 3 ∨ i = 4 ∨ i = 5 ∨ i = 6 ∨ i = 7 ∨ i = 8 ∨ i = 9 by omega) with rfl | rfl | rfl | rfl | rfl | rfl | rfl | rfl | rfl | rfl <;> rfl
theorem k_lt {i : Int32} {n : Nat} (h : vp_in i n) : i.toNatClampNeg < n := Nat.not_le.mp fun q => h (Or.inr q)
theorem k_outer {a : Nat → Nat} {i : Nat} (h : i < 10) : (fun i => if i < 10 then some (a (8 + i)) else none) i = some (a (8 + i)) := if_pos h
end
section
/-! numbers: k_n x b: x is a number 0 .. b -/
def k_n (x : Int32) (b : Nat) : Prop := x = nI x.toNatClampNeg ∧ x.toNatClampNeg ≤ b
theorem k_n.le {x : Int32} {b b' : Nat} (h : k_n x b) (hb : b ≤ b') : k_n x b' := ⟨h.1, Nat.le_trans h.2 hb⟩
theorem k_n.mk {j b : Nat} (h : j ≤ b) (hb : b < 2 ^ 31 := by omega) : k_n (nI j) b := by
  have e := nI_clamp (n := j) (by omega)
  exact ⟨by rw [e], by rw [e]; exact h⟩
theorem k_n.get {x : Int32} {b : Nat} (h : k_n x b) : ∃ j : Nat, j ≤ b ∧ x = nI j := ⟨_, h.2, h.1⟩
theorem k_n.ge {x : Int32} {b j : Nat} (h : k_n x b) (hj : x.toNatClampNeg ≤ j) (hj2 : j < 2 ^ 31 := by omega) : x ≤ nI j := by
  rw [h.1]; exact nI_le hj hj2
theorem k_n.nge {x : Int32} {b j : Nat} (h : k_n x b) (hj : j < x.toNatClampNeg) (hb : b < 2 ^ 31 := by omega) : ¬ x ≤ nI j := by
  rw [h.1]; exact nI_ge hj (by have := h.2; omega)
theorem k_n.lt {x : Int32} {b j : Nat} (h : k_n x b) (hj : x.toNatClampNeg < j) (hj2 : j < 2 ^ 31 := by omega) : x < nI j := by
  rw [h.1]; exact nI_lt hj hj2
theorem k_n.nlt {x : Int32} {b j : Nat} (h : k_n x b) (hj : j ≤ x.toNatClampNeg) (hb : b < 2 ^ 31 := by omega) : ¬ x < nI j := by
  rw [h.1]; exact nI_nlt hj (by have := h.2; omega)
theorem k_n.in {x : Int32} {b c : Nat} (h : k_n x b) (hx : x < nI c) (hc : c < 2 ^ 31 := by omega) (hb : b < 2 ^ 31 := by omega) : vp_in x c := by
  rw [h.1] at hx ⊢
  have h2 := h.2
  exact vp_in_nI ((nI_ltI (by omega) hc).mp hx) hc
theorem k_n.in' {x : Int32} {b c : Nat} (h : k_n x b) (hb : b < c) (hc : c < 2 ^ 31 := by omega) : vp_in x c := by
  rw [h.1]
  have h2 := h.2
  exact vp_in_nI (by omega) hc
theorem k_n.of {x : Int32} {c : Nat} (h : vp_in x c) (hc : c < 2 ^ 31 := by omega) : k_n x (c - 1) := by
  obtain ⟨j, hj, rfl⟩ := vp_in_of h hc
  exact k_n.mk (by omega) (by omega)
theorem k_in_le {x : Int32} {a b : Nat} (h : vp_in x a) (hb : a ≤ b) : vp_in x b := fun q => h (q.imp id (fun z => Nat.le_trans hb z))
/-- an index 10 * m + s -/
theorem k_in10 {x y : Int32} (hx : vp_in x 10) (hy : vp_in y 10) : vp_in (10 * x + y) 100 := by
  obtain ⟨a, ha, rfl⟩ := vp_in_of hx (by omega)
  obtain ⟨b, hb, rfl⟩ := vp_in_of hy (by omega)
  rw [show (10 : Int32) = nI 10 from rfl, pk_mul, nI_add]
  exact vp_in_nI (by omega) (by omega)
theorem k_ix10 {x y : Int32} (hx : vp_in x 10) (hy : vp_in y 10) : (10 * x + y).toNatClampNeg = 10 * x.toNatClampNeg + y.toNatClampNeg := by
  obtain ⟨a, ha, rfl⟩ := vp_in_of hx (by omega)
  obtain ⟨b, hb, rfl⟩ := vp_in_of hy (by omega)
  rw [show (10 : Int32) = nI 10 from rfl, pk_mul, nI_add, nI_clamp (by omega), nI_clamp (by omega), nI_clamp (by omega)]
/-- NONE, or an index -/
def k_o (x : Int32) (n : Nat) : Prop := x = -9 ∨ vp_in x n
theorem k_o.in {x : Int32} {n : Nat} (h : k_o x n) (hx : ¬ x = -9) : vp_in x n := h.resolve_left hx
def w_A (k : K_X) (aa : Nat → Nat) (n : Nat) (Ar : Nat → Int32) : va_W := [(aa 0, k_aI k n Ar)]
theorem k_wr0 {c : Int32} {n : Nat} (h : k_n c n) (hn : n ≤ 100) (hl : c < nI n) : vp_in (c * 6) (n * 6) := by
  obtain ⟨j, hj, rfl⟩ := h.get
  have h2 := (nI_ltI (by omega) (by omega)).mp hl
  rw [show (6 : Int32) = nI 6 from rfl, pk_mul]
  exact vp_in_nI (by omega) (by omega)
theorem k_wr {c : Int32} {n : Nat} (h : k_n c n) (hn : n ≤ 100) (hl : c < nI n) {x : Int32} (i : Nat) (hi : i < 6) (hx : x = nI i) : vp_in (c * 6 + x) (n * 6) := by
  subst hx
  obtain ⟨j, hj, rfl⟩ := h.get
  have h2 := (nI_ltI (by omega) (by omega)).mp hl
  rw [show (6 : Int32) = nI 6 from rfl, pk_mul, nI_add]
  exact vp_in_nI (by omega) (by omega)
end
section
theorem k_sl {A A' Y : va_W} {i : Nat} {x : Nat × va_E} (hi : i < A.length) (h : A.set i x = A') : (A ++ Y).set i x = A' ++ Y := by
  rw [List.set_append_left _ _ hi, h]
theorem k_sr {X B B' : va_W} {i : Nat} {x : Nat × va_E} (h : B.set i x = B') : (X ++ B).set (X.length + i) x = X ++ B' := by
  rw [List.set_append_right _ _ (by omega), Nat.add_sub_cancel_left, h]
theorem k_cP {D : va_G} {cl : List vw_C} {ws ws' : va_W} {H : Heap} (h : ws = ws') (hP : va_P D cl ws H) : va_P D cl ws' H := h ▸ hP
theorem k_cD {A : Nat → Prop} {ws ws' : va_W} (h : ws = ws') (hD : va_D A ws) : va_D A ws' := h ▸ hD
theorem w_A_0 (k : K_X) (aa : Nat → Nat) (n : Nat) (Ar v : Nat → Int32) : (w_A k aa n Ar).set 0 (aa 0, k_aI k n v) = w_A k aa n v := rfl
theorem w_P_1 (k : K_X) (a : Nat → Nat) (F : Nat → Nat → Int32) (v : Nat → Int32) : (w_P k a F).set 1 (a 1, k_aI k 10 v) = w_P k a (k_st F 1 v) := rfl
theorem w_P_2 (k : K_X) (a : Nat → Nat) (F : Nat → Nat → Int32) (v : Nat → Int32) : (w_P k a F).set 2 (a 2, k_aI k 10 v) = w_P k a (k_st F 2 v) := rfl
theorem w_P_3 (k : K_X) (a : Nat → Nat) (F : Nat → Nat → Int32) (v : Nat → Int32) : (w_P k a F).set 3 (a 3, k_aI k 10 v) = w_P k a (k_st F 3 v) := rfl
theorem w_P_4 (k : K_X) (a : Nat → Nat) (F : Nat → Nat → Int32) (v : Nat → Int32) : (w_P k a F).set 4 (a 4, k_aI k 10 v) = w_P k a (k_st F 4 v) := rfl
theorem w_P_5 (k : K_X) (a : Nat → Nat) (F : Nat → Nat → Int32) (v : Nat → Int32) : (w_P k a F).set 5 (a 5, k_aI k 10 v) = w_P k a (k_st F 5 v) := rfl
theorem w_P_7 (k : K_X) (a : Nat → Nat) (F : Nat → Nat → Int32) (v : Nat → Int32) : (w_P k a F).set 7 (a 7, k_aI k 10 v) = w_P k a (k_st F 7 v) := rfl
theorem w_P_s0 (k : K_X) (a : Nat → Nat) (F : Nat → Nat → Int32) (v : Int32) : (w_P k a F).set 0 (a 0, .inr (2, ([Value.int (F 0 0), .ref (a 1), .ref (a 2), .ref (a 3), .int (F 0 1), .ref (a 4), .ref (a 5), .ref (a 6), .ref (a 7)]).set 0 (.int v))) = w_P k a (k_st F 0 (k_st (F 0) 0 v)) := rfl
theorem w_P_s1 (k : K_X) (a : Nat → Nat) (F : Nat → Nat → Int32) (v : Int32) : (w_P k a F).set 0 (a 0, .inr (2, ([Value.int (F 0 0), .ref (a 1), .ref (a 2), .ref (a 3), .int (F 0 1), .ref (a 4), .ref (a 5), .ref (a 6), .ref (a 7)]).set 4 (.int v))) = w_P k a (k_st F 0 (k_st (F 0) 1 v)) := rfl
theorem w_F_1 (k : K_X) (a : Nat → Nat) (ap al : Nat) (F : Nat → Nat → Int32) (v : Nat → Int32) : (w_F k a ap al F).set 1 (a 1, k_aI k 10 v) = w_F k a ap al (k_st F 1 v) := rfl
theorem w_F_2 (k : K_X) (a : Nat → Nat) (ap al : Nat) (F : Nat → Nat → Int32) (v : Nat → Int32) : (w_F k a ap al F).set 2 (a 2, k_aI k 10 v) = w_F k a ap al (k_st F 2 v) := rfl
theorem w_F_3 (k : K_X) (a : Nat → Nat) (ap al : Nat) (F : Nat → Nat → Int32) (v : Nat → Int32) : (w_F k a ap al F).set 3 (a 3, k_aI k 10 v) = w_F k a ap al (k_st F 3 v) := rfl
theorem w_F_4 (k : K_X) (a : Nat → Nat) (ap al : Nat) (F : Nat → Nat → Int32) (v : Nat → Int32) : (w_F k a ap al F).set 4 (a 4, k_aI k 10 v) = w_F k a ap al (k_st F 4 v) := rfl
theorem w_F_5 (k : K_X) (a : Nat → Nat) (ap al : Nat) (F : Nat → Nat → Int32) (v : Nat → Int32) : (w_F k a ap al F).set 5 (a 5, k_aI k 10 v) = w_F k a ap al (k_st F 5 v) := rfl
theorem w_F_s0 (k : K_X) (a : Nat → Nat) (ap al : Nat) (F : Nat → Nat → Int32) (v : Int32) : (w_F k a ap al F).set 0 (a 0, .inr (0, ([Value.ref ap, .ref al, .int (F 0 0), .ref (a 1), .ref (a 2), .ref (a 3), .ref (a 4), .ref (a 5)]).set 2 (.int v))) = w_F k a ap al (k_st F 0 (k_st (F 0) 0 v)) := rfl
theorem w_L_1 (k : K_X) (a : Nat → Nat) (n : Nat) (F : Nat → Nat → Int32) (v : Nat → Int32) : (w_L k a n F).set 1 (a 1, k_aI k (n * 6) v) = w_L k a n (k_st F 1 v) := rfl
theorem w_L_s0 (k : K_X) (a : Nat → Nat) (n : Nat) (F : Nat → Nat → Int32) (v : Int32) : (w_L k a n F).set 0 (a 0, .inr (1, ([Value.int (nI n), .ref (a 1), .int (F 0 0)]).set 2 (.int v))) = w_L k a n (k_st F 0 (k_st (F 0) 0 v)) := rfl
theorem w_Y_1 (k : K_X) (a : Nat → Nat) (af : Nat) (F : Nat → Nat → Int32) (J : Nat → Int64) (v : Nat → Int32) : (w_Y k a af F J).set 1 (a 1, k_aI k 10 v) = w_Y k a af (k_st F 1 v) J := rfl
theorem w_Y_2 (k : K_X) (a : Nat → Nat) (af : Nat) (F : Nat → Nat → Int32) (J : Nat → Int64) (v : Nat → Int32) : (w_Y k a af F J).set 2 (a 2, k_aZ k 10 v) = w_Y k a af (k_st F 2 v) J := rfl
theorem w_Y_3 (k : K_X) (a : Nat → Nat) (af : Nat) (F : Nat → Nat → Int32) (J : Nat → Int64) (v : Nat → Int32) : (w_Y k a af F J).set 3 (a 3, k_aZ k 10 v) = w_Y k a af (k_st F 3 v) J := rfl
theorem w_Y_s0 (k : K_X) (a : Nat → Nat) (af : Nat) (F : Nat → Nat → Int32) (J : Nat → Int64) (v : Int32) : (w_Y k a af F J).set 0 (a 0, .inr (3, ([Value.ref af, .int (F 0 0), .ref (a 1), .ref (a 2), .ref (a 3), .ref (a 4)]).set 1 (.int v))) = w_Y k a af (k_st F 0 (k_st (F 0) 0 v)) J := rfl
theorem w_Y_J (k : K_X) (a : Nat → Nat) (af : Nat) (F : Nat → Nat → Int32) (J v : Nat → Int64) : (w_Y k a af F J).set 4 (a 4, k_aJ k 60 v) = w_Y k a af F v := rfl
theorem w_X_t (ax ap af at_ ay : Nat) (tx v : Int32) : (w_X ax ap af at_ ay tx).set 0 (ax, .inr (4, ([Value.ref ap, .ref af, .ref at_, .ref ay, .int tx]).set 4 (.int v))) = w_X ax ap af at_ ay v := rfl
theorem w_M_1 (k : K_X) (a : Nat → Nat) (F : Nat → Nat → Int32) (v : Nat → Int32) : (w_M k a F).set 1 (a 1, k_aI k 10 v) = w_M k a (k_st F 1 v) := rfl
theorem w_M_2 (k : K_X) (a : Nat → Nat) (F : Nat → Nat → Int32) (v : Nat → Int32) : (w_M k a F).set 2 (a 2, k_aI k 10 v) = w_M k a (k_st F 2 v) := rfl
theorem w_M_3 (k : K_X) (a : Nat → Nat) (F : Nat → Nat → Int32) (v : Nat → Int32) : (w_M k a F).set 3 (a 3, k_aI k 10 v) = w_M k a (k_st F 3 v) := rfl
theorem w_M_4 (k : K_X) (a : Nat → Nat) (F : Nat → Nat → Int32) (v : Nat → Int32) : (w_M k a F).set 4 (a 4, k_aI k 10 v) = w_M k a (k_st F 4 v) := rfl
theorem w_M_5 (k : K_X) (a : Nat → Nat) (F : Nat → Nat → Int32) (v : Nat → Int32) : (w_M k a F).set 5 (a 5, k_aI k 10 v) = w_M k a (k_st F 5 v) := rfl
theorem w_M_6 (k : K_X) (a : Nat → Nat) (F : Nat → Nat → Int32) (v : Nat → Int32) : (w_M k a F).set 6 (a 6, k_aI k 100 v) = w_M k a (k_st F 6 v) := rfl
theorem w_M_7 (k : K_X) (a : Nat → Nat) (F : Nat → Nat → Int32) (v : Nat → Int32) : (w_M k a F).set 7 (a 7, k_aZ k 100 v) = w_M k a (k_st F 7 v) := rfl
theorem w_M_8 (k : K_X) (a : Nat → Nat) (F : Nat → Nat → Int32) (v : Nat → Int32) : (w_M k a F).set 8 (a 8, k_aZ k 100 v) = w_M k a (k_st F 8 v) := rfl
theorem w_M_9 (k : K_X) (a : Nat → Nat) (F : Nat → Nat → Int32) (v : Nat → Int32) : (w_M k a F).set 9 (a 9, k_aI k 10 v) = w_M k a (k_st F 9 v) := rfl
theorem w_M_10 (k : K_X) (a : Nat → Nat) (F : Nat → Nat → Int32) (v : Nat → Int32) : (w_M k a F).set 10 (a 10, k_aI k 10 v) = w_M k a (k_st F 10 v) := rfl
theorem w_M_11 (k : K_X) (a : Nat → Nat) (F : Nat → Nat → Int32) (v : Nat → Int32) : (w_M k a F).set 11 (a 11, k_aI k 10 v) = w_M k a (k_st F 11 v) := rfl
theorem w_M_12 (k : K_X) (a : Nat → Nat) (F : Nat → Nat → Int32) (v : Nat → Int32) : (w_M k a F).set 12 (a 12, k_aI k 10 v) = w_M k a (k_st F 12 v) := rfl
theorem w_M_13 (k : K_X) (a : Nat → Nat) (F : Nat → Nat → Int32) (v : Nat → Int32) : (w_M k a F).set 13 (a 13, k_aI k 600 v) = w_M k a (k_st F 13 v) := rfl
theorem w_M_14 (k : K_X) (a : Nat → Nat) (F : Nat → Nat → Int32) (v : Nat → Int32) : (w_M k a F).set 14 (a 14, k_aI k 10 v) = w_M k a (k_st F 14 v) := rfl
theorem w_M_15 (k : K_X) (a : Nat → Nat) (F : Nat → Nat → Int32) (v : Nat → Int32) : (w_M k a F).set 15 (a 15, k_aZ k 10 v) = w_M k a (k_st F 15 v) := rfl
theorem w_M_16 (k : K_X) (a : Nat → Nat) (F : Nat → Nat → Int32) (v : Nat → Int32) : (w_M k a F).set 16 (a 16, k_aZ k 10 v) = w_M k a (k_st F 16 v) := rfl
theorem w_M_17 (k : K_X) (a : Nat → Nat) (F : Nat → Nat → Int32) (v : Nat → Int32) : (w_M k a F).set 17 (a 17, k_aZ k 3640 v) = w_M k a (k_st F 17 v) := rfl
theorem w_M_18 (k : K_X) (a : Nat → Nat) (F : Nat → Nat → Int32) (v : Nat → Int32) : (w_M k a F).set 18 (a 18, k_aZ k 100 v) = w_M k a (k_st F 18 v) := rfl
theorem w_M_19 (k : K_X) (a : Nat → Nat) (F : Nat → Nat → Int32) (v : Nat → Int32) : (w_M k a F).set 19 (a 19, k_aI k 10 v) = w_M k a (k_st F 19 v) := rfl
theorem w_M_20 (k : K_X) (a : Nat → Nat) (F : Nat → Nat → Int32) (v : Nat → Int32) : (w_M k a F).set 20 (a 20, k_aI k 10 v) = w_M k a (k_st F 20 v) := rfl
theorem w_M_21 (k : K_X) (a : Nat → Nat) (F : Nat → Nat → Int32) (v : Nat → Int32) : (w_M k a F).set 21 (a 21, k_aI k 10 v) = w_M k a (k_st F 21 v) := rfl
theorem w_M_s0 (k : K_X) (a : Nat → Nat) (F : Nat → Nat → Int32) (v : Int32) : (w_M k a F).set 0 (a 0, .inr (5, ([Value.int (F 0 0), .int (F 0 1), .ref (a 1), .ref (a 2), .ref (a 3), .int (F 0 2), .ref (a 4), .ref (a 5), .ref (a 6), .ref (a 7), .ref (a 8), .ref (a 9), .ref (a 10), .ref (a 11), .ref (a 12), .int (F 0 3), .int (F 0 4), .ref (a 13), .int (F 0 5), .int (F 0 6), .ref (a 14), .ref (a 15), .ref (a 16), .ref (a 17), .ref (a 18), .ref (a 19), .ref (a 20), .ref (a 21)]).set 0 (.int v))) = w_M k a (k_st F 0 (k_st (F 0) 0 v)) := rfl
theorem w_M_s1 (k : K_X) (a : Nat → Nat) (F : Nat → Nat → Int32) (v : Int32) : (w_M k a F).set 0 (a 0, .inr (5, ([Value.int (F 0 0), .int (F 0 1), .ref (a 1), .ref (a 2), .ref (a 3), .int (F 0 2), .ref (a 4), .ref (a 5), .ref (a 6), .ref (a 7), .ref (a 8), .ref (a 9), .ref (a 10), .ref (a 11), .ref (a 12), .int (F 0 3), .int (F 0 4), .ref (a 13), .int (F 0 5), .int (F 0 6), .ref (a 14), .ref (a 15), .ref (a 16), .ref (a 17), .ref (a 18), .ref (a 19), .ref (a 20), .ref (a 21)]).set 1 (.int v))) = w_M k a (k_st F 0 (k_st (F 0) 1 v)) := rfl
theorem w_M_s2 (k : K_X) (a : Nat → Nat) (F : Nat → Nat → Int32) (v : Int32) : (w_M k a F).set 0 (a 0, .inr (5, ([Value.int (F 0 0), .int (F 0 1), .ref (a 1), .ref (a 2), .ref (a 3), .int (F 0 2), .ref (a 4), .ref (a 5), .ref (a 6), .ref (a 7), .ref (a 8), .ref (a 9), .ref (a 10), .ref (a 11), .ref (a 12), .int (F 0 3), .int (F 0 4), .ref (a 13), .int (F 0 5), .int (F 0 6), .ref (a 14), .ref (a 15), .ref (a 16), .ref (a 17), .ref (a 18), .ref (a 19), .ref (a 20), .ref (a 21)]).set 5 (.int v))) = w_M k a (k_st F 0 (k_st (F 0) 2 v)) := rfl
theorem w_M_s3 (k : K_X) (a : Nat → Nat) (F : Nat → Nat → Int32) (v : Int32) : (w_M k a F).set 0 (a 0, .inr (5, ([Value.int (F 0 0), .int (F 0 1), .ref (a 1), .ref (a 2), .ref (a 3), .int (F 0 2), .ref (a 4), .ref (a 5), .ref (a 6), .ref (a 7), .ref (a 8), .ref (a 9), .ref (a 10), .ref (a 11), .ref (a 12), .int (F 0 3), .int (F 0 4), .ref (a 13), .int (F 0 5), .int (F 0 6), .ref (a 14), .ref (a 15), .ref (a 16), .ref (a 17), .ref (a 18), .ref (a 19), .ref (a 20), .ref (a 21)]).set 15 (.int v))) = w_M k a (k_st F 0 (k_st (F 0) 3 v)) := rfl
theorem w_M_s4 (k : K_X) (a : Nat → Nat) (F : Nat → Nat → Int32) (v : Int32) : (w_M k a F).set 0 (a 0, .inr (5, ([Value.int (F 0 0), .int (F 0 1), .ref (a 1), .ref (a 2), .ref (a 3), .int (F 0 2), .ref (a 4), .ref (a 5), .ref (a 6), .ref (a 7), .ref (a 8), .ref (a 9), .ref (a 10), .ref (a 11), .ref (a 12), .int (F 0 3), .int (F 0 4), .ref (a 13), .int (F 0 5), .int (F 0 6), .ref (a 14), .ref (a 15), .ref (a 16), .ref (a 17), .ref (a 18), .ref (a 19), .ref (a 20), .ref (a 21)]).set 16 (.int v))) = w_M k a (k_st F 0 (k_st (F 0) 4 v)) := rfl
theorem w_M_s5 (k : K_X) (a : Nat → Nat) (F : Nat → Nat → Int32) (v : Int32) : (w_M k a F).set 0 (a 0, .inr (5, ([Value.int (F 0 0), .int (F 0 1), .ref (a 1), .ref (a 2), .ref (a 3), .int (F 0 2), .ref (a 4), .ref (a 5), .ref (a 6), .ref (a 7), .ref (a 8), .ref (a 9), .ref (a 10), .ref (a 11), .ref (a 12), .int (F 0 3), .int (F 0 4), .ref (a 13), .int (F 0 5), .int (F 0 6), .ref (a 14), .ref (a 15), .ref (a 16), .ref (a 17), .ref (a 18), .ref (a 19), .ref (a 20), .ref (a 21)]).set 18 (.int v))) = w_M k a (k_st F 0 (k_st (F 0) 5 v)) := rfl
theorem w_M_s6 (k : K_X) (a : Nat → Nat) (F : Nat → Nat → Int32) (v : Int32) : (w_M k a F).set 0 (a 0, .inr (5, ([Value.int (F 0 0), .int (F 0 1), .ref (a 1), .ref (a 2), .ref (a 3), .int (F 0 2), .ref (a 4), .ref (a 5), .ref (a 6), .ref (a 7), .ref (a 8), .ref (a 9), .ref (a 10), .ref (a 11), .ref (a 12), .int (F 0 3), .int (F 0 4), .ref (a 13), .int (F 0 5), .int (F 0 6), .ref (a 14), .ref (a 15), .ref (a 16), .ref (a 17), .ref (a 18), .ref (a 19), .ref (a 20), .ref (a 21)]).set 19 (.int v))) = w_M k a (k_st F 0 (k_st (F 0) 6 v)) := rfl
end
section
theorem in_X2_addServant_X2 : ∀ w ∈ wsX20, w ∈ wsX2_addServant := fun _ h => List.mem_cons_of_mem _ (List.mem_append_right _ h)
def f_X2_addServant (sP : Nat → Nat → Int32) (i1 : Int32) (i2 : Int32) (i3 : Int32) : Int32 × (Nat → Nat → Int32) :=
  if (sP 0 0) < 10 then ((((sP 0 0) + 1) - 1), k_st (k_st (k_st (k_st sP 1 (upd (sP 1) (sP 0 0).toNatClampNeg i1)) 2 (upd (sP 2) (sP 0 0).toNatClampNeg i2)) 3 (upd (sP 3) (sP 0 0).toNatClampNeg i3)) 0 (k_st ((k_st (k_st (k_st sP 1 (upd (sP 1) (sP 0 0).toNatClampNeg i1)) 2 (upd (sP 2) (sP 0 0).toNatClampNeg i2)) 3 (upd (sP 3) (sP 0 0).toNatClampNeg i3)) 0) 0 ((sP 0 0) + 1)))
  else ((-4), sP)
set_option maxHeartbeats 4000000 in
set_option maxRecDepth 100000 in
theorem c_X2_addServant (l : Launch) (k : K_X) (ap : Nat → Nat) (sP : Nat → Nat → Int32) (i1 : Int32) (i2 : Int32) (i3 : Int32) (hNs : k_n (sP 0 0) 10) : k_C l yX2_addServant wsX2_addServant (k_rm 0 0) k [.ref (ap 0), .int i1, .int i2, .int i3] (w_P k ap sP) (k_qI k ((f_X2_addServant sP i1 i2 i3).1) (w_P k ap ((f_X2_addServant sP i1 i2 i3).2))) := by
  refine k_mk (cc := cX2_addServant) (maxL := 4) (ret := (some .int)) (by decide) rfl (Nat.le_of_ble_eq_true rfl) ?_
  intro p e s m below meth c A ls C0 hP hD hS hl
  obtain ⟨hx, hb, hr, hts, hown, hlocks, hml, hA, hK⟩ := id C0
  have hown : s.vm.findClass RX2 = some m.cls := hown
  have hl : lv_has ls 4 [(0, .ref (ap 0)), (1, .int i1), (2, .int i2), (3, .int i3)] := hl
  refine lv_aload_n hx hb dX2_addServant_0 rfl (lv_at hl 0 rfl) ?_
  refine va_get (D := k.1) (ci := 2) (v := .int (sP 0 0)) (C := RX2) (T := TX2) (N := 9) hx hb hts in_X2_addServant_X2 hown hK hP 0 rfl rfl 0 (by decide) (k_w hts 1 rfl) (fun _ h9 => h9) rfl dX2_addServant_1 ?_
  refine lv_bipush (v := 10) hx hb dX2_addServant_4 (by decide) ?_
  refine lv_icmp_lt (tgt := 12) hx hb dX2_addServant_6 (by decide) (fun c_1 => ?_) (fun c_1 => ?_)
  ·
    refine lv_aload_n hx hb dX2_addServant_12 rfl (lv_at hl 0 rfl) ?_
    refine va_get (D := k.1) (ci := 2) (v := .ref (ap 1)) (C := RX2) (T := TX2) (N := 9) hx hb hts in_X2_addServant_X2 hown hK hP 0 rfl rfl 1 (by decide) (k_w hts 2 rfl) (fun _ h9 => h9) rfl dX2_addServant_13 ?_
    refine lv_aload_n hx hb dX2_addServant_16 rfl (lv_at hl 0 rfl) ?_
    refine va_get (D := k.1) (ci := 2) (v := .int (sP 0 0)) (C := RX2) (T := TX2) (N := 9) hx hb hts in_X2_addServant_X2 hown hK hP 0 rfl rfl 0 (by decide) (k_w hts 1 rfl) (fun _ h9 => h9) rfl dX2_addServant_17 ?_
    refine lv_iload_n hx hb dX2_addServant_20 rfl (lv_at hl 1 rfl) ?_
    refine va_iast (f := sP 1) hx hb hK hP hD hS 1 0 rfl rfl (hNs.in (by assumption)) dX2_addServant_21 (fun H locs hP hD hS => ?_)
    have hP := k_cP (w_P_1 k ap sP (upd (sP 1) (sP 0 0).toNatClampNeg i1)) hP
    have hD := k_cD (w_P_1 k ap sP (upd (sP 1) (sP 0 0).toNatClampNeg i1)) hD
    refine lv_aload_n hx hb dX2_addServant_22 rfl (lv_at hl 0 rfl) ?_
    refine va_get (D := k.1) (ci := 2) (v := .ref (ap 2)) (C := RX2) (T := TX2) (N := 9) hx hb hts in_X2_addServant_X2 hown hK hP 0 rfl rfl 2 (by decide) (k_w hts 3 rfl) (fun _ h9 => h9) rfl dX2_addServant_23 ?_
    refine lv_aload_n hx hb dX2_addServant_26 rfl (lv_at hl 0 rfl) ?_
    refine va_get (D := k.1) (ci := 2) (v := .int (sP 0 0)) (C := RX2) (T := TX2) (N := 9) hx hb hts in_X2_addServant_X2 hown hK hP 0 rfl rfl 0 (by decide) (k_w hts 1 rfl) (fun _ h9 => h9) rfl dX2_addServant_27 ?_
    refine lv_iload_n hx hb dX2_addServant_30 rfl (lv_at hl 2 rfl) ?_
    refine va_iast (f := sP 2) hx hb hK hP hD hS 2 0 rfl rfl (hNs.in (by assumption)) dX2_addServant_31 (fun H locs hP hD hS => ?_)
    have hP := k_cP (w_P_2 k ap (k_st sP 1 (upd (sP 1) (sP 0 0).toNatClampNeg i1)) (upd (sP 2) (sP 0 0).toNatClampNeg i2)) hP
    have hD := k_cD (w_P_2 k ap (k_st sP 1 (upd (sP 1) (sP 0 0).toNatClampNeg i1)) (upd (sP 2) (sP 0 0).toNatClampNeg i2)) hD
    refine lv_aload_n hx hb dX2_addServant_32 rfl (lv_at hl 0 rfl) ?_
    refine va_get (D := k.1) (ci := 2) (v := .ref (ap 3)) (C := RX2) (T := TX2) (N := 9) hx hb hts in_X2_addServant_X2 hown hK hP 0 rfl rfl 3 (by decide) (k_w hts 4 rfl) (fun _ h9 => h9) rfl dX2_addServant_33 ?_
    refine lv_aload_n hx hb dX2_addServant_36 rfl (lv_at hl 0 rfl) ?_
    refine va_get (D := k.1) (ci := 2) (v := .int (sP 0 0)) (C := RX2) (T := TX2) (N := 9) hx hb hts in_X2_addServant_X2 hown hK hP 0 rfl rfl 0 (by decide) (k_w hts 1 rfl) (fun _ h9 => h9) rfl dX2_addServant_37 ?_
    refine lv_iload_n hx hb dX2_addServant_40 rfl (lv_at hl 3 rfl) ?_
    refine va_iast (f := sP 3) hx hb hK hP hD hS 3 0 rfl rfl (hNs.in (by assumption)) dX2_addServant_41 (fun H locs hP hD hS => ?_)
    have hP := k_cP (w_P_3 k ap (k_st (k_st sP 1 (upd (sP 1) (sP 0 0).toNatClampNeg i1)) 2 (upd (sP 2) (sP 0 0).toNatClampNeg i2)) (upd (sP 3) (sP 0 0).toNatClampNeg i3)) hP
    have hD := k_cD (w_P_3 k ap (k_st (k_st sP 1 (upd (sP 1) (sP 0 0).toNatClampNeg i1)) 2 (upd (sP 2) (sP 0 0).toNatClampNeg i2)) (upd (sP 3) (sP 0 0).toNatClampNeg i3)) hD
    refine lv_aload_n hx hb dX2_addServant_42 rfl (lv_at hl 0 rfl) ?_
    refine lv_dup hx hb dX2_addServant_43 rfl ?_
    refine va_get (D := k.1) (ci := 2) (v := .int (sP 0 0)) (C := RX2) (T := TX2) (N := 9) hx hb hts in_X2_addServant_X2 hown hK hP 0 rfl rfl 0 (by decide) (k_w hts 1 rfl) (fun _ h9 => h9) rfl dX2_addServant_44 ?_
    refine lv_iconst (v := 1) hx hb dX2_addServant_47 (by decide) ?_
    refine lv_iadd hx hb dX2_addServant_48 ?_
    refine va_put (D := k.1) (ci := 2) (v := .int ((sP 0 0) + 1)) (ty := .int) (C := RX2) (T := TX2) (N := 9) hx hb hts in_X2_addServant_X2 tyX2 tyX2_ok nmX2 hown hK hP hD hS 0 rfl rfl 0 (by decide) (k_w hts 1 rfl) (fun _ h9 => h9) rfl (by decide +kernel) rfl rfl (Nat.le_of_ble_eq_true rfl) dX2_addServant_49 (fun H locs hP hD hS => ?_)
    have hP := k_cP (w_P_s0 k ap (k_st (k_st (k_st sP 1 (upd (sP 1) (sP 0 0).toNatClampNeg i1)) 2 (upd (sP 2) (sP 0 0).toNatClampNeg i2)) 3 (upd (sP 3) (sP 0 0).toNatClampNeg i3)) ((sP 0 0) + 1)) hP
    have hD := k_cD (w_P_s0 k ap (k_st (k_st (k_st sP 1 (upd (sP 1) (sP 0 0).toNatClampNeg i1)) 2 (upd (sP 2) (sP 0 0).toNatClampNeg i2)) 3 (upd (sP 3) (sP 0 0).toNatClampNeg i3)) ((sP 0 0) + 1)) hD
    refine lv_aload_n hx hb dX2_addServant_52 rfl (lv_at hl 0 rfl) ?_
    refine va_get (D := k.1) (ci := 2) (v := .int ((sP 0 0) + 1)) (C := RX2) (T := TX2) (N := 9) hx hb hts in_X2_addServant_X2 hown hK hP 0 rfl rfl 0 (by decide) (k_w hts 1 rfl) (fun _ h9 => h9) rfl dX2_addServant_53 ?_
    refine lv_iconst (v := 1) hx hb dX2_addServant_56 (by decide) ?_
    refine lv_isub hx hb dX2_addServant_57 ?_
    have ef : f_X2_addServant sP i1 i2 i3 = ((((sP 0 0) + 1) - 1), k_st (k_st (k_st (k_st sP 1 (upd (sP 1) (sP 0 0).toNatClampNeg i1)) 2 (upd (sP 2) (sP 0 0).toNatClampNeg i2)) 3 (upd (sP 3) (sP 0 0).toNatClampNeg i3)) 0 (k_st ((k_st (k_st (k_st sP 1 (upd (sP 1) (sP 0 0).toNatClampNeg i1)) 2 (upd (sP 2) (sP 0 0).toNatClampNeg i2)) 3 (upd (sP 3) (sP 0 0).toNatClampNeg i3)) 0) 0 ((sP 0 0) + 1))) := by
      rw [f_X2_addServant, if_pos c_1]
    exact k_reti hx hb hr hK (by rw [ef]; exact hP) (by rw [ef]; exact hD) hS hlocks dX2_addServant_58 (by rw [ef])
  ·
    refine lv_bipush (v := (-4)) hx hb dX2_addServant_9 (by decide) ?_
    have ef : f_X2_addServant sP i1 i2 i3 = ((-4), sP) := by
      rw [f_X2_addServant, if_neg c_1]
    exact k_reti hx hb hr hK (by rw [ef]; exact hP) (by rw [ef]; exact hD) hS hlocks dX2_addServant_11 (by rw [ef])
theorem in_X2_addMaster_X2 : ∀ w ∈ wsX20, w ∈ wsX2_addMaster := fun _ h => List.mem_cons_of_mem _ (List.mem_append_right _ h)
def f_X2_addMaster (sP : Nat → Nat → Int32) (i1 : Int32) (i2 : Int32) : Int32 × (Nat → Nat → Int32) :=
  if (sP 0 1) < 10 then ((((sP 0 1) + 1) - 1), k_st (k_st (k_st sP 4 (upd (sP 4) (sP 0 1).toNatClampNeg i1)) 5 (upd (sP 5) (sP 0 1).toNatClampNeg i2)) 0 (k_st ((k_st (k_st sP 4 (upd (sP 4) (sP 0 1).toNatClampNeg i1)) 5 (upd (sP 5) (sP 0 1).toNatClampNeg i2)) 0) 1 ((sP 0 1) + 1)))
  else ((-4), sP)
set_option maxHeartbeats 4000000 in
set_option maxRecDepth 100000 in
theorem c_X2_addMaster (l : Launch) (k : K_X) (ap : Nat → Nat) (sP : Nat → Nat → Int32) (i1 : Int32) (i2 : Int32) (hNm : k_n (sP 0 1) 10) : k_C l yX2_addMaster wsX2_addMaster (k_rm 0 0) k [.ref (ap 0), .int i1, .int i2] (w_P k ap sP) (k_qI k ((f_X2_addMaster sP i1 i2).1) (w_P k ap ((f_X2_addMaster sP i1 i2).2))) := by
  refine k_mk (cc := cX2_addMaster) (maxL := 3) (ret := (some .int)) (by decide) rfl (Nat.le_of_ble_eq_true rfl) ?_
  intro p e s m below meth c A ls C0 hP hD hS hl
  obtain ⟨hx, hb, hr, hts, hown, hlocks, hml, hA, hK⟩ := id C0
  have hown : s.vm.findClass RX2 = some m.cls := hown
  have hl : lv_has ls 3 [(0, .ref (ap 0)), (1, .int i1), (2, .int i2)] := hl
  refine lv_aload_n hx hb dX2_addMaster_0 rfl (lv_at hl 0 rfl) ?_
  refine va_get (D := k.1) (ci := 2) (v := .int (sP 0 1)) (C := RX2) (T := TX2) (N := 9) hx hb hts in_X2_addMaster_X2 hown hK hP 0 rfl rfl 4 (by decide) (k_w hts 1 rfl) (fun _ h9 => h9) rfl dX2_addMaster_1 ?_
  refine lv_bipush (v := 10) hx hb dX2_addMaster_4 (by decide) ?_
  refine lv_icmp_lt (tgt := 12) hx hb dX2_addMaster_6 (by decide) (fun c_1 => ?_) (fun c_1 => ?_)
  ·
    refine lv_aload_n hx hb dX2_addMaster_12 rfl (lv_at hl 0 rfl) ?_
    refine va_get (D := k.1) (ci := 2) (v := .ref (ap 4)) (C := RX2) (T := TX2) (N := 9) hx hb hts in_X2_addMaster_X2 hown hK hP 0 rfl rfl 5 (by decide) (k_w hts 2 rfl) (fun _ h9 => h9) rfl dX2_addMaster_13 ?_
    refine lv_aload_n hx hb dX2_addMaster_16 rfl (lv_at hl 0 rfl) ?_
    refine va_get (D := k.1) (ci := 2) (v := .int (sP 0 1)) (C := RX2) (T := TX2) (N := 9) hx hb hts in_X2_addMaster_X2 hown hK hP 0 rfl rfl 4 (by decide) (k_w hts 1 rfl) (fun _ h9 => h9) rfl dX2_addMaster_17 ?_
    refine lv_iload_n hx hb dX2_addMaster_20 rfl (lv_at hl 1 rfl) ?_
    refine va_iast (f := sP 4) hx hb hK hP hD hS 4 0 rfl rfl (hNm.in (by assumption)) dX2_addMaster_21 (fun H locs hP hD hS => ?_)
    have hP := k_cP (w_P_4 k ap sP (upd (sP 4) (sP 0 1).toNatClampNeg i1)) hP
    have hD := k_cD (w_P_4 k ap sP (upd (sP 4) (sP 0 1).toNatClampNeg i1)) hD
    refine lv_aload_n hx hb dX2_addMaster_22 rfl (lv_at hl 0 rfl) ?_
    refine va_get (D := k.1) (ci := 2) (v := .ref (ap 5)) (C := RX2) (T := TX2) (N := 9) hx hb hts in_X2_addMaster_X2 hown hK hP 0 rfl rfl 6 (by decide) (k_w hts 3 rfl) (fun _ h9 => h9) rfl dX2_addMaster_23 ?_
    refine lv_aload_n hx hb dX2_addMaster_26 rfl (lv_at hl 0 rfl) ?_
    refine va_get (D := k.1) (ci := 2) (v := .int (sP 0 1)) (C := RX2) (T := TX2) (N := 9) hx hb hts in_X2_addMaster_X2 hown hK hP 0 rfl rfl 4 (by decide) (k_w hts 1 rfl) (fun _ h9 => h9) rfl dX2_addMaster_27 ?_
    refine lv_iload_n hx hb dX2_addMaster_30 rfl (lv_at hl 2 rfl) ?_
    refine va_iast (f := sP 5) hx hb hK hP hD hS 5 0 rfl rfl (hNm.in (by assumption)) dX2_addMaster_31 (fun H locs hP hD hS => ?_)
    have hP := k_cP (w_P_5 k ap (k_st sP 4 (upd (sP 4) (sP 0 1).toNatClampNeg i1)) (upd (sP 5) (sP 0 1).toNatClampNeg i2)) hP
    have hD := k_cD (w_P_5 k ap (k_st sP 4 (upd (sP 4) (sP 0 1).toNatClampNeg i1)) (upd (sP 5) (sP 0 1).toNatClampNeg i2)) hD
    refine lv_aload_n hx hb dX2_addMaster_32 rfl (lv_at hl 0 rfl) ?_
    refine lv_dup hx hb dX2_addMaster_33 rfl ?_
    refine va_get (D := k.1) (ci := 2) (v := .int (sP 0 1)) (C := RX2) (T := TX2) (N := 9) hx hb hts in_X2_addMaster_X2 hown hK hP 0 rfl rfl 4 (by decide) (k_w hts 1 rfl) (fun _ h9 => h9) rfl dX2_addMaster_34 ?_
    refine lv_iconst (v := 1) hx hb dX2_addMaster_37 (by decide) ?_
    refine lv_iadd hx hb dX2_addMaster_38 ?_
    refine va_put (D := k.1) (ci := 2) (v := .int ((sP 0 1) + 1)) (ty := .int) (C := RX2) (T := TX2) (N := 9) hx hb hts in_X2_addMaster_X2 tyX2 tyX2_ok nmX2 hown hK hP hD hS 0 rfl rfl 4 (by decide) (k_w hts 1 rfl) (fun _ h9 => h9) rfl (by decide +kernel) rfl rfl (Nat.le_of_ble_eq_true rfl) dX2_addMaster_39 (fun H locs hP hD hS => ?_)
    have hP := k_cP (w_P_s1 k ap (k_st (k_st sP 4 (upd (sP 4) (sP 0 1).toNatClampNeg i1)) 5 (upd (sP 5) (sP 0 1).toNatClampNeg i2)) ((sP 0 1) + 1)) hP
    have hD := k_cD (w_P_s1 k ap (k_st (k_st sP 4 (upd (sP 4) (sP 0 1).toNatClampNeg i1)) 5 (upd (sP 5) (sP 0 1).toNatClampNeg i2)) ((sP 0 1) + 1)) hD
    refine lv_aload_n hx hb dX2_addMaster_42 rfl (lv_at hl 0 rfl) ?_
    refine va_get (D := k.1) (ci := 2) (v := .int ((sP 0 1) + 1)) (C := RX2) (T := TX2) (N := 9) hx hb hts in_X2_addMaster_X2 hown hK hP 0 rfl rfl 4 (by decide) (k_w hts 1 rfl) (fun _ h9 => h9) rfl dX2_addMaster_43 ?_
    refine lv_iconst (v := 1) hx hb dX2_addMaster_46 (by decide) ?_
    refine lv_isub hx hb dX2_addMaster_47 ?_
    have ef : f_X2_addMaster sP i1 i2 = ((((sP 0 1) + 1) - 1), k_st (k_st (k_st sP 4 (upd (sP 4) (sP 0 1).toNatClampNeg i1)) 5 (upd (sP 5) (sP 0 1).toNatClampNeg i2)) 0 (k_st ((k_st (k_st sP 4 (upd (sP 4) (sP 0 1).toNatClampNeg i1)) 5 (upd (sP 5) (sP 0 1).toNatClampNeg i2)) 0) 1 ((sP 0 1) + 1))) := by
      rw [f_X2_addMaster, if_pos c_1]
    exact k_reti hx hb hr hK (by rw [ef]; exact hP) (by rw [ef]; exact hD) hS hlocks dX2_addMaster_48 (by rw [ef])
  ·
    refine lv_bipush (v := (-4)) hx hb dX2_addMaster_9 (by decide) ?_
    have ef : f_X2_addMaster sP i1 i2 = ((-4), sP) := by
      rw [f_X2_addMaster, if_neg c_1]
    exact k_reti hx hb hr hK (by rw [ef]; exact hP) (by rw [ef]; exact hD) hS hlocks dX2_addMaster_11 (by rw [ef])
theorem in_X2_hasServant_X2 : ∀ w ∈ wsX20, w ∈ wsX2_hasServant := fun _ h => List.mem_cons_of_mem _ (List.mem_append_right _ h)
def f_X2_hasServant (sP : Nat → Nat → Int32) (i1 : Int32) : Int32 :=
  if i1 < 0 then 0
  else if (sP 0 0) ≤ i1 then 0
  else 1
set_option maxHeartbeats 4000000 in
set_option maxRecDepth 100000 in
theorem c_X2_hasServant (l : Launch) (k : K_X) (ap : Nat → Nat) (sP : Nat → Nat → Int32) (i1 : Int32) : k_C l yX2_hasServant wsX2_hasServant (k_rm 0 0) k [.ref (ap 0), .int i1] (w_P k ap sP) (k_qI k (f_X2_hasServant sP i1) (w_P k ap sP)) := by
  refine k_mk (cc := cX2_hasServant) (maxL := 2) (ret := (some .boolean)) (by decide) rfl (Nat.le_of_ble_eq_true rfl) ?_
  intro p e s m below meth c A ls C0 hP hD hS hl
  obtain ⟨hx, hb, hr, hts, hown, hlocks, hml, hA, hK⟩ := id C0
  have hown : s.vm.findClass RX2 = some m.cls := hown
  have hl : lv_has ls 2 [(0, .ref (ap 0)), (1, .int i1)] := hl
  refine lv_iload_n hx hb dX2_hasServant_0 rfl (lv_at hl 1 rfl) ?_
  refine lv_if_lt (tgt := 16) hx hb dX2_hasServant_1 (by decide) (fun c_1 => ?_) (fun c_1 => ?_)
  ·
    refine lv_iconst (v := 0) hx hb dX2_hasServant_16 (by decide) ?_
    have ef : f_X2_hasServant sP i1 = 0 := by
      rw [f_X2_hasServant, if_pos c_1]
    exact k_retz hx hb hr (by decide) hK hP hD hS hlocks dX2_hasServant_17 (by rw [ef])
  ·
    refine lv_iload_n hx hb dX2_hasServant_4 rfl (lv_at hl 1 rfl) ?_
    refine lv_aload_n hx hb dX2_hasServant_5 rfl (lv_at hl 0 rfl) ?_
    refine va_get (D := k.1) (ci := 2) (v := .int (sP 0 0)) (C := RX2) (T := TX2) (N := 9) hx hb hts in_X2_hasServant_X2 hown hK hP 0 rfl rfl 0 (by decide) (k_w hts 1 rfl) (fun _ h9 => h9) rfl dX2_hasServant_6 ?_
    refine lv_icmp_ge (tgt := 16) hx hb dX2_hasServant_9 (by decide) (fun c_2 => ?_) (fun c_2 => ?_)
    ·
      refine lv_iconst (v := 0) hx hb dX2_hasServant_16 (by decide) ?_
      have ef : f_X2_hasServant sP i1 = 0 := by
        rw [f_X2_hasServant, if_neg c_1, if_pos c_2]
      exact k_retz hx hb hr (by decide) hK hP hD hS hlocks dX2_hasServant_17 (by rw [ef])
    ·
      refine lv_iconst (v := 1) hx hb dX2_hasServant_12 (by decide) ?_
      refine lv_goto (tgt := 17) hx hb dX2_hasServant_13 (by decide) ?_
      have ef : f_X2_hasServant sP i1 = 1 := by
        rw [f_X2_hasServant, if_neg c_1, if_neg c_2]
      exact k_retz hx hb hr (by decide) hK hP hD hS hlocks dX2_hasServant_17 (by rw [ef])
theorem in_X2_hasMaster_X2 : ∀ w ∈ wsX20, w ∈ wsX2_hasMaster := fun _ h => List.mem_cons_of_mem _ (List.mem_append_right _ h)
def f_X2_hasMaster (sP : Nat → Nat → Int32) (i1 : Int32) : Int32 :=
  if i1 < 0 then 0
  else if (sP 0 1) ≤ i1 then 0
  else 1
set_option maxHeartbeats 4000000 in
set_option maxRecDepth 100000 in
theorem c_X2_hasMaster (l : Launch) (k : K_X) (ap : Nat → Nat) (sP : Nat → Nat → Int32) (i1 : Int32) : k_C l yX2_hasMaster wsX2_hasMaster (k_rm 0 0) k [.ref (ap 0), .int i1] (w_P k ap sP) (k_qI k (f_X2_hasMaster sP i1) (w_P k ap sP)) := by
  refine k_mk (cc := cX2_hasMaster) (maxL := 2) (ret := (some .boolean)) (by decide) rfl (Nat.le_of_ble_eq_true rfl) ?_
  intro p e s m below meth c A ls C0 hP hD hS hl
  obtain ⟨hx, hb, hr, hts, hown, hlocks, hml, hA, hK⟩ := id C0
  have hown : s.vm.findClass RX2 = some m.cls := hown
  have hl : lv_has ls 2 [(0, .ref (ap 0)), (1, .int i1)] := hl
  refine lv_iload_n hx hb dX2_hasMaster_0 rfl (lv_at hl 1 rfl) ?_
  refine lv_if_lt (tgt := 16) hx hb dX2_hasMaster_1 (by decide) (fun c_1 => ?_) (fun c_1 => ?_)
  ·
    refine lv_iconst (v := 0) hx hb dX2_hasMaster_16 (by decide) ?_
    have ef : f_X2_hasMaster sP i1 = 0 := by
      rw [f_X2_hasMaster, if_pos c_1]
    exact k_retz hx hb hr (by decide) hK hP hD hS hlocks dX2_hasMaster_17 (by rw [ef])
  ·
    refine lv_iload_n hx hb dX2_hasMaster_4 rfl (lv_at hl 1 rfl) ?_
    refine lv_aload_n hx hb dX2_hasMaster_5 rfl (lv_at hl 0 rfl) ?_
    refine va_get (D := k.1) (ci := 2) (v := .int (sP 0 1)) (C := RX2) (T := TX2) (N := 9) hx hb hts in_X2_hasMaster_X2 hown hK hP 0 rfl rfl 4 (by decide) (k_w hts 1 rfl) (fun _ h9 => h9) rfl dX2_hasMaster_6 ?_
    refine lv_icmp_ge (tgt := 16) hx hb dX2_hasMaster_9 (by decide) (fun c_2 => ?_) (fun c_2 => ?_)
    ·
      refine lv_iconst (v := 0) hx hb dX2_hasMaster_16 (by decide) ?_
      have ef : f_X2_hasMaster sP i1 = 0 := by
        rw [f_X2_hasMaster, if_neg c_1, if_pos c_2]
      exact k_retz hx hb hr (by decide) hK hP hD hS hlocks dX2_hasMaster_17 (by rw [ef])
    ·
      refine lv_iconst (v := 1) hx hb dX2_hasMaster_12 (by decide) ?_
      refine lv_goto (tgt := 17) hx hb dX2_hasMaster_13 (by decide) ?_
      have ef : f_X2_hasMaster sP i1 = 1 := by
        rw [f_X2_hasMaster, if_neg c_1, if_neg c_2]
      exact k_retz hx hb hr (by decide) hK hP hD hS hlocks dX2_hasMaster_17 (by rw [ef])
theorem in_X2_hasBoth_X2 : ∀ w ∈ wsX20, w ∈ wsX2_hasBoth := fun _ h => List.mem_cons_of_mem _ (List.mem_append_right _ h)
def f_X2_hasBoth (sP : Nat → Nat → Int32) (i1 : Int32) (i2 : Int32) : Int32 :=
  if (f_X2_hasMaster sP i1) = 0 then 0
  else if (f_X2_hasServant sP i2) = 0 then 0
  else 1
set_option maxHeartbeats 4000000 in
set_option maxRecDepth 100000 in
theorem c_X2_hasBoth (l : Launch) (k : K_X) (ap : Nat → Nat) (sP : Nat → Nat → Int32) (i1 : Int32) (i2 : Int32) : k_C l yX2_hasBoth wsX2_hasBoth (k_rm 1 21) k [.ref (ap 0), .int i1, .int i2] (w_P k ap sP) (k_qI k (f_X2_hasBoth sP i1 i2) (w_P k ap sP)) := by
  refine k_mk (cc := cX2_hasBoth) (maxL := 3) (ret := (some .boolean)) (by decide) rfl (Nat.le_of_ble_eq_true rfl) ?_
  intro p e s m below meth c A ls C0 hP hD hS hl
  obtain ⟨hx, hb, hr, hts, hown, hlocks, hml, hA, hK⟩ := id C0
  have hown : s.vm.findClass RX2 = some m.cls := hown
  have hl : lv_has ls 3 [(0, .ref (ap 0)), (1, .int i1), (2, .int i2)] := hl
  refine lv_aload_n hx hb dX2_hasBoth_0 rfl (lv_at hl 0 rfl) ?_
  refine lv_iload_n hx hb dX2_hasBoth_1 rfl (lv_at hl 1 rfl) ?_
  refine k_Vi (wr := ([] : va_W)) (ws' := w_P k ap sP) (Rv := (f_X2_hasMaster sP i1)) (rest := []) ⟨hx, hb, hml, hown, hts⟩ hK hA hP hD hS (c_X2_hasMaster l k ap sP i1) (cwV 1 hts gX2_hasBoth_X2_hasMaster rfl rfl rfl (by decide +kernel) ⟨Nat.le_of_ble_eq_true rfl, Nat.le_of_ble_eq_true rfl⟩) (va_recv hK hP (ci := 2) (q0 := 0) rfl rfl) rfl hl.1 rfl (Nat.le_of_ble_eq_true rfl) dX2_hasBoth_2 (Nat.zero_le _) (Nat.zero_le _) [0, 1, 2, 3, 4, 5, 6, 7, 8, 9, 10, 11, 12, 13, 14, 15, 16, 17] [] [0, 1, 2, 3, 4, 5, 6, 7, 8, 9, 10, 11, 12, 13, 14, 15, 16, 17] rfl rfl rfl (by decide) rfl rfl rfl (fun H locs hP hD hS => ?_)
  refine lv_if_eq (tgt := 20) hx hb dX2_hasBoth_5 (by decide) (fun c_1 => ?_) (fun c_1 => ?_)
  ·
    refine lv_iconst (v := 0) hx hb dX2_hasBoth_20 (by decide) ?_
    have ef : f_X2_hasBoth sP i1 i2 = 0 := by
      rw [f_X2_hasBoth, if_pos c_1]
    exact k_retz hx hb hr (by decide) hK hP hD hS hlocks dX2_hasBoth_21 (by rw [ef])
  ·
    refine lv_aload_n hx hb dX2_hasBoth_8 rfl (lv_at hl 0 rfl) ?_
    refine lv_iload_n hx hb dX2_hasBoth_9 rfl (lv_at hl 2 rfl) ?_
    refine k_Vi (wr := ([] : va_W)) (ws' := w_P k ap sP) (Rv := (f_X2_hasServant sP i2)) (rest := []) ⟨hx, hb, hml, hown, hts⟩ hK hA hP hD hS (c_X2_hasServant l k ap sP i2) (cwV 1 hts gX2_hasBoth_X2_hasServant rfl rfl rfl (by decide +kernel) ⟨Nat.le_of_ble_eq_true rfl, Nat.le_of_ble_eq_true rfl⟩) (va_recv hK hP (ci := 2) (q0 := 0) rfl rfl) rfl hl.1 rfl (Nat.le_of_ble_eq_true rfl) dX2_hasBoth_10 (Nat.zero_le _) (Nat.zero_le _) [0, 1, 2, 3, 4, 5, 6, 7, 8, 9, 10, 11, 12, 13, 14, 15, 16, 17] [] [0, 1, 2, 3, 4, 5, 6, 7, 8, 9, 10, 11, 12, 13, 14, 15, 16, 17] rfl rfl rfl (by decide) rfl rfl rfl (fun H locs hP hD hS => ?_)
    refine lv_if_eq (tgt := 20) hx hb dX2_hasBoth_13 (by decide) (fun c_2 => ?_) (fun c_2 => ?_)
    ·
      refine lv_iconst (v := 0) hx hb dX2_hasBoth_20 (by decide) ?_
      have ef : f_X2_hasBoth sP i1 i2 = 0 := by
        rw [f_X2_hasBoth, if_neg c_1, if_pos c_2]
      exact k_retz hx hb hr (by decide) hK hP hD hS hlocks dX2_hasBoth_21 (by rw [ef])
    ·
      refine lv_iconst (v := 1) hx hb dX2_hasBoth_16 (by decide) ?_
      refine lv_goto (tgt := 21) hx hb dX2_hasBoth_17 (by decide) ?_
      have ef : f_X2_hasBoth sP i1 i2 = 1 := by
        rw [f_X2_hasBoth, if_neg c_1, if_neg c_2]
      exact k_retz hx hb hr (by decide) hK hP hD hS hlocks dX2_hasBoth_21 (by rw [ef])
theorem in_X2_isBarred_X2 : ∀ w ∈ wsX20, w ∈ wsX2_isBarred := fun _ h => List.mem_cons_of_mem _ (List.mem_append_right _ h)
def f_X2_isBarred (sP : Nat → Nat → Int32) (i1 : Int32) (i2 : Int32) : Int32 :=
  if (((sP 7) i1.toNatClampNeg) &&& ((1 : Int32) <<< (i2 &&& 31))) = 0 then 0
  else 1
set_option maxHeartbeats 4000000 in
set_option maxRecDepth 100000 in
theorem c_X2_isBarred (l : Launch) (k : K_X) (ap : Nat → Nat) (sP : Nat → Nat → Int32) (i1 : Int32) (i2 : Int32) (h1 : vp_in i1 10) : k_C l yX2_isBarred wsX2_isBarred (k_rm 0 0) k [.ref (ap 0), .int i1, .int i2] (w_P k ap sP) (k_qI k (f_X2_isBarred sP i1 i2) (w_P k ap sP)) := by
  refine k_mk (cc := cX2_isBarred) (maxL := 3) (ret := (some .boolean)) (by decide) rfl (Nat.le_of_ble_eq_true rfl) ?_
  intro p e s m below meth c A ls C0 hP hD hS hl
  obtain ⟨hx, hb, hr, hts, hown, hlocks, hml, hA, hK⟩ := id C0
  have hown : s.vm.findClass RX2 = some m.cls := hown
  have hl : lv_has ls 3 [(0, .ref (ap 0)), (1, .int i1), (2, .int i2)] := hl
  refine lv_aload_n hx hb dX2_isBarred_0 rfl (lv_at hl 0 rfl) ?_
  refine va_get (D := k.1) (ci := 2) (v := .ref (ap 7)) (C := RX2) (T := TX2) (N := 9) hx hb hts in_X2_isBarred_X2 hown hK hP 0 rfl rfl 8 (by decide) (k_w hts 1 rfl) (fun _ h9 => h9) rfl dX2_isBarred_1 ?_
  refine lv_iload_n hx hb dX2_isBarred_4 rfl (lv_at hl 1 rfl) ?_
  refine va_iald (f := sP 7) hx hb hK hP 7 0 rfl rfl (by assumption) dX2_isBarred_5 ?_
  refine lv_iconst (v := 1) hx hb dX2_isBarred_6 (by decide) ?_
  refine lv_iload_n hx hb dX2_isBarred_7 rfl (lv_at hl 2 rfl) ?_
  refine lv_ishl hx hb dX2_isBarred_8 ?_
  refine lv_iand hx hb dX2_isBarred_9 ?_
  refine lv_if_eq (tgt := 17) hx hb dX2_isBarred_10 (by decide) (fun c_1 => ?_) (fun c_1 => ?_)
  ·
    refine lv_iconst (v := 0) hx hb dX2_isBarred_17 (by decide) ?_
    have ef : f_X2_isBarred sP i1 i2 = 0 := by
      rw [f_X2_isBarred, if_pos c_1]
    exact k_retz hx hb hr (by decide) hK hP hD hS hlocks dX2_isBarred_18 (by rw [ef])
  ·
    refine lv_iconst (v := 1) hx hb dX2_isBarred_13 (by decide) ?_
    refine lv_goto (tgt := 18) hx hb dX2_isBarred_14 (by decide) ?_
    have ef : f_X2_isBarred sP i1 i2 = 1 := by
      rw [f_X2_isBarred, if_neg c_1]
    exact k_retz hx hb hr (by decide) hK hP hD hS hlocks dX2_isBarred_18 (by rw [ef])
theorem in_X2_setBar_X2 : ∀ w ∈ wsX20, w ∈ wsX2_setBar := fun _ h => List.mem_cons_of_mem _ (List.mem_append_right _ h)
def f_X2_setBar (sP : Nat → Nat → Int32) (i1 : Int32) (i2 : Int32) (i3 : Int32) : (Nat → Nat → Int32) :=
  if i3 = 0 then k_st sP 7 (upd (sP 7) i1.toNatClampNeg (((sP 7) i1.toNatClampNeg) &&& (((1 : Int32) <<< (i2 &&& 31)) ^^^ (-1))))
  else k_st sP 7 (upd (sP 7) i1.toNatClampNeg (((sP 7) i1.toNatClampNeg) ||| ((1 : Int32) <<< (i2 &&& 31))))
set_option maxHeartbeats 4000000 in
set_option maxRecDepth 100000 in
theorem c_X2_setBar (l : Launch) (k : K_X) (ap : Nat → Nat) (sP : Nat → Nat → Int32) (i1 : Int32) (i2 : Int32) (i3 : Int32) (h1 : vp_in i1 10) : k_C l yX2_setBar wsX2_setBar (k_rm 0 0) k [.ref (ap 0), .int i1, .int i2, .int i3] (w_P k ap sP) (k_qV k (w_P k ap (f_X2_setBar sP i1 i2 i3))) := by
  refine k_mk (cc := cX2_setBar) (maxL := 4) (ret := none) (by decide) rfl (Nat.le_of_ble_eq_true rfl) ?_
  intro p e s m below meth c A ls C0 hP hD hS hl
  obtain ⟨hx, hb, hr, hts, hown, hlocks, hml, hA, hK⟩ := id C0
  have hown : s.vm.findClass RX2 = some m.cls := hown
  have hl : lv_has ls 4 [(0, .ref (ap 0)), (1, .int i1), (2, .int i2), (3, .int i3)] := hl
  refine lv_iload_n hx hb dX2_setBar_0 rfl (lv_at hl 3 rfl) ?_
  refine lv_if_eq (tgt := 19) hx hb dX2_setBar_1 (by decide) (fun c_1 => ?_) (fun c_1 => ?_)
  ·
    refine lv_aload_n hx hb dX2_setBar_19 rfl (lv_at hl 0 rfl) ?_
    refine va_get (D := k.1) (ci := 2) (v := .ref (ap 7)) (C := RX2) (T := TX2) (N := 9) hx hb hts in_X2_setBar_X2 hown hK hP 0 rfl rfl 8 (by decide) (k_w hts 1 rfl) (fun _ h9 => h9) rfl dX2_setBar_20 ?_
    refine lv_iload_n hx hb dX2_setBar_23 rfl (lv_at hl 1 rfl) ?_
    refine lv_dup2_11 hx hb dX2_setBar_24 rfl rfl ?_
    refine va_iald (f := sP 7) hx hb hK hP 7 0 rfl rfl (by assumption) dX2_setBar_25 ?_
    refine lv_iconst (v := 1) hx hb dX2_setBar_26 (by decide) ?_
    refine lv_iload_n hx hb dX2_setBar_27 rfl (lv_at hl 2 rfl) ?_
    refine lv_ishl hx hb dX2_setBar_28 ?_
    refine lv_iconst (v := (-1)) hx hb dX2_setBar_29 (by decide) ?_
    refine lv_ixor hx hb dX2_setBar_30 ?_
    refine lv_iand hx hb dX2_setBar_31 ?_
    refine va_iast (f := sP 7) hx hb hK hP hD hS 7 0 rfl rfl (by assumption) dX2_setBar_32 (fun H locs hP hD hS => ?_)
    have hP := k_cP (w_P_7 k ap sP (upd (sP 7) i1.toNatClampNeg (((sP 7) i1.toNatClampNeg) &&& (((1 : Int32) <<< (i2 &&& 31)) ^^^ (-1))))) hP
    have hD := k_cD (w_P_7 k ap sP (upd (sP 7) i1.toNatClampNeg (((sP 7) i1.toNatClampNeg) &&& (((1 : Int32) <<< (i2 &&& 31)) ^^^ (-1))))) hD
    have ef : f_X2_setBar sP i1 i2 i3 = k_st sP 7 (upd (sP 7) i1.toNatClampNeg (((sP 7) i1.toNatClampNeg) &&& (((1 : Int32) <<< (i2 &&& 31)) ^^^ (-1)))) := by
      rw [f_X2_setBar, if_pos c_1]
    exact k_retv hx hb hr hK (by rw [ef]; exact hP) (by rw [ef]; exact hD) hS hlocks dX2_setBar_33
  ·
    refine lv_aload_n hx hb dX2_setBar_4 rfl (lv_at hl 0 rfl) ?_
    refine va_get (D := k.1) (ci := 2) (v := .ref (ap 7)) (C := RX2) (T := TX2) (N := 9) hx hb hts in_X2_setBar_X2 hown hK hP 0 rfl rfl 8 (by decide) (k_w hts 1 rfl) (fun _ h9 => h9) rfl dX2_setBar_5 ?_
    refine lv_iload_n hx hb dX2_setBar_8 rfl (lv_at hl 1 rfl) ?_
    refine lv_dup2_11 hx hb dX2_setBar_9 rfl rfl ?_
    refine va_iald (f := sP 7) hx hb hK hP 7 0 rfl rfl (by assumption) dX2_setBar_10 ?_
    refine lv_iconst (v := 1) hx hb dX2_setBar_11 (by decide) ?_
    refine lv_iload_n hx hb dX2_setBar_12 rfl (lv_at hl 2 rfl) ?_
    refine lv_ishl hx hb dX2_setBar_13 ?_
    refine lv_ior hx hb dX2_setBar_14 ?_
    refine va_iast (f := sP 7) hx hb hK hP hD hS 7 0 rfl rfl (by assumption) dX2_setBar_15 (fun H locs hP hD hS => ?_)
    have hP := k_cP (w_P_7 k ap sP (upd (sP 7) i1.toNatClampNeg (((sP 7) i1.toNatClampNeg) ||| ((1 : Int32) <<< (i2 &&& 31))))) hP
    have hD := k_cD (w_P_7 k ap sP (upd (sP 7) i1.toNatClampNeg (((sP 7) i1.toNatClampNeg) ||| ((1 : Int32) <<< (i2 &&& 31))))) hD
    refine lv_goto (tgt := 33) hx hb dX2_setBar_16 (by decide) ?_
    have ef : f_X2_setBar sP i1 i2 i3 = k_st sP 7 (upd (sP 7) i1.toNatClampNeg (((sP 7) i1.toNatClampNeg) ||| ((1 : Int32) <<< (i2 &&& 31)))) := by
      rw [f_X2_setBar, if_neg c_1]
    exact k_retv hx hb hr hK (by rw [ef]; exact hP) (by rw [ef]; exact hD) hS hlocks dX2_setBar_33
theorem in_X2_tell_X2 : ∀ w ∈ wsX20, w ∈ wsX2_tell := fun _ h => List.mem_cons_of_mem _ (List.mem_append_right _ h)
def f_X2_tell (sP : Nat → Nat → Int32) (i1 : Int32) (i2 : Int32) (i3 : Int32) : (Nat → Nat → Int32) :=
  k_st sP (8 + i1.toNatClampNeg) (upd (sP (8 + i1.toNatClampNeg)) i2.toNatClampNeg i3)
set_option maxHeartbeats 4000000 in
set_option maxRecDepth 100000 in
theorem c_X2_tell (l : Launch) (k : K_X) (ap : Nat → Nat) (sP : Nat → Nat → Int32) (i1 : Int32) (i2 : Int32) (i3 : Int32) (h1 : vp_in i1 10) (h2 : vp_in i2 10) : k_C l yX2_tell wsX2_tell (k_rm 0 0) k [.ref (ap 0), .int i1, .int i2, .int i3] (w_P k ap sP) (k_qV k (w_P k ap (f_X2_tell sP i1 i2 i3))) := by
  refine k_mk (cc := cX2_tell) (maxL := 4) (ret := none) (by decide) rfl (Nat.le_of_ble_eq_true rfl) ?_
  intro p e s m below meth c A ls C0 hP hD hS hl
  obtain ⟨hx, hb, hr, hts, hown, hlocks, hml, hA, hK⟩ := id C0
  have hown : s.vm.findClass RX2 = some m.cls := hown
  have hl : lv_has ls 4 [(0, .ref (ap 0)), (1, .int i1), (2, .int i2), (3, .int i3)] := hl
  refine lv_aload_n hx hb dX2_tell_0 rfl (lv_at hl 0 rfl) ?_
  refine va_get (D := k.1) (ci := 2) (v := .ref (ap 6)) (C := RX2) (T := TX2) (N := 9) hx hb hts in_X2_tell_X2 hown hK hP 0 rfl rfl 7 (by decide) (k_w hts 1 rfl) (fun _ h9 => h9) rfl dX2_tell_1 ?_
  refine lv_iload_n hx hb dX2_tell_4 rfl (lv_at hl 1 rfl) ?_
  refine k_aald hx hb hK hP 6 rfl (by assumption) (k_outer (k_lt (by assumption))) dX2_tell_5 ?_
  refine lv_iload_n hx hb dX2_tell_6 rfl (lv_at hl 2 rfl) ?_
  refine lv_iload_n hx hb dX2_tell_7 rfl (lv_at hl 3 rfl) ?_
  refine va_iast hx hb hK hP hD hS (8 + i1.toNatClampNeg) 0 (w_P_row k ap sP (k_lt h1)) rfl (by assumption) dX2_tell_8 (fun H locs hP hD hS => ?_)
  have hP := k_cP (w_P_rowset k ap sP (k_lt h1) (upd (sP (8 + i1.toNatClampNeg)) i2.toNatClampNeg i3)) hP
  have hD := k_cD (w_P_rowset k ap sP (k_lt h1) (upd (sP (8 + i1.toNatClampNeg)) i2.toNatClampNeg i3)) hD
  have ef : f_X2_tell sP i1 i2 i3 = k_st sP (8 + i1.toNatClampNeg) (upd (sP (8 + i1.toNatClampNeg)) i2.toNatClampNeg i3) := by
    rw [f_X2_tell]
  exact k_retv hx hb hr hK (by rw [ef]; exact hP) (by rw [ef]; exact hD) hS hlocks dX2_tell_9
theorem in_X2_hasHeard_X2 : ∀ w ∈ wsX20, w ∈ wsX2_hasHeard := fun _ h => List.mem_cons_of_mem _ (List.mem_append_right _ h)
def f_X2_hasHeard (sP : Nat → Nat → Int32) (i1 : Int32) (i2 : Int32) : Int32 :=
  if (sP (8 + i1.toNatClampNeg) i2.toNatClampNeg) = 0 then 0
  else 1
set_option maxHeartbeats 4000000 in
set_option maxRecDepth 100000 in
theorem c_X2_hasHeard (l : Launch) (k : K_X) (ap : Nat → Nat) (sP : Nat → Nat → Int32) (i1 : Int32) (i2 : Int32) (h1 : vp_in i1 10) (h2 : vp_in i2 10) : k_C l yX2_hasHeard wsX2_hasHeard (k_rm 0 0) k [.ref (ap 0), .int i1, .int i2] (w_P k ap sP) (k_qI k (f_X2_hasHeard sP i1 i2) (w_P k ap sP)) := by
  refine k_mk (cc := cX2_hasHeard) (maxL := 3) (ret := (some .boolean)) (by decide) rfl (Nat.le_of_ble_eq_true rfl) ?_
  intro p e s m below meth c A ls C0 hP hD hS hl
  obtain ⟨hx, hb, hr, hts, hown, hlocks, hml, hA, hK⟩ := id C0
  have hown : s.vm.findClass RX2 = some m.cls := hown
  have hl : lv_has ls 3 [(0, .ref (ap 0)), (1, .int i1), (2, .int i2)] := hl
  refine lv_aload_n hx hb dX2_hasHeard_0 rfl (lv_at hl 0 rfl) ?_
  refine va_get (D := k.1) (ci := 2) (v := .ref (ap 6)) (C := RX2) (T := TX2) (N := 9) hx hb hts in_X2_hasHeard_X2 hown hK hP 0 rfl rfl 7 (by decide) (k_w hts 1 rfl) (fun _ h9 => h9) rfl dX2_hasHeard_1 ?_
  refine lv_iload_n hx hb dX2_hasHeard_4 rfl (lv_at hl 1 rfl) ?_
  refine k_aald hx hb hK hP 6 rfl (by assumption) (k_outer (k_lt (by assumption))) dX2_hasHeard_5 ?_
  refine lv_iload_n hx hb dX2_hasHeard_6 rfl (lv_at hl 2 rfl) ?_
  refine va_iald hx hb hK hP (8 + i1.toNatClampNeg) 0 (w_P_row k ap sP (k_lt h1)) rfl (by assumption) dX2_hasHeard_7 ?_
  refine lv_if_eq (tgt := 15) hx hb dX2_hasHeard_8 (by decide) (fun c_1 => ?_) (fun c_1 => ?_)
  ·
    refine lv_iconst (v := 0) hx hb dX2_hasHeard_15 (by decide) ?_
    have ef : f_X2_hasHeard sP i1 i2 = 0 := by
      rw [f_X2_hasHeard, if_pos c_1]
    exact k_retz hx hb hr (by decide) hK hP hD hS hlocks dX2_hasHeard_16 (by rw [ef])
  ·
    refine lv_iconst (v := 1) hx hb dX2_hasHeard_11 (by decide) ?_
    refine lv_goto (tgt := 16) hx hb dX2_hasHeard_12 (by decide) ?_
    have ef : f_X2_hasHeard sP i1 i2 = 1 := by
      rw [f_X2_hasHeard, if_neg c_1]
    exact k_retz hx hb hr (by decide) hK hP hD hS hlocks dX2_hasHeard_16 (by rw [ef])
theorem in_X2_heldFor_X2 : ∀ w ∈ wsX20, w ∈ wsX2_heldFor := fun _ h => List.mem_cons_of_mem _ (List.mem_append_right _ h)
def f_X2_heldFor (sP : Nat → Nat → Int32) (i1 : Int32) (i2 : Int32) : Int32 :=
  if (sP (8 + i1.toNatClampNeg) i2.toNatClampNeg) = 0 then 5
  else sP (8 + i1.toNatClampNeg) i2.toNatClampNeg
set_option maxHeartbeats 4000000 in
set_option maxRecDepth 100000 in
theorem c_X2_heldFor (l : Launch) (k : K_X) (ap : Nat → Nat) (sP : Nat → Nat → Int32) (i1 : Int32) (i2 : Int32) (h1 : vp_in i1 10) (h2 : vp_in i2 10) : k_C l yX2_heldFor wsX2_heldFor (k_rm 0 0) k [.ref (ap 0), .int i1, .int i2] (w_P k ap sP) (k_qI k (f_X2_heldFor sP i1 i2) (w_P k ap sP)) := by
  refine k_mk (cc := cX2_heldFor) (maxL := 4) (ret := (some .int)) (by decide) rfl (Nat.le_of_ble_eq_true rfl) ?_
  intro p e s m below meth c A ls C0 hP hD hS hl
  obtain ⟨hx, hb, hr, hts, hown, hlocks, hml, hA, hK⟩ := id C0
  have hown : s.vm.findClass RX2 = some m.cls := hown
  have hl : lv_has ls 4 [(0, .ref (ap 0)), (1, .int i1), (2, .int i2)] := hl
  refine lv_aload_n hx hb dX2_heldFor_0 rfl (lv_at hl 0 rfl) ?_
  refine va_get (D := k.1) (ci := 2) (v := .ref (ap 6)) (C := RX2) (T := TX2) (N := 9) hx hb hts in_X2_heldFor_X2 hown hK hP 0 rfl rfl 7 (by decide) (k_w hts 1 rfl) (fun _ h9 => h9) rfl dX2_heldFor_1 ?_
  refine lv_iload_n hx hb dX2_heldFor_4 rfl (lv_at hl 1 rfl) ?_
  refine k_aald hx hb hK hP 6 rfl (by assumption) (k_outer (k_lt (by assumption))) dX2_heldFor_5 ?_
  refine lv_iload_n hx hb dX2_heldFor_6 rfl (lv_at hl 2 rfl) ?_
  refine va_iald hx hb hK hP (8 + i1.toNatClampNeg) 0 (w_P_row k ap sP (k_lt h1)) rfl (by assumption) dX2_heldFor_7 ?_
  refine lv_istore_n (lv' := [(3, .int (sP (8 + i1.toNatClampNeg) i2.toNatClampNeg)), (0, .ref (ap 0)), (1, .int i1), (2, .int i2)]) hx hb dX2_heldFor_8 rfl hl (by decide) rfl (fun ls hl => ?_)
  refine lv_iload_n hx hb dX2_heldFor_9 rfl (lv_at hl 0 rfl) ?_
  refine lv_if_ne (tgt := 17) hx hb dX2_heldFor_10 (by decide) (fun c_1 => ?_) (fun c_1 => ?_)
  ·
    refine lv_iload_n hx hb dX2_heldFor_17 rfl (lv_at hl 0 rfl) ?_
    have ef : f_X2_heldFor sP i1 i2 = sP (8 + i1.toNatClampNeg) i2.toNatClampNeg := by
      rw [f_X2_heldFor, if_neg c_1]
    exact k_reti hx hb hr hK hP hD hS hlocks dX2_heldFor_18 (by rw [ef])
  ·
    refine lv_iconst (v := 5) hx hb dX2_heldFor_13 (by decide) ?_
    refine lv_goto (tgt := 18) hx hb dX2_heldFor_14 (by decide) ?_
    have ef : f_X2_heldFor sP i1 i2 = 5 := by
      rw [f_X2_heldFor, if_pos c_1]
    exact k_reti hx hb hr hK hP hD hS hlocks dX2_heldFor_18 (by rw [ef])
theorem in_X2_offerTo_X2 : ∀ w ∈ wsX20, w ∈ wsX2_offerTo := fun _ h => List.mem_cons_of_mem _ (List.mem_append_right _ h)
def f_X2_offerTo (sP : Nat → Nat → Int32) (i1 : Int32) (i2 : Int32) : Int32 :=
  if ((sP 4) i1.toNatClampNeg) = ((sP 1) i2.toNatClampNeg) then (if (f_X2_isBarred sP i1 i2) = 0 then (if ((sP 3) i2.toNatClampNeg) ≤ (((sP 5) i1.toNatClampNeg) - (3 * (9 - (f_X2_heldFor sP i1 i2)))) then ((((sP 5) i1.toNatClampNeg) - (3 * (9 - (f_X2_heldFor sP i1 i2)))) + ((sP 3) i2.toNatClampNeg)) / 2
      else -9)
    else -9)
  else -9
set_option maxHeartbeats 4000000 in
set_option maxRecDepth 100000 in
theorem c_X2_offerTo (l : Launch) (k : K_X) (ap : Nat → Nat) (sP : Nat → Nat → Int32) (i1 : Int32) (i2 : Int32) (h1 : vp_in i1 10) (h2 : vp_in i2 10) : k_C l yX2_offerTo wsX2_offerTo (k_rm 1 23) k [.ref (ap 0), .int i1, .int i2] (w_P k ap sP) (k_qI k (f_X2_offerTo sP i1 i2) (w_P k ap sP)) := by
  refine k_mk (cc := cX2_offerTo) (maxL := 4) (ret := (some .int)) (by decide) rfl (Nat.le_of_ble_eq_true rfl) ?_
  intro p e s m below meth c A ls C0 hP hD hS hl
  obtain ⟨hx, hb, hr, hts, hown, hlocks, hml, hA, hK⟩ := id C0
  have hown : s.vm.findClass RX2 = some m.cls := hown
  have hl : lv_has ls 4 [(0, .ref (ap 0)), (1, .int i1), (2, .int i2)] := hl
  refine lv_aload_n hx hb dX2_offerTo_0 rfl (lv_at hl 0 rfl) ?_
  refine va_get (D := k.1) (ci := 2) (v := .ref (ap 4)) (C := RX2) (T := TX2) (N := 9) hx hb hts in_X2_offerTo_X2 hown hK hP 0 rfl rfl 5 (by decide) (k_w hts 1 rfl) (fun _ h9 => h9) rfl dX2_offerTo_1 ?_
  refine lv_iload_n hx hb dX2_offerTo_4 rfl (lv_at hl 1 rfl) ?_
  refine va_iald (f := sP 4) hx hb hK hP 4 0 rfl rfl (by assumption) dX2_offerTo_5 ?_
  refine lv_aload_n hx hb dX2_offerTo_6 rfl (lv_at hl 0 rfl) ?_
  refine va_get (D := k.1) (ci := 2) (v := .ref (ap 1)) (C := RX2) (T := TX2) (N := 9) hx hb hts in_X2_offerTo_X2 hown hK hP 0 rfl rfl 1 (by decide) (k_w hts 2 rfl) (fun _ h9 => h9) rfl dX2_offerTo_7 ?_
  refine lv_iload_n hx hb dX2_offerTo_10 rfl (lv_at hl 2 rfl) ?_
  refine va_iald (f := sP 1) hx hb hK hP 1 0 rfl rfl (by assumption) dX2_offerTo_11 ?_
  refine lv_icmp_ne (tgt := 24) hx hb dX2_offerTo_12 (by decide) (fun c_1 => ?_) (fun c_1 => ?_)
  ·
    refine lv_bipush (v := (-9)) hx hb dX2_offerTo_24 (by decide) ?_
    have ef : f_X2_offerTo sP i1 i2 = -9 := by
      rw [f_X2_offerTo, if_neg c_1]
    exact k_reti hx hb hr hK hP hD hS hlocks dX2_offerTo_26 (by rw [ef])
  ·
    refine lv_aload_n hx hb dX2_offerTo_15 rfl (lv_at hl 0 rfl) ?_
    refine lv_iload_n hx hb dX2_offerTo_16 rfl (lv_at hl 1 rfl) ?_
    refine lv_iload_n hx hb dX2_offerTo_17 rfl (lv_at hl 2 rfl) ?_
    refine k_Vi (wr := ([] : va_W)) (ws' := w_P k ap sP) (Rv := (f_X2_isBarred sP i1 i2)) (rest := []) ⟨hx, hb, hml, hown, hts⟩ hK hA hP hD hS (c_X2_isBarred l k ap sP i1 i2 (by assumption)) (cwV 2 hts gX2_offerTo_X2_isBarred rfl rfl rfl (by decide +kernel) ⟨Nat.le_of_ble_eq_true rfl, Nat.le_of_ble_eq_true rfl⟩) (va_recv hK hP (ci := 2) (q0 := 0) rfl rfl) rfl hl.1 rfl (Nat.le_of_ble_eq_true rfl) dX2_offerTo_18 (Nat.zero_le _) (Nat.zero_le _) [0, 1, 2, 3, 4, 5, 6, 7, 8, 9, 10, 11, 12, 13, 14, 15, 16, 17] [] [0, 1, 2, 3, 4, 5, 6, 7, 8, 9, 10, 11, 12, 13, 14, 15, 16, 17] rfl rfl rfl (by decide) rfl rfl rfl (fun H locs hP hD hS => ?_)
    refine lv_if_eq (tgt := 27) hx hb dX2_offerTo_21 (by decide) (fun c_2 => ?_) (fun c_2 => ?_)
    ·
      refine lv_aload_n hx hb dX2_offerTo_27 rfl (lv_at hl 0 rfl) ?_
      refine va_get (D := k.1) (ci := 2) (v := .ref (ap 5)) (C := RX2) (T := TX2) (N := 9) hx hb hts in_X2_offerTo_X2 hown hK hP 0 rfl rfl 6 (by decide) (k_w hts 3 rfl) (fun _ h9 => h9) rfl dX2_offerTo_28 ?_
      refine lv_iload_n hx hb dX2_offerTo_31 rfl (lv_at hl 1 rfl) ?_
      refine va_iald (f := sP 5) hx hb hK hP 5 0 rfl rfl (by assumption) dX2_offerTo_32 ?_
      refine lv_iconst (v := 3) hx hb dX2_offerTo_33 (by decide) ?_
      refine lv_bipush (v := 9) hx hb dX2_offerTo_34 (by decide) ?_
      refine lv_aload_n hx hb dX2_offerTo_36 rfl (lv_at hl 0 rfl) ?_
      refine lv_iload_n hx hb dX2_offerTo_37 rfl (lv_at hl 1 rfl) ?_
      refine lv_iload_n hx hb dX2_offerTo_38 rfl (lv_at hl 2 rfl) ?_
      refine k_Vi (wr := ([] : va_W)) (ws' := w_P k ap sP) (Rv := (f_X2_heldFor sP i1 i2)) (rest := [.int 9, .int 3, .int ((sP 5) i1.toNatClampNeg)]) ⟨hx, hb, hml, hown, hts⟩ hK hA hP hD hS (c_X2_heldFor l k ap sP i1 i2 (by assumption) (by assumption)) (cwV 2 hts gX2_offerTo_X2_heldFor rfl rfl rfl (by decide +kernel) ⟨Nat.le_of_ble_eq_true rfl, Nat.le_of_ble_eq_true rfl⟩) (va_recv hK hP (ci := 2) (q0 := 0) rfl rfl) rfl hl.1 rfl (Nat.le_of_ble_eq_true rfl) dX2_offerTo_39 (Nat.zero_le _) (Nat.zero_le _) [0, 1, 2, 3, 4, 5, 6, 7, 8, 9, 10, 11, 12, 13, 14, 15, 16, 17] [] [0, 1, 2, 3, 4, 5, 6, 7, 8, 9, 10, 11, 12, 13, 14, 15, 16, 17] rfl rfl rfl (by decide) rfl rfl rfl (fun H locs hP hD hS => ?_)
      refine lv_isub hx hb dX2_offerTo_42 ?_
      refine lv_imul hx hb dX2_offerTo_43 ?_
      refine lv_isub hx hb dX2_offerTo_44 ?_
      refine lv_istore_n (lv' := [(3, .int (((sP 5) i1.toNatClampNeg) - (3 * (9 - (f_X2_heldFor sP i1 i2))))), (0, .ref (ap 0)), (1, .int i1), (2, .int i2)]) hx hb dX2_offerTo_45 rfl hl (by decide) rfl (fun ls hl => ?_)
      refine lv_iload_n hx hb dX2_offerTo_46 rfl (lv_at hl 0 rfl) ?_
      refine lv_aload_n hx hb dX2_offerTo_47 rfl (lv_at hl 1 rfl) ?_
      refine va_get (D := k.1) (ci := 2) (v := .ref (ap 3)) (C := RX2) (T := TX2) (N := 9) hx hb hts in_X2_offerTo_X2 hown hK hP 0 rfl rfl 3 (by decide) (k_w hts 4 rfl) (fun _ h9 => h9) rfl dX2_offerTo_48 ?_
      refine lv_iload_n hx hb dX2_offerTo_51 rfl (lv_at hl 3 rfl) ?_
      refine va_iald (f := sP 3) hx hb hK hP 3 0 rfl rfl (by assumption) dX2_offerTo_52 ?_
      refine lv_icmp_ge (tgt := 61) hx hb dX2_offerTo_53 (by decide) (fun c_3 => ?_) (fun c_3 => ?_)
      ·
        refine lv_iload_n hx hb dX2_offerTo_61 rfl (lv_at hl 0 rfl) ?_
        refine lv_aload_n hx hb dX2_offerTo_62 rfl (lv_at hl 1 rfl) ?_
        refine va_get (D := k.1) (ci := 2) (v := .ref (ap 3)) (C := RX2) (T := TX2) (N := 9) hx hb hts in_X2_offerTo_X2 hown hK hP 0 rfl rfl 3 (by decide) (k_w hts 4 rfl) (fun _ h9 => h9) rfl dX2_offerTo_63 ?_
        refine lv_iload_n hx hb dX2_offerTo_66 rfl (lv_at hl 3 rfl) ?_
        refine va_iald (f := sP 3) hx hb hK hP 3 0 rfl rfl (by assumption) dX2_offerTo_67 ?_
        refine lv_iadd hx hb dX2_offerTo_68 ?_
        refine lv_iconst (v := 2) hx hb dX2_offerTo_69 (by decide) ?_
        refine lv_idiv hx hb dX2_offerTo_70 (by decide) ?_
        have ef : f_X2_offerTo sP i1 i2 = ((((sP 5) i1.toNatClampNeg) - (3 * (9 - (f_X2_heldFor sP i1 i2)))) + ((sP 3) i2.toNatClampNeg)) / 2 := by
          rw [f_X2_offerTo, if_pos c_1, if_pos c_2, if_pos c_3]
        exact k_reti hx hb hr hK hP hD hS hlocks dX2_offerTo_71 (by rw [ef])
      ·
        refine lv_bipush (v := (-9)) hx hb dX2_offerTo_56 (by decide) ?_
        refine lv_goto (tgt := 71) hx hb dX2_offerTo_58 (by decide) ?_
        have ef : f_X2_offerTo sP i1 i2 = -9 := by
          rw [f_X2_offerTo, if_pos c_1, if_pos c_2, if_neg c_3]
        exact k_reti hx hb hr hK hP hD hS hlocks dX2_offerTo_71 (by rw [ef])
    ·
      refine lv_bipush (v := (-9)) hx hb dX2_offerTo_24 (by decide) ?_
      have ef : f_X2_offerTo sP i1 i2 = -9 := by
        rw [f_X2_offerTo, if_pos c_1, if_neg c_2]
      exact k_reti hx hb hr hK hP hD hS hlocks dX2_offerTo_26 (by rw [ef])
theorem in_X2_likingAt_X2 : ∀ w ∈ wsX20, w ∈ wsX2_likingAt := fun _ h => List.mem_cons_of_mem _ (List.mem_append_right _ h)
def f_X2_likingAt (sP : Nat → Nat → Int32) (i1 : Int32) (i2 : Int32) (i3 : Int32) : Int32 :=
  (10 * (f_X2_heldFor sP i1 i2)) - i3
set_option maxHeartbeats 4000000 in
set_option maxRecDepth 100000 in
theorem c_X2_likingAt (l : Launch) (k : K_X) (ap : Nat → Nat) (sP : Nat → Nat → Int32) (i1 : Int32) (i2 : Int32) (i3 : Int32) (h1 : vp_in i1 10) (h2 : vp_in i2 10) : k_C l yX2_likingAt wsX2_likingAt (k_rm 1 23) k [.ref (ap 0), .int i1, .int i2, .int i3] (w_P k ap sP) (k_qI k (f_X2_likingAt sP i1 i2 i3) (w_P k ap sP)) := by
  refine k_mk (cc := cX2_likingAt) (maxL := 4) (ret := (some .int)) (by decide) rfl (Nat.le_of_ble_eq_true rfl) ?_
  intro p e s m below meth c A ls C0 hP hD hS hl
  obtain ⟨hx, hb, hr, hts, hown, hlocks, hml, hA, hK⟩ := id C0
  have hown : s.vm.findClass RX2 = some m.cls := hown
  have hl : lv_has ls 4 [(0, .ref (ap 0)), (1, .int i1), (2, .int i2), (3, .int i3)] := hl
  refine lv_bipush (v := 10) hx hb dX2_likingAt_0 (by decide) ?_
  refine lv_aload_n hx hb dX2_likingAt_2 rfl (lv_at hl 0 rfl) ?_
  refine lv_iload_n hx hb dX2_likingAt_3 rfl (lv_at hl 1 rfl) ?_
  refine lv_iload_n hx hb dX2_likingAt_4 rfl (lv_at hl 2 rfl) ?_
  refine k_Vi (wr := ([] : va_W)) (ws' := w_P k ap sP) (Rv := (f_X2_heldFor sP i1 i2)) (rest := [.int 10]) ⟨hx, hb, hml, hown, hts⟩ hK hA hP hD hS (c_X2_heldFor l k ap sP i1 i2 (by assumption) (by assumption)) (cwV 2 hts gX2_likingAt_X2_heldFor rfl rfl rfl (by decide +kernel) ⟨Nat.le_of_ble_eq_true rfl, Nat.le_of_ble_eq_true rfl⟩) (va_recv hK hP (ci := 2) (q0 := 0) rfl rfl) rfl hl.1 rfl (Nat.le_of_ble_eq_true rfl) dX2_likingAt_5 (Nat.zero_le _) (Nat.zero_le _) [0, 1, 2, 3, 4, 5, 6, 7, 8, 9, 10, 11, 12, 13, 14, 15, 16, 17] [] [0, 1, 2, 3, 4, 5, 6, 7, 8, 9, 10, 11, 12, 13, 14, 15, 16, 17] rfl rfl rfl (by decide) rfl rfl rfl (fun H locs hP hD hS => ?_)
  refine lv_imul hx hb dX2_likingAt_8 ?_
  refine lv_iload_n hx hb dX2_likingAt_9 rfl (lv_at hl 3 rfl) ?_
  refine lv_isub hx hb dX2_likingAt_10 ?_
  have ef : f_X2_likingAt sP i1 i2 i3 = (10 * (f_X2_heldFor sP i1 i2)) - i3 := by
    rw [f_X2_likingAt]
  exact k_reti hx hb hr hK hP hD hS hlocks dX2_likingAt_11 (by rw [ef])
end
section
def f_J6_bitCount_0f7a4 (i1 : Int32) : Int32 :=
  (((((((i1 - (((i1.toUInt32 >>> ((1 : Int32).toUInt32 &&& Int32.toUInt32 31)).toInt32) &&& 1431655765)) &&& 858993459) + ((((i1 - (((i1.toUInt32 >>> ((1 : Int32).toUInt32 &&& Int32.toUInt32 31)).toInt32) &&& 1431655765)).toUInt32 >>> ((2 : Int32).toUInt32 &&& Int32.toUInt32 31)).toInt32) &&& 858993459)) + (((((i1 - (((i1.toUInt32 >>> ((1 : Int32).toUInt32 &&& Int32.toUInt32 31)).toInt32) &&& 1431655765)) &&& 858993459) + ((((i1 - (((i1.toUInt32 >>> ((1 : Int32).toUInt32 &&& Int32.toUInt32 31)).toInt32) &&& 1431655765)).toUInt32 >>> ((2 : Int32).toUInt32 &&& Int32.toUInt32 31)).toInt32) &&& 858993459)).toUInt32 >>> ((4 : Int32).toUInt32 &&& Int32.toUInt32 31)).toInt32)) &&& 252645135) + (((((((i1 - (((i1.toUInt32 >>> ((1 : Int32).toUInt32 &&& Int32.toUInt32 31)).toInt32) &&& 1431655765)) &&& 858993459) + ((((i1 - (((i1.toUInt32 >>> ((1 : Int32).toUInt32 &&& Int32.toUInt32 31)).toInt32) &&& 1431655765)).toUInt32 >>> ((2 : Int32).toUInt32 &&& Int32.toUInt32 31)).toInt32) &&& 858993459)) + (((((i1 - (((i1.toUInt32 >>> ((1 : Int32).toUInt32 &&& Int32.toUInt32 31)).toInt32) &&& 1431655765)) &&& 858993459) + ((((i1 - (((i1.toUInt32 >>> ((1 : Int32).toUInt32 &&& Int32.toUInt32 31)).toInt32) &&& 1431655765)).toUInt32 >>> ((2 : Int32).toUInt32 &&& Int32.toUInt32 31)).toInt32) &&& 858993459)).toUInt32 >>> ((4 : Int32).toUInt32 &&& Int32.toUInt32 31)).toInt32)) &&& 252645135).toUInt32 >>> ((8 : Int32).toUInt32 &&& Int32.toUInt32 31)).toInt32)) + ((((((((i1 - (((i1.toUInt32 >>> ((1 : Int32).toUInt32 &&& Int32.toUInt32 31)).toInt32) &&& 1431655765)) &&& 858993459) + ((((i1 - (((i1.toUInt32 >>> ((1 : Int32).toUInt32 &&& Int32.toUInt32 31)).toInt32) &&& 1431655765)).toUInt32 >>> ((2 : Int32).toUInt32 &&& Int32.toUInt32 31)).toInt32) &&& 858993459)) + (((((i1 - (((i1.toUInt32 >>> ((1 : Int32).toUInt32 &&& Int32.toUInt32 31)).toInt32) &&& 1431655765)) &&& 858993459) + ((((i1 - (((i1.toUInt32 >>> ((1 : Int32).toUInt32 &&& Int32.toUInt32 31)).toInt32) &&& 1431655765)).toUInt32 >>> ((2 : Int32).toUInt32 &&& Int32.toUInt32 31)).toInt32) &&& 858993459)).toUInt32 >>> ((4 : Int32).toUInt32 &&& Int32.toUInt32 31)).toInt32)) &&& 252645135) + (((((((i1 - (((i1.toUInt32 >>> ((1 : Int32).toUInt32 &&& Int32.toUInt32 31)).toInt32) &&& 1431655765)) &&& 858993459) + ((((i1 - (((i1.toUInt32 >>> ((1 : Int32).toUInt32 &&& Int32.toUInt32 31)).toInt32) &&& 1431655765)).toUInt32 >>> ((2 : Int32).toUInt32 &&& Int32.toUInt32 31)).toInt32) &&& 858993459)) + (((((i1 - (((i1.toUInt32 >>> ((1 : Int32).toUInt32 &&& Int32.toUInt32 31)).toInt32) &&& 1431655765)) &&& 858993459) + ((((i1 - (((i1.toUInt32 >>> ((1 : Int32).toUInt32 &&& Int32.toUInt32 31)).toInt32) &&& 1431655765)).toUInt32 >>> ((2 : Int32).toUInt32 &&& Int32.toUInt32 31)).toInt32) &&& 858993459)).toUInt32 >>> ((4 : Int32).toUInt32 &&& Int32.toUInt32 31)).toInt32)) &&& 252645135).toUInt32 >>> ((8 : Int32).toUInt32 &&& Int32.toUInt32 31)).toInt32)).toUInt32 >>> ((16 : Int32).toUInt32 &&& Int32.toUInt32 31)).toInt32)) &&& 63
set_option maxHeartbeats 4000000 in
set_option maxRecDepth 100000 in
theorem c_J6_bitCount_0f7a4 (l : Launch) (k : K_X) (i1 : Int32) : k_C l yJ6_bitCount_0f7a4 wsJ6_bitCount_0f7a4 (k_rm 0 0) k [.int i1] (([] : va_W)) (k_qI k (f_J6_bitCount_0f7a4 i1) (([] : va_W))) := by
  refine k_mk (cc := cJ6_bitCount_0f7a4) (maxL := 1) (ret := (some .int)) (by decide) rfl (Nat.le_of_ble_eq_true rfl) ?_
  intro p e s m below meth c A ls C0 hP hD hS hl
  obtain ⟨hx, hb, hr, hts, hown, hlocks, hml, hA, hK⟩ := id C0
  have hown : s.vm.findClass RJ6 = some m.cls := hown
  have hl : lv_has ls 1 [(0, .int i1)] := hl
  refine lv_iload_n hx hb dJ6_bitCount_0f7a4_0 rfl (lv_at hl 0 rfl) ?_
  refine lv_iload_n hx hb dJ6_bitCount_0f7a4_1 rfl (lv_at hl 0 rfl) ?_
  refine lv_iconst (v := 1) hx hb dJ6_bitCount_0f7a4_2 (by decide) ?_
  refine lv_iushr (v := (i1.toUInt32 >>> ((1 : Int32).toUInt32 &&& Int32.toUInt32 31)).toInt32) hx hb dJ6_bitCount_0f7a4_3 rfl ?_
  refine lv_ldcw hx hb hown (k_w hts 1 rfl) dJ6_bitCount_0f7a4_4 ?_
  refine lv_iand hx hb dJ6_bitCount_0f7a4_7 ?_
  refine lv_isub hx hb dJ6_bitCount_0f7a4_8 ?_
  refine lv_istore_n (lv' := [(0, .int (i1 - (((i1.toUInt32 >>> ((1 : Int32).toUInt32 &&& Int32.toUInt32 31)).toInt32) &&& 1431655765)))]) hx hb dJ6_bitCount_0f7a4_9 rfl hl (by decide) rfl (fun ls hl => ?_)
  refine lv_iload_n hx hb dJ6_bitCount_0f7a4_10 rfl (lv_at hl 0 rfl) ?_
  refine lv_ldcw hx hb hown (k_w hts 2 rfl) dJ6_bitCount_0f7a4_11 ?_
  refine lv_iand hx hb dJ6_bitCount_0f7a4_14 ?_
  refine lv_iload_n hx hb dJ6_bitCount_0f7a4_15 rfl (lv_at hl 0 rfl) ?_
  refine lv_iconst (v := 2) hx hb dJ6_bitCount_0f7a4_16 (by decide) ?_
  refine lv_iushr (v := ((i1 - (((i1.toUInt32 >>> ((1 : Int32).toUInt32 &&& Int32.toUInt32 31)).toInt32) &&& 1431655765)).toUInt32 >>> ((2 : Int32).toUInt32 &&& Int32.toUInt32 31)).toInt32) hx hb dJ6_bitCount_0f7a4_17 rfl ?_
  refine lv_ldcw hx hb hown (k_w hts 2 rfl) dJ6_bitCount_0f7a4_18 ?_
  refine lv_iand hx hb dJ6_bitCount_0f7a4_21 ?_
  refine lv_iadd hx hb dJ6_bitCount_0f7a4_22 ?_
  refine lv_istore_n (lv' := [(0, .int (((i1 - (((i1.toUInt32 >>> ((1 : Int32).toUInt32 &&& Int32.toUInt32 31)).toInt32) &&& 1431655765)) &&& 858993459) + ((((i1 - (((i1.toUInt32 >>> ((1 : Int32).toUInt32 &&& Int32.toUInt32 31)).toInt32) &&& 1431655765)).toUInt32 >>> ((2 : Int32).toUInt32 &&& Int32.toUInt32 31)).toInt32) &&& 858993459)))]) hx hb dJ6_bitCount_0f7a4_23 rfl hl (by decide) rfl (fun ls hl => ?_)
  refine lv_iload_n hx hb dJ6_bitCount_0f7a4_24 rfl (lv_at hl 0 rfl) ?_
  refine lv_iload_n hx hb dJ6_bitCount_0f7a4_25 rfl (lv_at hl 0 rfl) ?_
  refine lv_iconst (v := 4) hx hb dJ6_bitCount_0f7a4_26 (by decide) ?_
  refine lv_iushr (v := ((((i1 - (((i1.toUInt32 >>> ((1 : Int32).toUInt32 &&& Int32.toUInt32 31)).toInt32) &&& 1431655765)) &&& 858993459) + ((((i1 - (((i1.toUInt32 >>> ((1 : Int32).toUInt32 &&& Int32.toUInt32 31)).toInt32) &&& 1431655765)).toUInt32 >>> ((2 : Int32).toUInt32 &&& Int32.toUInt32 31)).toInt32) &&& 858993459)).toUInt32 >>> ((4 : Int32).toUInt32 &&& Int32.toUInt32 31)).toInt32) hx hb dJ6_bitCount_0f7a4_27 rfl ?_
  refine lv_iadd hx hb dJ6_bitCount_0f7a4_28 ?_
  refine lv_ldcw hx hb hown (k_w hts 3 rfl) dJ6_bitCount_0f7a4_29 ?_
  refine lv_iand hx hb dJ6_bitCount_0f7a4_32 ?_
  refine lv_istore_n (lv' := [(0, .int (((((i1 - (((i1.toUInt32 >>> ((1 : Int32).toUInt32 &&& Int32.toUInt32 31)).toInt32) &&& 1431655765)) &&& 858993459) + ((((i1 - (((i1.toUInt32 >>> ((1 : Int32).toUInt32 &&& Int32.toUInt32 31)).toInt32) &&& 1431655765)).toUInt32 >>> ((2 : Int32).toUInt32 &&& Int32.toUInt32 31)).toInt32) &&& 858993459)) + (((((i1 - (((i1.toUInt32 >>> ((1 : Int32).toUInt32 &&& Int32.toUInt32 31)).toInt32) &&& 1431655765)) &&& 858993459) + ((((i1 - (((i1.toUInt32 >>> ((1 : Int32).toUInt32 &&& Int32.toUInt32 31)).toInt32) &&& 1431655765)).toUInt32 >>> ((2 : Int32).toUInt32 &&& Int32.toUInt32 31)).toInt32) &&& 858993459)).toUInt32 >>> ((4 : Int32).toUInt32 &&& Int32.toUInt32 31)).toInt32)) &&& 252645135))]) hx hb dJ6_bitCount_0f7a4_33 rfl hl (by decide) rfl (fun ls hl => ?_)
  refine lv_iload_n hx hb dJ6_bitCount_0f7a4_34 rfl (lv_at hl 0 rfl) ?_
  refine lv_iload_n hx hb dJ6_bitCount_0f7a4_35 rfl (lv_at hl 0 rfl) ?_
  refine lv_bipush (v := 8) hx hb dJ6_bitCount_0f7a4_36 (by decide) ?_
  refine lv_iushr (v := ((((((i1 - (((i1.toUInt32 >>> ((1 : Int32).toUInt32 &&& Int32.toUInt32 31)).toInt32) &&& 1431655765)) &&& 858993459) + ((((i1 - (((i1.toUInt32 >>> ((1 : Int32).toUInt32 &&& Int32.toUInt32 31)).toInt32) &&& 1431655765)).toUInt32 >>> ((2 : Int32).toUInt32 &&& Int32.toUInt32 31)).toInt32) &&& 858993459)) + (((((i1 - (((i1.toUInt32 >>> ((1 : Int32).toUInt32 &&& Int32.toUInt32 31)).toInt32) &&& 1431655765)) &&& 858993459) + ((((i1 - (((i1.toUInt32 >>> ((1 : Int32).toUInt32 &&& Int32.toUInt32 31)).toInt32) &&& 1431655765)).toUInt32 >>> ((2 : Int32).toUInt32 &&& Int32.toUInt32 31)).toInt32) &&& 858993459)).toUInt32 >>> ((4 : Int32).toUInt32 &&& Int32.toUInt32 31)).toInt32)) &&& 252645135).toUInt32 >>> ((8 : Int32).toUInt32 &&& Int32.toUInt32 31)).toInt32) hx hb dJ6_bitCount_0f7a4_38 rfl ?_
  refine lv_iadd hx hb dJ6_bitCount_0f7a4_39 ?_
  refine lv_istore_n (lv' := [(0, .int ((((((i1 - (((i1.toUInt32 >>> ((1 : Int32).toUInt32 &&& Int32.toUInt32 31)).toInt32) &&& 1431655765)) &&& 858993459) + ((((i1 - (((i1.toUInt32 >>> ((1 : Int32).toUInt32 &&& Int32.toUInt32 31)).toInt32) &&& 1431655765)).toUInt32 >>> ((2 : Int32).toUInt32 &&& Int32.toUInt32 31)).toInt32) &&& 858993459)) + (((((i1 - (((i1.toUInt32 >>> ((1 : Int32).toUInt32 &&& Int32.toUInt32 31)).toInt32) &&& 1431655765)) &&& 858993459) + ((((i1 - (((i1.toUInt32 >>> ((1 : Int32).toUInt32 &&& Int32.toUInt32 31)).toInt32) &&& 1431655765)).toUInt32 >>> ((2 : Int32).toUInt32 &&& Int32.toUInt32 31)).toInt32) &&& 858993459)).toUInt32 >>> ((4 : Int32).toUInt32 &&& Int32.toUInt32 31)).toInt32)) &&& 252645135) + (((((((i1 - (((i1.toUInt32 >>> ((1 : Int32).toUInt32 &&& Int32.toUInt32 31)).toInt32) &&& 1431655765)) &&& 858993459) + ((((i1 - (((i1.toUInt32 >>> ((1 : Int32).toUInt32 &&& Int32.toUInt32 31)).toInt32) &&& 1431655765)).toUInt32 >>> ((2 : Int32).toUInt32 &&& Int32.toUInt32 31)).toInt32) &&& 858993459)) + (((((i1 - (((i1.toUInt32 >>> ((1 : Int32).toUInt32 &&& Int32.toUInt32 31)).toInt32) &&& 1431655765)) &&& 858993459) + ((((i1 - (((i1.toUInt32 >>> ((1 : Int32).toUInt32 &&& Int32.toUInt32 31)).toInt32) &&& 1431655765)).toUInt32 >>> ((2 : Int32).toUInt32 &&& Int32.toUInt32 31)).toInt32) &&& 858993459)).toUInt32 >>> ((4 : Int32).toUInt32 &&& Int32.toUInt32 31)).toInt32)) &&& 252645135).toUInt32 >>> ((8 : Int32).toUInt32 &&& Int32.toUInt32 31)).toInt32)))]) hx hb dJ6_bitCount_0f7a4_40 rfl hl (by decide) rfl (fun ls hl => ?_)
  refine lv_iload_n hx hb dJ6_bitCount_0f7a4_41 rfl (lv_at hl 0 rfl) ?_
  refine lv_iload_n hx hb dJ6_bitCount_0f7a4_42 rfl (lv_at hl 0 rfl) ?_
  refine lv_bipush (v := 16) hx hb dJ6_bitCount_0f7a4_43 (by decide) ?_
  refine lv_iushr (v := (((((((i1 - (((i1.toUInt32 >>> ((1 : Int32).toUInt32 &&& Int32.toUInt32 31)).toInt32) &&& 1431655765)) &&& 858993459) + ((((i1 - (((i1.toUInt32 >>> ((1 : Int32).toUInt32 &&& Int32.toUInt32 31)).toInt32) &&& 1431655765)).toUInt32 >>> ((2 : Int32).toUInt32 &&& Int32.toUInt32 31)).toInt32) &&& 858993459)) + (((((i1 - (((i1.toUInt32 >>> ((1 : Int32).toUInt32 &&& Int32.toUInt32 31)).toInt32) &&& 1431655765)) &&& 858993459) + ((((i1 - (((i1.toUInt32 >>> ((1 : Int32).toUInt32 &&& Int32.toUInt32 31)).toInt32) &&& 1431655765)).toUInt32 >>> ((2 : Int32).toUInt32 &&& Int32.toUInt32 31)).toInt32) &&& 858993459)).toUInt32 >>> ((4 : Int32).toUInt32 &&& Int32.toUInt32 31)).toInt32)) &&& 252645135) + (((((((i1 - (((i1.toUInt32 >>> ((1 : Int32).toUInt32 &&& Int32.toUInt32 31)).toInt32) &&& 1431655765)) &&& 858993459) + ((((i1 - (((i1.toUInt32 >>> ((1 : Int32).toUInt32 &&& Int32.toUInt32 31)).toInt32) &&& 1431655765)).toUInt32 >>> ((2 : Int32).toUInt32 &&& Int32.toUInt32 31)).toInt32) &&& 858993459)) + (((((i1 - (((i1.toUInt32 >>> ((1 : Int32).toUInt32 &&& Int32.toUInt32 31)).toInt32) &&& 1431655765)) &&& 858993459) + ((((i1 - (((i1.toUInt32 >>> ((1 : Int32).toUInt32 &&& Int32.toUInt32 31)).toInt32) &&& 1431655765)).toUInt32 >>> ((2 : Int32).toUInt32 &&& Int32.toUInt32 31)).toInt32) &&& 858993459)).toUInt32 >>> ((4 : Int32).toUInt32 &&& Int32.toUInt32 31)).toInt32)) &&& 252645135).toUInt32 >>> ((8 : Int32).toUInt32 &&& Int32.toUInt32 31)).toInt32)).toUInt32 >>> ((16 : Int32).toUInt32 &&& Int32.toUInt32 31)).toInt32) hx hb dJ6_bitCount_0f7a4_45 rfl ?_
  refine lv_iadd hx hb dJ6_bitCount_0f7a4_46 ?_
  refine lv_istore_n (lv' := [(0, .int (((((((i1 - (((i1.toUInt32 >>> ((1 : Int32).toUInt32 &&& Int32.toUInt32 31)).toInt32) &&& 1431655765)) &&& 858993459) + ((((i1 - (((i1.toUInt32 >>> ((1 : Int32).toUInt32 &&& Int32.toUInt32 31)).toInt32) &&& 1431655765)).toUInt32 >>> ((2 : Int32).toUInt32 &&& Int32.toUInt32 31)).toInt32) &&& 858993459)) + (((((i1 - (((i1.toUInt32 >>> ((1 : Int32).toUInt32 &&& Int32.toUInt32 31)).toInt32) &&& 1431655765)) &&& 858993459) + ((((i1 - (((i1.toUInt32 >>> ((1 : Int32).toUInt32 &&& Int32.toUInt32 31)).toInt32) &&& 1431655765)).toUInt32 >>> ((2 : Int32).toUInt32 &&& Int32.toUInt32 31)).toInt32) &&& 858993459)).toUInt32 >>> ((4 : Int32).toUInt32 &&& Int32.toUInt32 31)).toInt32)) &&& 252645135) + (((((((i1 - (((i1.toUInt32 >>> ((1 : Int32).toUInt32 &&& Int32.toUInt32 31)).toInt32) &&& 1431655765)) &&& 858993459) + ((((i1 - (((i1.toUInt32 >>> ((1 : Int32).toUInt32 &&& Int32.toUInt32 31)).toInt32) &&& 1431655765)).toUInt32 >>> ((2 : Int32).toUInt32 &&& Int32.toUInt32 31)).toInt32) &&& 858993459)) + (((((i1 - (((i1.toUInt32 >>> ((1 : Int32).toUInt32 &&& Int32.toUInt32 31)).toInt32) &&& 1431655765)) &&& 858993459) + ((((i1 - (((i1.toUInt32 >>> ((1 : Int32).toUInt32 &&& Int32.toUInt32 31)).toInt32) &&& 1431655765)).toUInt32 >>> ((2 : Int32).toUInt32 &&& Int32.toUInt32 31)).toInt32) &&& 858993459)).toUInt32 >>> ((4 : Int32).toUInt32 &&& Int32.toUInt32 31)).toInt32)) &&& 252645135).toUInt32 >>> ((8 : Int32).toUInt32 &&& Int32.toUInt32 31)).toInt32)) + ((((((((i1 - (((i1.toUInt32 >>> ((1 : Int32).toUInt32 &&& Int32.toUInt32 31)).toInt32) &&& 1431655765)) &&& 858993459) + ((((i1 - (((i1.toUInt32 >>> ((1 : Int32).toUInt32 &&& Int32.toUInt32 31)).toInt32) &&& 1431655765)).toUInt32 >>> ((2 : Int32).toUInt32 &&& Int32.toUInt32 31)).toInt32) &&& 858993459)) + (((((i1 - (((i1.toUInt32 >>> ((1 : Int32).toUInt32 &&& Int32.toUInt32 31)).toInt32) &&& 1431655765)) &&& 858993459) + ((((i1 - (((i1.toUInt32 >>> ((1 : Int32).toUInt32 &&& Int32.toUInt32 31)).toInt32) &&& 1431655765)).toUInt32 >>> ((2 : Int32).toUInt32 &&& Int32.toUInt32 31)).toInt32) &&& 858993459)).toUInt32 >>> ((4 : Int32).toUInt32 &&& Int32.toUInt32 31)).toInt32)) &&& 252645135) + (((((((i1 - (((i1.toUInt32 >>> ((1 : Int32).toUInt32 &&& Int32.toUInt32 31)).toInt32) &&& 1431655765)) &&& 858993459) + ((((i1 - (((i1.toUInt32 >>> ((1 : Int32).toUInt32 &&& Int32.toUInt32 31)).toInt32) &&& 1431655765)).toUInt32 >>> ((2 : Int32).toUInt32 &&& Int32.toUInt32 31)).toInt32) &&& 858993459)) + (((((i1 - (((i1.toUInt32 >>> ((1 : Int32).toUInt32 &&& Int32.toUInt32 31)).toInt32) &&& 1431655765)) &&& 858993459) + ((((i1 - (((i1.toUInt32 >>> ((1 : Int32).toUInt32 &&& Int32.toUInt32 31)).toInt32) &&& 1431655765)).toUInt32 >>> ((2 : Int32).toUInt32 &&& Int32.toUInt32 31)).toInt32) &&& 858993459)).toUInt32 >>> ((4 : Int32).toUInt32 &&& Int32.toUInt32 31)).toInt32)) &&& 252645135).toUInt32 >>> ((8 : Int32).toUInt32 &&& Int32.toUInt32 31)).toInt32)).toUInt32 >>> ((16 : Int32).toUInt32 &&& Int32.toUInt32 31)).toInt32)))]) hx hb dJ6_bitCount_0f7a4_47 rfl hl (by decide) rfl (fun ls hl => ?_)
  refine lv_iload_n hx hb dJ6_bitCount_0f7a4_48 rfl (lv_at hl 0 rfl) ?_
  refine lv_bipush (v := 63) hx hb dJ6_bitCount_0f7a4_49 (by decide) ?_
  refine lv_iand hx hb dJ6_bitCount_0f7a4_51 ?_
  have ef : f_J6_bitCount_0f7a4 i1 = (((((((i1 - (((i1.toUInt32 >>> ((1 : Int32).toUInt32 &&& Int32.toUInt32 31)).toInt32) &&& 1431655765)) &&& 858993459) + ((((i1 - (((i1.toUInt32 >>> ((1 : Int32).toUInt32 &&& Int32.toUInt32 31)).toInt32) &&& 1431655765)).toUInt32 >>> ((2 : Int32).toUInt32 &&& Int32.toUInt32 31)).toInt32) &&& 858993459)) + (((((i1 - (((i1.toUInt32 >>> ((1 : Int32).toUInt32 &&& Int32.toUInt32 31)).toInt32) &&& 1431655765)) &&& 858993459) + ((((i1 - (((i1.toUInt32 >>> ((1 : Int32).toUInt32 &&& Int32.toUInt32 31)).toInt32) &&& 1431655765)).toUInt32 >>> ((2 : Int32).toUInt32 &&& Int32.toUInt32 31)).toInt32) &&& 858993459)).toUInt32 >>> ((4 : Int32).toUInt32 &&& Int32.toUInt32 31)).toInt32)) &&& 252645135) + (((((((i1 - (((i1.toUInt32 >>> ((1 : Int32).toUInt32 &&& Int32.toUInt32 31)).toInt32) &&& 1431655765)) &&& 858993459) + ((((i1 - (((i1.toUInt32 >>> ((1 : Int32).toUInt32 &&& Int32.toUInt32 31)).toInt32) &&& 1431655765)).toUInt32 >>> ((2 : Int32).toUInt32 &&& Int32.toUInt32 31)).toInt32) &&& 858993459)) + (((((i1 - (((i1.toUInt32 >>> ((1 : Int32).toUInt32 &&& Int32.toUInt32 31)).toInt32) &&& 1431655765)) &&& 858993459) + ((((i1 - (((i1.toUInt32 >>> ((1 : Int32).toUInt32 &&& Int32.toUInt32 31)).toInt32) &&& 1431655765)).toUInt32 >>> ((2 : Int32).toUInt32 &&& Int32.toUInt32 31)).toInt32) &&& 858993459)).toUInt32 >>> ((4 : Int32).toUInt32 &&& Int32.toUInt32 31)).toInt32)) &&& 252645135).toUInt32 >>> ((8 : Int32).toUInt32 &&& Int32.toUInt32 31)).toInt32)) + ((((((((i1 - (((i1.toUInt32 >>> ((1 : Int32).toUInt32 &&& Int32.toUInt32 31)).toInt32) &&& 1431655765)) &&& 858993459) + ((((i1 - (((i1.toUInt32 >>> ((1 : Int32).toUInt32 &&& Int32.toUInt32 31)).toInt32) &&& 1431655765)).toUInt32 >>> ((2 : Int32).toUInt32 &&& Int32.toUInt32 31)).toInt32) &&& 858993459)) + (((((i1 - (((i1.toUInt32 >>> ((1 : Int32).toUInt32 &&& Int32.toUInt32 31)).toInt32) &&& 1431655765)) &&& 858993459) + ((((i1 - (((i1.toUInt32 >>> ((1 : Int32).toUInt32 &&& Int32.toUInt32 31)).toInt32) &&& 1431655765)).toUInt32 >>> ((2 : Int32).toUInt32 &&& Int32.toUInt32 31)).toInt32) &&& 858993459)).toUInt32 >>> ((4 : Int32).toUInt32 &&& Int32.toUInt32 31)).toInt32)) &&& 252645135) + (((((((i1 - (((i1.toUInt32 >>> ((1 : Int32).toUInt32 &&& Int32.toUInt32 31)).toInt32) &&& 1431655765)) &&& 858993459) + ((((i1 - (((i1.toUInt32 >>> ((1 : Int32).toUInt32 &&& Int32.toUInt32 31)).toInt32) &&& 1431655765)).toUInt32 >>> ((2 : Int32).toUInt32 &&& Int32.toUInt32 31)).toInt32) &&& 858993459)) + (((((i1 - (((i1.toUInt32 >>> ((1 : Int32).toUInt32 &&& Int32.toUInt32 31)).toInt32) &&& 1431655765)) &&& 858993459) + ((((i1 - (((i1.toUInt32 >>> ((1 : Int32).toUInt32 &&& Int32.toUInt32 31)).toInt32) &&& 1431655765)).toUInt32 >>> ((2 : Int32).toUInt32 &&& Int32.toUInt32 31)).toInt32) &&& 858993459)).toUInt32 >>> ((4 : Int32).toUInt32 &&& Int32.toUInt32 31)).toInt32)) &&& 252645135).toUInt32 >>> ((8 : Int32).toUInt32 &&& Int32.toUInt32 31)).toInt32)).toUInt32 >>> ((16 : Int32).toUInt32 &&& Int32.toUInt32 31)).toInt32)) &&& 63 := by
    rw [f_J6_bitCount_0f7a4]
  exact k_reti hx hb hr hK hP hD hS hlocks dJ6_bitCount_0f7a4_52 (by rw [ef])
def g_J7_fill_53178_lp (n : Nat) (i1 : Int32) : Nat → Nat → (Nat → Int32) → (Nat → Int32)
  | 0, j, Ar => Ar
  | r + 1, j, Ar => g_J7_fill_53178_lp n i1 r (j + 1) (upd Ar (nI j).toNatClampNeg i1)
set_option maxHeartbeats 4000000 in
set_option maxRecDepth 100000 in
theorem lp_J7_fill_53178_lp {p : Program} {l : Launch} {e : Env} {s : State} {m : MethodId} {below : List Frame} {meth : Method} {c : Code} {A : Nat → Prop} {Q : State → Prop} {av : Array Value} (k : K_X) (aa : Nat → Nat) (n : Nat) (i1 : Int32) (C0 : k_Cx p s m meth c k cJ7_fill_53178 none wsJ7_fill_53178 RJ7 4 av A) (hn : n ≤ 1000) : ∀ (r j : Nat) (Ar : Nat → Int32) (H : Heap) (locs : List Loc) (ls : Array Slot), j + r = n → va_P k.1 vwCl (w_A k aa n Ar) H → va_D A (w_A k aa n Ar) → va_S A s.heap H locs → lv_has ls 4 [(0, .ref (aa 0)), (1, .int i1), (2, .int (nI j)), (3, .int (nI n))] → (∀ (H : Heap) (locs : List Loc) (ls : Array Slot), va_P k.1 vwCl (w_A k aa n (g_J7_fill_53178_lp n i1 r j Ar)) H → va_D A (w_A k aa n (g_J7_fill_53178_lp n i1 r j Ar)) → va_S A s.heap H locs → lv_has ls 4 [(0, .ref (aa 0)), (1, .int i1), (3, .int (nI n))] → W p l e (k_rm 0 0) s m av below meth c H locs 0 0 Q (F0 m 20 ls [])) → W p l e (k_rm 0 0) s m av below meth c H locs 0 0 Q (F0 m 5 ls []) := by
  obtain ⟨hx, hb, hr, hts, hown, hlocks, hml, hA, hK⟩ := id C0
  intro r
  induction r with
  | zero =>
    intro j Ar H locs ls hj hP hD hS hl hQ
    refine lv_iload_n hx hb dJ7_fill_53178_5 rfl (lv_at hl 2 rfl) ?_
    refine lv_iload_n hx hb dJ7_fill_53178_6 rfl (lv_at hl 3 rfl) ?_
    refine lv_icmp_ge (tgt := 20) hx hb dJ7_fill_53178_7 (by decide) (fun c_1 => ?_) (fun c_1 => ?_)
    rotate_left
    · exact absurd (nI_le (by omega) (by omega)) c_1
    have eg : g_J7_fill_53178_lp n i1 0 j Ar = Ar := by
      rw [g_J7_fill_53178_lp]
    rw [eg] at hQ
    exact hQ _ _ _ hP hD hS (lv_sub hl [0, 1, 3] rfl)
  | succ r ih =>
    intro j Ar H locs ls hj hP hD hS hl hQ
    refine lv_iload_n hx hb dJ7_fill_53178_5 rfl (lv_at hl 2 rfl) ?_
    refine lv_iload_n hx hb dJ7_fill_53178_6 rfl (lv_at hl 3 rfl) ?_
    refine lv_icmp_ge (tgt := 20) hx hb dJ7_fill_53178_7 (by decide) (fun c_1 => ?_) (fun c_1 => ?_)
    · exact absurd c_1 (nI_ge (by omega) (by omega))
    refine lv_aload_n hx hb dJ7_fill_53178_10 rfl (lv_at hl 0 rfl) ?_
    refine lv_iload_n hx hb dJ7_fill_53178_11 rfl (lv_at hl 2 rfl) ?_
    refine lv_iload_n hx hb dJ7_fill_53178_12 rfl (lv_at hl 1 rfl) ?_
    refine va_iast (f := Ar) hx hb hK hP hD hS 0 0 rfl rfl (vp_in_nI (by omega) (by omega)) dJ7_fill_53178_13 (fun H locs hP hD hS => ?_)
    have hP := k_cP (w_A_0 k aa n Ar (upd Ar (nI j).toNatClampNeg i1)) hP
    have hD := k_cD (w_A_0 k aa n Ar (upd Ar (nI j).toNatClampNeg i1)) hD
    refine lv_iinc (v := nI (j + 1)) (lv' := [(2, .int (nI (j + 1))), (0, .ref (aa 0)), (1, .int i1), (3, .int (nI n))]) hx hb dJ7_fill_53178_14 hl (k := 2) rfl (nI_1 j) (by decide) rfl (fun ls hl => ?_)
    refine lv_goto (tgt := 5) hx hb dJ7_fill_53178_17 (by decide) ?_
    have eg : g_J7_fill_53178_lp n i1 (r + 1) j Ar = g_J7_fill_53178_lp n i1 r (j + 1) (upd Ar (nI j).toNatClampNeg i1) := by
      rw [g_J7_fill_53178_lp]
    rw [eg] at hQ
    exact ih (j + 1) (upd Ar (nI j).toNatClampNeg i1) _ _ _ (by omega) hP hD hS (lv_sub hl [1, 2, 0, 3] rfl) hQ
def f_J7_fill_53178 (n : Nat) (Ar : Nat → Int32) (i1 : Int32) : (Nat → Int32) :=
  g_J7_fill_53178_lp n i1 n 0 Ar
set_option maxHeartbeats 4000000 in
set_option maxRecDepth 100000 in
theorem c_J7_fill_53178 (l : Launch) (k : K_X) (aa : Nat → Nat) (n : Nat) (Ar : Nat → Int32) (i1 : Int32) (hn : n ≤ 1000) : k_C l yJ7_fill_53178 wsJ7_fill_53178 (k_rm 0 0) k [.ref (aa 0), .int i1] (w_A k aa n Ar) (k_qV k (w_A k aa n (f_J7_fill_53178 n Ar i1))) := by
  refine k_mk (cc := cJ7_fill_53178) (maxL := 4) (ret := none) (by decide) rfl (Nat.le_of_ble_eq_true rfl) ?_
  intro p e s m below meth c A ls C0 hP hD hS hl
  obtain ⟨hx, hb, hr, hts, hown, hlocks, hml, hA, hK⟩ := id C0
  have hown : s.vm.findClass RJ7 = some m.cls := hown
  have hl : lv_has ls 4 [(0, .ref (aa 0)), (1, .int i1)] := hl
  refine lv_iconst (v := 0) hx hb dJ7_fill_53178_0 (by decide) ?_
  refine lv_istore_n (lv' := [(2, .int 0), (0, .ref (aa 0)), (1, .int i1)]) hx hb dJ7_fill_53178_1 rfl hl (by decide) rfl (fun ls hl => ?_)
  refine lv_aload_n hx hb dJ7_fill_53178_2 rfl (lv_at hl 1 rfl) ?_
  refine va_alen (v := nI n) hx hb hK hP 0 0 rfl rfl rfl dJ7_fill_53178_3 ?_
  refine lv_istore_n (lv' := [(3, .int (nI n)), (2, .int 0), (0, .ref (aa 0)), (1, .int i1)]) hx hb dJ7_fill_53178_4 rfl hl (by decide) rfl (fun ls hl => ?_)
  have hl : lv_has ls 4 [(0, .ref (aa 0)), (1, .int i1), (2, .int (nI 0)), (3, .int (nI n))] := lv_sub hl [2, 3, 1, 0] rfl
  refine lp_J7_fill_53178_lp k aa n i1 C0 (by assumption) n 0 Ar _ _ _ (by omega) hP hD hS hl (fun H locs ls hP hD hS hl => ?_)
  have ef : f_J7_fill_53178 n Ar i1 = g_J7_fill_53178_lp n i1 n 0 Ar := by
    rw [f_J7_fill_53178]
  exact k_retv hx hb hr hK (by rw [ef]; exact hP) (by rw [ef]; exact hD) hS hlocks dJ7_fill_53178_20
theorem in_X1_write_X1 : ∀ w ∈ wsX10, w ∈ wsX1_write := fun _ h => List.mem_cons_of_mem _ (List.mem_append_right _ h)
def f_X1_write (n : Nat) (sL : Nat → Nat → Int32) (i1 : Int32) (i2 : Int32) (i3 : Int32) (i4 : Int32) (i5 : Int32) (i6 : Int32) : (Nat → Nat → Int32) :=
  if (sL 0 0) < (nI n) then k_st (k_st (k_st (k_st (k_st (k_st (k_st sL 1 (upd (sL 1) ((sL 0 0) * 6).toNatClampNeg i1)) 1 (upd (upd (sL 1) ((sL 0 0) * 6).toNatClampNeg i1) (((sL 0 0) * 6) + 1).toNatClampNeg i2)) 1 (upd (upd (upd (sL 1) ((sL 0 0) * 6).toNatClampNeg i1) (((sL 0 0) * 6) + 1).toNatClampNeg i2) (((sL 0 0) * 6) + 2).toNatClampNeg i3)) 1 (upd (upd (upd (upd (sL 1) ((sL 0 0) * 6).toNatClampNeg i1) (((sL 0 0) * 6) + 1).toNatClampNeg i2) (((sL 0 0) * 6) + 2).toNatClampNeg i3) (((sL 0 0) * 6) + 3).toNatClampNeg i4)) 1 (upd (upd (upd (upd (upd (sL 1) ((sL 0 0) * 6).toNatClampNeg i1) (((sL 0 0) * 6) + 1).toNatClampNeg i2) (((sL 0 0) * 6) + 2).toNatClampNeg i3) (((sL 0 0) * 6) + 3).toNatClampNeg i4) (((sL 0 0) * 6) + 4).toNatClampNeg i5)) 1 (upd (upd (upd (upd (upd (upd (sL 1) ((sL 0 0) * 6).toNatClampNeg i1) (((sL 0 0) * 6) + 1).toNatClampNeg i2) (((sL 0 0) * 6) + 2).toNatClampNeg i3) (((sL 0 0) * 6) + 3).toNatClampNeg i4) (((sL 0 0) * 6) + 4).toNatClampNeg i5) (((sL 0 0) * 6) + 5).toNatClampNeg i6)) 0 (k_st ((k_st (k_st (k_st (k_st (k_st (k_st sL 1 (upd (sL 1) ((sL 0 0) * 6).toNatClampNeg i1)) 1 (upd (upd (sL 1) ((sL 0 0) * 6).toNatClampNeg i1) (((sL 0 0) * 6) + 1).toNatClampNeg i2)) 1 (upd (upd (upd (sL 1) ((sL 0 0) * 6).toNatClampNeg i1) (((sL 0 0) * 6) + 1).toNatClampNeg i2) (((sL 0 0) * 6) + 2).toNatClampNeg i3)) 1 (upd (upd (upd (upd (sL 1) ((sL 0 0) * 6).toNatClampNeg i1) (((sL 0 0) * 6) + 1).toNatClampNeg i2) (((sL 0 0) * 6) + 2).toNatClampNeg i3) (((sL 0 0) * 6) + 3).toNatClampNeg i4)) 1 (upd (upd (upd (upd (upd (sL 1) ((sL 0 0) * 6).toNatClampNeg i1) (((sL 0 0) * 6) + 1).toNatClampNeg i2) (((sL 0 0) * 6) + 2).toNatClampNeg i3) (((sL 0 0) * 6) + 3).toNatClampNeg i4) (((sL 0 0) * 6) + 4).toNatClampNeg i5)) 1 (upd (upd (upd (upd (upd (upd (sL 1) ((sL 0 0) * 6).toNatClampNeg i1) (((sL 0 0) * 6) + 1).toNatClampNeg i2) (((sL 0 0) * 6) + 2).toNatClampNeg i3) (((sL 0 0) * 6) + 3).toNatClampNeg i4) (((sL 0 0) * 6) + 4).toNatClampNeg i5) (((sL 0 0) * 6) + 5).toNatClampNeg i6)) 0) 0 ((sL 0 0) + 1))
  else sL
set_option maxHeartbeats 4000000 in
set_option maxRecDepth 100000 in
theorem c_X1_write (l : Launch) (k : K_X) (al : Nat → Nat) (n : Nat) (sL : Nat → Nat → Int32) (i1 : Int32) (i2 : Int32) (i3 : Int32) (i4 : Int32) (i5 : Int32) (i6 : Int32) (hc : k_n (sL 0 0) n) (hn : n ≤ 100) : k_C l yX1_write wsX1_write (k_rm 0 0) k [.ref (al 0), .int i1, .int i2, .int i3, .int i4, .int i5, .int i6] (w_L k al n sL) (k_qV k (w_L k al n (f_X1_write n sL i1 i2 i3 i4 i5 i6))) := by
  refine k_mk (cc := cX1_write) (maxL := 8) (ret := none) (by decide) rfl (Nat.le_of_ble_eq_true rfl) ?_
  intro p e s m below meth c A ls C0 hP hD hS hl
  obtain ⟨hx, hb, hr, hts, hown, hlocks, hml, hA, hK⟩ := id C0
  have hown : s.vm.findClass RX1 = some m.cls := hown
  have hl : lv_has ls 8 [(0, .ref (al 0)), (1, .int i1), (2, .int i2), (3, .int i3), (4, .int i4), (5, .int i5), (6, .int i6)] := hl
  refine lv_aload_n hx hb dX1_write_0 rfl (lv_at hl 0 rfl) ?_
  refine va_get (D := k.1) (ci := 1) (v := .int (sL 0 0)) (C := RX1) (T := TX1) (N := 3) hx hb hts in_X1_write_X1 hown hK hP 0 rfl rfl 2 (by decide) (k_w hts 1 rfl) (fun _ h9 => h9) rfl dX1_write_1 ?_
  refine lv_aload_n hx hb dX1_write_4 rfl (lv_at hl 0 rfl) ?_
  refine va_get (D := k.1) (ci := 1) (v := .int (nI n)) (C := RX1) (T := TX1) (N := 3) hx hb hts in_X1_write_X1 hown hK hP 0 rfl rfl 0 (by decide) (k_w hts 2 rfl) (fun _ h9 => h9) rfl dX1_write_5 ?_
  refine lv_icmp_lt (tgt := 12) hx hb dX1_write_8 (by decide) (fun c_1 => ?_) (fun c_1 => ?_)
  ·
    refine lv_aload_n hx hb dX1_write_12 rfl (lv_at hl 0 rfl) ?_
    refine va_get (D := k.1) (ci := 1) (v := .int (sL 0 0)) (C := RX1) (T := TX1) (N := 3) hx hb hts in_X1_write_X1 hown hK hP 0 rfl rfl 2 (by decide) (k_w hts 1 rfl) (fun _ h9 => h9) rfl dX1_write_13 ?_
    refine lv_bipush (v := 6) hx hb dX1_write_16 (by decide) ?_
    refine lv_imul hx hb dX1_write_18 ?_
    refine lv_istore (lv' := [(7, .int ((sL 0 0) * 6)), (0, .ref (al 0)), (1, .int i1), (2, .int i2), (3, .int i3), (4, .int i4), (5, .int i5), (6, .int i6)]) hx hb dX1_write_19 hl (by decide) rfl (fun ls hl => ?_)
    refine lv_aload_n hx hb dX1_write_21 rfl (lv_at hl 1 rfl) ?_
    refine va_get (D := k.1) (ci := 1) (v := .ref (al 1)) (C := RX1) (T := TX1) (N := 3) hx hb hts in_X1_write_X1 hown hK hP 0 rfl rfl 1 (by decide) (k_w hts 3 rfl) (fun _ h9 => h9) rfl dX1_write_22 ?_
    refine lv_iload hx hb dX1_write_25 (lv_at hl 0 rfl) ?_
    refine lv_iload_n hx hb dX1_write_27 rfl (lv_at hl 2 rfl) ?_
    refine va_iast (f := sL 1) hx hb hK hP hD hS 1 0 rfl rfl (k_wr0 hc hn (by assumption)) dX1_write_28 (fun H locs hP hD hS => ?_)
    have hP := k_cP (w_L_1 k al n sL (upd (sL 1) ((sL 0 0) * 6).toNatClampNeg i1)) hP
    have hD := k_cD (w_L_1 k al n sL (upd (sL 1) ((sL 0 0) * 6).toNatClampNeg i1)) hD
    refine lv_aload_n hx hb dX1_write_29 rfl (lv_at hl 1 rfl) ?_
    refine va_get (D := k.1) (ci := 1) (v := .ref (al 1)) (C := RX1) (T := TX1) (N := 3) hx hb hts in_X1_write_X1 hown hK hP 0 rfl rfl 1 (by decide) (k_w hts 3 rfl) (fun _ h9 => h9) rfl dX1_write_30 ?_
    refine lv_iload hx hb dX1_write_33 (lv_at hl 0 rfl) ?_
    refine lv_iconst (v := 1) hx hb dX1_write_35 (by decide) ?_
    refine lv_iadd hx hb dX1_write_36 ?_
    refine lv_iload_n hx hb dX1_write_37 rfl (lv_at hl 3 rfl) ?_
    refine va_iast (f := upd (sL 1) ((sL 0 0) * 6).toNatClampNeg i1) hx hb hK hP hD hS 1 0 rfl rfl (k_wr hc hn (by assumption) 1 (by decide) (by decide)) dX1_write_38 (fun H locs hP hD hS => ?_)
    have hP := k_cP (w_L_1 k al n (k_st sL 1 (upd (sL 1) ((sL 0 0) * 6).toNatClampNeg i1)) (upd (upd (sL 1) ((sL 0 0) * 6).toNatClampNeg i1) (((sL 0 0) * 6) + 1).toNatClampNeg i2)) hP
    have hD := k_cD (w_L_1 k al n (k_st sL 1 (upd (sL 1) ((sL 0 0) * 6).toNatClampNeg i1)) (upd (upd (sL 1) ((sL 0 0) * 6).toNatClampNeg i1) (((sL 0 0) * 6) + 1).toNatClampNeg i2)) hD
    refine lv_aload_n hx hb dX1_write_39 rfl (lv_at hl 1 rfl) ?_
    refine va_get (D := k.1) (ci := 1) (v := .ref (al 1)) (C := RX1) (T := TX1) (N := 3) hx hb hts in_X1_write_X1 hown hK hP 0 rfl rfl 1 (by decide) (k_w hts 3 rfl) (fun _ h9 => h9) rfl dX1_write_40 ?_
    refine lv_iload hx hb dX1_write_43 (lv_at hl 0 rfl) ?_
    refine lv_iconst (v := 2) hx hb dX1_write_45 (by decide) ?_
    refine lv_iadd hx hb dX1_write_46 ?_
    refine lv_iload_n hx hb dX1_write_47 rfl (lv_at hl 4 rfl) ?_
    refine va_iast (f := upd (upd (sL 1) ((sL 0 0) * 6).toNatClampNeg i1) (((sL 0 0) * 6) + 1).toNatClampNeg i2) hx hb hK hP hD hS 1 0 rfl rfl (k_wr hc hn (by assumption) 2 (by decide) (by decide)) dX1_write_48 (fun H locs hP hD hS => ?_)
    have hP := k_cP (w_L_1 k al n (k_st (k_st sL 1 (upd (sL 1) ((sL 0 0) * 6).toNatClampNeg i1)) 1 (upd (upd (sL 1) ((sL 0 0) * 6).toNatClampNeg i1) (((sL 0 0) * 6) + 1).toNatClampNeg i2)) (upd (upd (upd (sL 1) ((sL 0 0) * 6).toNatClampNeg i1) (((sL 0 0) * 6) + 1).toNatClampNeg i2) (((sL 0 0) * 6) + 2).toNatClampNeg i3)) hP
    have hD := k_cD (w_L_1 k al n (k_st (k_st sL 1 (upd (sL 1) ((sL 0 0) * 6).toNatClampNeg i1)) 1 (upd (upd (sL 1) ((sL 0 0) * 6).toNatClampNeg i1) (((sL 0 0) * 6) + 1).toNatClampNeg i2)) (upd (upd (upd (sL 1) ((sL 0 0) * 6).toNatClampNeg i1) (((sL 0 0) * 6) + 1).toNatClampNeg i2) (((sL 0 0) * 6) + 2).toNatClampNeg i3)) hD
    refine lv_aload_n hx hb dX1_write_49 rfl (lv_at hl 1 rfl) ?_
    refine va_get (D := k.1) (ci := 1) (v := .ref (al 1)) (C := RX1) (T := TX1) (N := 3) hx hb hts in_X1_write_X1 hown hK hP 0 rfl rfl 1 (by decide) (k_w hts 3 rfl) (fun _ h9 => h9) rfl dX1_write_50 ?_
    refine lv_iload hx hb dX1_write_53 (lv_at hl 0 rfl) ?_
    refine lv_iconst (v := 3) hx hb dX1_write_55 (by decide) ?_
    refine lv_iadd hx hb dX1_write_56 ?_
    refine lv_iload hx hb dX1_write_57 (lv_at hl 5 rfl) ?_
    refine va_iast (f := upd (upd (upd (sL 1) ((sL 0 0) * 6).toNatClampNeg i1) (((sL 0 0) * 6) + 1).toNatClampNeg i2) (((sL 0 0) * 6) + 2).toNatClampNeg i3) hx hb hK hP hD hS 1 0 rfl rfl (k_wr hc hn (by assumption) 3 (by decide) (by decide)) dX1_write_59 (fun H locs hP hD hS => ?_)
    have hP := k_cP (w_L_1 k al n (k_st (k_st (k_st sL 1 (upd (sL 1) ((sL 0 0) * 6).toNatClampNeg i1)) 1 (upd (upd (sL 1) ((sL 0 0) * 6).toNatClampNeg i1) (((sL 0 0) * 6) + 1).toNatClampNeg i2)) 1 (upd (upd (upd (sL 1) ((sL 0 0) * 6).toNatClampNeg i1) (((sL 0 0) * 6) + 1).toNatClampNeg i2) (((sL 0 0) * 6) + 2).toNatClampNeg i3)) (upd (upd (upd (upd (sL 1) ((sL 0 0) * 6).toNatClampNeg i1) (((sL 0 0) * 6) + 1).toNatClampNeg i2) (((sL 0 0) * 6) + 2).toNatClampNeg i3) (((sL 0 0) * 6) + 3).toNatClampNeg i4)) hP
    have hD := k_cD (w_L_1 k al n (k_st (k_st (k_st sL 1 (upd (sL 1) ((sL 0 0) * 6).toNatClampNeg i1)) 1 (upd (upd (sL 1) ((sL 0 0) * 6).toNatClampNeg i1) (((sL 0 0) * 6) + 1).toNatClampNeg i2)) 1 (upd (upd (upd (sL 1) ((sL 0 0) * 6).toNatClampNeg i1) (((sL 0 0) * 6) + 1).toNatClampNeg i2) (((sL 0 0) * 6) + 2).toNatClampNeg i3)) (upd (upd (upd (upd (sL 1) ((sL 0 0) * 6).toNatClampNeg i1) (((sL 0 0) * 6) + 1).toNatClampNeg i2) (((sL 0 0) * 6) + 2).toNatClampNeg i3) (((sL 0 0) * 6) + 3).toNatClampNeg i4)) hD
    refine lv_aload_n hx hb dX1_write_60 rfl (lv_at hl 1 rfl) ?_
    refine va_get (D := k.1) (ci := 1) (v := .ref (al 1)) (C := RX1) (T := TX1) (N := 3) hx hb hts in_X1_write_X1 hown hK hP 0 rfl rfl 1 (by decide) (k_w hts 3 rfl) (fun _ h9 => h9) rfl dX1_write_61 ?_
    refine lv_iload hx hb dX1_write_64 (lv_at hl 0 rfl) ?_
    refine lv_iconst (v := 4) hx hb dX1_write_66 (by decide) ?_
    refine lv_iadd hx hb dX1_write_67 ?_
    refine lv_iload hx hb dX1_write_68 (lv_at hl 6 rfl) ?_
    refine va_iast (f := upd (upd (upd (upd (sL 1) ((sL 0 0) * 6).toNatClampNeg i1) (((sL 0 0) * 6) + 1).toNatClampNeg i2) (((sL 0 0) * 6) + 2).toNatClampNeg i3) (((sL 0 0) * 6) + 3).toNatClampNeg i4) hx hb hK hP hD hS 1 0 rfl rfl (k_wr hc hn (by assumption) 4 (by decide) (by decide)) dX1_write_70 (fun H locs hP hD hS => ?_)
    have hP := k_cP (w_L_1 k al n (k_st (k_st (k_st (k_st sL 1 (upd (sL 1) ((sL 0 0) * 6).toNatClampNeg i1)) 1 (upd (upd (sL 1) ((sL 0 0) * 6).toNatClampNeg i1) (((sL 0 0) * 6) + 1).toNatClampNeg i2)) 1 (upd (upd (upd (sL 1) ((sL 0 0) * 6).toNatClampNeg i1) (((sL 0 0) * 6) + 1).toNatClampNeg i2) (((sL 0 0) * 6) + 2).toNatClampNeg i3)) 1 (upd (upd (upd (upd (sL 1) ((sL 0 0) * 6).toNatClampNeg i1) (((sL 0 0) * 6) + 1).toNatClampNeg i2) (((sL 0 0) * 6) + 2).toNatClampNeg i3) (((sL 0 0) * 6) + 3).toNatClampNeg i4)) (upd (upd (upd (upd (upd (sL 1) ((sL 0 0) * 6).toNatClampNeg i1) (((sL 0 0) * 6) + 1).toNatClampNeg i2) (((sL 0 0) * 6) + 2).toNatClampNeg i3) (((sL 0 0) * 6) + 3).toNatClampNeg i4) (((sL 0 0) * 6) + 4).toNatClampNeg i5)) hP
    have hD := k_cD (w_L_1 k al n (k_st (k_st (k_st (k_st sL 1 (upd (sL 1) ((sL 0 0) * 6).toNatClampNeg i1)) 1 (upd (upd (sL 1) ((sL 0 0) * 6).toNatClampNeg i1) (((sL 0 0) * 6) + 1).toNatClampNeg i2)) 1 (upd (upd (upd (sL 1) ((sL 0 0) * 6).toNatClampNeg i1) (((sL 0 0) * 6) + 1).toNatClampNeg i2) (((sL 0 0) * 6) + 2).toNatClampNeg i3)) 1 (upd (upd (upd (upd (sL 1) ((sL 0 0) * 6).toNatClampNeg i1) (((sL 0 0) * 6) + 1).toNatClampNeg i2) (((sL 0 0) * 6) + 2).toNatClampNeg i3) (((sL 0 0) * 6) + 3).toNatClampNeg i4)) (upd (upd (upd (upd (upd (sL 1) ((sL 0 0) * 6).toNatClampNeg i1) (((sL 0 0) * 6) + 1).toNatClampNeg i2) (((sL 0 0) * 6) + 2).toNatClampNeg i3) (((sL 0 0) * 6) + 3).toNatClampNeg i4) (((sL 0 0) * 6) + 4).toNatClampNeg i5)) hD
    refine lv_aload_n hx hb dX1_write_71 rfl (lv_at hl 1 rfl) ?_
    refine va_get (D := k.1) (ci := 1) (v := .ref (al 1)) (C := RX1) (T := TX1) (N := 3) hx hb hts in_X1_write_X1 hown hK hP 0 rfl rfl 1 (by decide) (k_w hts 3 rfl) (fun _ h9 => h9) rfl dX1_write_72 ?_
    refine lv_iload hx hb dX1_write_75 (lv_at hl 0 rfl) ?_
    refine lv_iconst (v := 5) hx hb dX1_write_77 (by decide) ?_
    refine lv_iadd hx hb dX1_write_78 ?_
    refine lv_iload hx hb dX1_write_79 (lv_at hl 7 rfl) ?_
    refine va_iast (f := upd (upd (upd (upd (upd (sL 1) ((sL 0 0) * 6).toNatClampNeg i1) (((sL 0 0) * 6) + 1).toNatClampNeg i2) (((sL 0 0) * 6) + 2).toNatClampNeg i3) (((sL 0 0) * 6) + 3).toNatClampNeg i4) (((sL 0 0) * 6) + 4).toNatClampNeg i5) hx hb hK hP hD hS 1 0 rfl rfl (k_wr hc hn (by assumption) 5 (by decide) (by decide)) dX1_write_81 (fun H locs hP hD hS => ?_)
    have hP := k_cP (w_L_1 k al n (k_st (k_st (k_st (k_st (k_st sL 1 (upd (sL 1) ((sL 0 0) * 6).toNatClampNeg i1)) 1 (upd (upd (sL 1) ((sL 0 0) * 6).toNatClampNeg i1) (((sL 0 0) * 6) + 1).toNatClampNeg i2)) 1 (upd (upd (upd (sL 1) ((sL 0 0) * 6).toNatClampNeg i1) (((sL 0 0) * 6) + 1).toNatClampNeg i2) (((sL 0 0) * 6) + 2).toNatClampNeg i3)) 1 (upd (upd (upd (upd (sL 1) ((sL 0 0) * 6).toNatClampNeg i1) (((sL 0 0) * 6) + 1).toNatClampNeg i2) (((sL 0 0) * 6) + 2).toNatClampNeg i3) (((sL 0 0) * 6) + 3).toNatClampNeg i4)) 1 (upd (upd (upd (upd (upd (sL 1) ((sL 0 0) * 6).toNatClampNeg i1) (((sL 0 0) * 6) + 1).toNatClampNeg i2) (((sL 0 0) * 6) + 2).toNatClampNeg i3) (((sL 0 0) * 6) + 3).toNatClampNeg i4) (((sL 0 0) * 6) + 4).toNatClampNeg i5)) (upd (upd (upd (upd (upd (upd (sL 1) ((sL 0 0) * 6).toNatClampNeg i1) (((sL 0 0) * 6) + 1).toNatClampNeg i2) (((sL 0 0) * 6) + 2).toNatClampNeg i3) (((sL 0 0) * 6) + 3).toNatClampNeg i4) (((sL 0 0) * 6) + 4).toNatClampNeg i5) (((sL 0 0) * 6) + 5).toNatClampNeg i6)) hP
    have hD := k_cD (w_L_1 k al n (k_st (k_st (k_st (k_st (k_st sL 1 (upd (sL 1) ((sL 0 0) * 6).toNatClampNeg i1)) 1 (upd (upd (sL 1) ((sL 0 0) * 6).toNatClampNeg i1) (((sL 0 0) * 6) + 1).toNatClampNeg i2)) 1 (upd (upd (upd (sL 1) ((sL 0 0) * 6).toNatClampNeg i1) (((sL 0 0) * 6) + 1).toNatClampNeg i2) (((sL 0 0) * 6) + 2).toNatClampNeg i3)) 1 (upd (upd (upd (upd (sL 1) ((sL 0 0) * 6).toNatClampNeg i1) (((sL 0 0) * 6) + 1).toNatClampNeg i2) (((sL 0 0) * 6) + 2).toNatClampNeg i3) (((sL 0 0) * 6) + 3).toNatClampNeg i4)) 1 (upd (upd (upd (upd (upd (sL 1) ((sL 0 0) * 6).toNatClampNeg i1) (((sL 0 0) * 6) + 1).toNatClampNeg i2) (((sL 0 0) * 6) + 2).toNatClampNeg i3) (((sL 0 0) * 6) + 3).toNatClampNeg i4) (((sL 0 0) * 6) + 4).toNatClampNeg i5)) (upd (upd (upd (upd (upd (upd (sL 1) ((sL 0 0) * 6).toNatClampNeg i1) (((sL 0 0) * 6) + 1).toNatClampNeg i2) (((sL 0 0) * 6) + 2).toNatClampNeg i3) (((sL 0 0) * 6) + 3).toNatClampNeg i4) (((sL 0 0) * 6) + 4).toNatClampNeg i5) (((sL 0 0) * 6) + 5).toNatClampNeg i6)) hD
    refine lv_aload_n hx hb dX1_write_82 rfl (lv_at hl 1 rfl) ?_
    refine lv_dup hx hb dX1_write_83 rfl ?_
    refine va_get (D := k.1) (ci := 1) (v := .int (sL 0 0)) (C := RX1) (T := TX1) (N := 3) hx hb hts in_X1_write_X1 hown hK hP 0 rfl rfl 2 (by decide) (k_w hts 1 rfl) (fun _ h9 => h9) rfl dX1_write_84 ?_
    refine lv_iconst (v := 1) hx hb dX1_write_87 (by decide) ?_
    refine lv_iadd hx hb dX1_write_88 ?_
    refine va_put (D := k.1) (ci := 1) (v := .int ((sL 0 0) + 1)) (ty := .int) (C := RX1) (T := TX1) (N := 3) hx hb hts in_X1_write_X1 tyX1 tyX1_ok nmX1 hown hK hP hD hS 0 rfl rfl 2 (by decide) (k_w hts 1 rfl) (fun _ h9 => h9) rfl (by decide +kernel) rfl rfl (Nat.le_of_ble_eq_true rfl) dX1_write_89 (fun H locs hP hD hS => ?_)
    have hP := k_cP (w_L_s0 k al n (k_st (k_st (k_st (k_st (k_st (k_st sL 1 (upd (sL 1) ((sL 0 0) * 6).toNatClampNeg i1)) 1 (upd (upd (sL 1) ((sL 0 0) * 6).toNatClampNeg i1) (((sL 0 0) * 6) + 1).toNatClampNeg i2)) 1 (upd (upd (upd (sL 1) ((sL 0 0) * 6).toNatClampNeg i1) (((sL 0 0) * 6) + 1).toNatClampNeg i2) (((sL 0 0) * 6) + 2).toNatClampNeg i3)) 1 (upd (upd (upd (upd (sL 1) ((sL 0 0) * 6).toNatClampNeg i1) (((sL 0 0) * 6) + 1).toNatClampNeg i2) (((sL 0 0) * 6) + 2).toNatClampNeg i3) (((sL 0 0) * 6) + 3).toNatClampNeg i4)) 1 (upd (upd (upd (upd (upd (sL 1) ((sL 0 0) * 6).toNatClampNeg i1) (((sL 0 0) * 6) + 1).toNatClampNeg i2) (((sL 0 0) * 6) + 2).toNatClampNeg i3) (((sL 0 0) * 6) + 3).toNatClampNeg i4) (((sL 0 0) * 6) + 4).toNatClampNeg i5)) 1 (upd (upd (upd (upd (upd (upd (sL 1) ((sL 0 0) * 6).toNatClampNeg i1) (((sL 0 0) * 6) + 1).toNatClampNeg i2) (((sL 0 0) * 6) + 2).toNatClampNeg i3) (((sL 0 0) * 6) + 3).toNatClampNeg i4) (((sL 0 0) * 6) + 4).toNatClampNeg i5) (((sL 0 0) * 6) + 5).toNatClampNeg i6)) ((sL 0 0) + 1)) hP
    have hD := k_cD (w_L_s0 k al n (k_st (k_st (k_st (k_st (k_st (k_st sL 1 (upd (sL 1) ((sL 0 0) * 6).toNatClampNeg i1)) 1 (upd (upd (sL 1) ((sL 0 0) * 6).toNatClampNeg i1) (((sL 0 0) * 6) + 1).toNatClampNeg i2)) 1 (upd (upd (upd (sL 1) ((sL 0 0) * 6).toNatClampNeg i1) (((sL 0 0) * 6) + 1).toNatClampNeg i2) (((sL 0 0) * 6) + 2).toNatClampNeg i3)) 1 (upd (upd (upd (upd (sL 1) ((sL 0 0) * 6).toNatClampNeg i1) (((sL 0 0) * 6) + 1).toNatClampNeg i2) (((sL 0 0) * 6) + 2).toNatClampNeg i3) (((sL 0 0) * 6) + 3).toNatClampNeg i4)) 1 (upd (upd (upd (upd (upd (sL 1) ((sL 0 0) * 6).toNatClampNeg i1) (((sL 0 0) * 6) + 1).toNatClampNeg i2) (((sL 0 0) * 6) + 2).toNatClampNeg i3) (((sL 0 0) * 6) + 3).toNatClampNeg i4) (((sL 0 0) * 6) + 4).toNatClampNeg i5)) 1 (upd (upd (upd (upd (upd (upd (sL 1) ((sL 0 0) * 6).toNatClampNeg i1) (((sL 0 0) * 6) + 1).toNatClampNeg i2) (((sL 0 0) * 6) + 2).toNatClampNeg i3) (((sL 0 0) * 6) + 3).toNatClampNeg i4) (((sL 0 0) * 6) + 4).toNatClampNeg i5) (((sL 0 0) * 6) + 5).toNatClampNeg i6)) ((sL 0 0) + 1)) hD
    have ef : f_X1_write n sL i1 i2 i3 i4 i5 i6 = k_st (k_st (k_st (k_st (k_st (k_st (k_st sL 1 (upd (sL 1) ((sL 0 0) * 6).toNatClampNeg i1)) 1 (upd (upd (sL 1) ((sL 0 0) * 6).toNatClampNeg i1) (((sL 0 0) * 6) + 1).toNatClampNeg i2)) 1 (upd (upd (upd (sL 1) ((sL 0 0) * 6).toNatClampNeg i1) (((sL 0 0) * 6) + 1).toNatClampNeg i2) (((sL 0 0) * 6) + 2).toNatClampNeg i3)) 1 (upd (upd (upd (upd (sL 1) ((sL 0 0) * 6).toNatClampNeg i1) (((sL 0 0) * 6) + 1).toNatClampNeg i2) (((sL 0 0) * 6) + 2).toNatClampNeg i3) (((sL 0 0) * 6) + 3).toNatClampNeg i4)) 1 (upd (upd (upd (upd (upd (sL 1) ((sL 0 0) * 6).toNatClampNeg i1) (((sL 0 0) * 6) + 1).toNatClampNeg i2) (((sL 0 0) * 6) + 2).toNatClampNeg i3) (((sL 0 0) * 6) + 3).toNatClampNeg i4) (((sL 0 0) * 6) + 4).toNatClampNeg i5)) 1 (upd (upd (upd (upd (upd (upd (sL 1) ((sL 0 0) * 6).toNatClampNeg i1) (((sL 0 0) * 6) + 1).toNatClampNeg i2) (((sL 0 0) * 6) + 2).toNatClampNeg i3) (((sL 0 0) * 6) + 3).toNatClampNeg i4) (((sL 0 0) * 6) + 4).toNatClampNeg i5) (((sL 0 0) * 6) + 5).toNatClampNeg i6)) 0 (k_st ((k_st (k_st (k_st (k_st (k_st (k_st sL 1 (upd (sL 1) ((sL 0 0) * 6).toNatClampNeg i1)) 1 (upd (upd (sL 1) ((sL 0 0) * 6).toNatClampNeg i1) (((sL 0 0) * 6) + 1).toNatClampNeg i2)) 1 (upd (upd (upd (sL 1) ((sL 0 0) * 6).toNatClampNeg i1) (((sL 0 0) * 6) + 1).toNatClampNeg i2) (((sL 0 0) * 6) + 2).toNatClampNeg i3)) 1 (upd (upd (upd (upd (sL 1) ((sL 0 0) * 6).toNatClampNeg i1) (((sL 0 0) * 6) + 1).toNatClampNeg i2) (((sL 0 0) * 6) + 2).toNatClampNeg i3) (((sL 0 0) * 6) + 3).toNatClampNeg i4)) 1 (upd (upd (upd (upd (upd (sL 1) ((sL 0 0) * 6).toNatClampNeg i1) (((sL 0 0) * 6) + 1).toNatClampNeg i2) (((sL 0 0) * 6) + 2).toNatClampNeg i3) (((sL 0 0) * 6) + 3).toNatClampNeg i4) (((sL 0 0) * 6) + 4).toNatClampNeg i5)) 1 (upd (upd (upd (upd (upd (upd (sL 1) ((sL 0 0) * 6).toNatClampNeg i1) (((sL 0 0) * 6) + 1).toNatClampNeg i2) (((sL 0 0) * 6) + 2).toNatClampNeg i3) (((sL 0 0) * 6) + 3).toNatClampNeg i4) (((sL 0 0) * 6) + 4).toNatClampNeg i5) (((sL 0 0) * 6) + 5).toNatClampNeg i6)) 0) 0 ((sL 0 0) + 1)) := by
      rw [f_X1_write, if_pos c_1]
    exact k_retv hx hb hr hK (by rw [ef]; exact hP) (by rw [ef]; exact hD) hS hlocks dX1_write_92
  ·
    have ef : f_X1_write n sL i1 i2 i3 i4 i5 i6 = sL := by
      rw [f_X1_write, if_neg c_1]
    exact k_retv hx hb hr hK (by rw [ef]; exact hP) (by rw [ef]; exact hD) hS hlocks dX1_write_11
theorem in_X1_has_X1 : ∀ w ∈ wsX10, w ∈ wsX1_has := fun _ h => List.mem_cons_of_mem _ (List.mem_append_right _ h)
def f_X1_has (sL : Nat → Nat → Int32) (i1 : Int32) : Int32 :=
  if i1 < 0 then 0
  else if (sL 0 0) ≤ i1 then 0
  else 1
set_option maxHeartbeats 4000000 in
set_option maxRecDepth 100000 in
theorem c_X1_has (l : Launch) (k : K_X) (al : Nat → Nat) (n : Nat) (sL : Nat → Nat → Int32) (i1 : Int32) : k_C l yX1_has wsX1_has (k_rm 0 0) k [.ref (al 0), .int i1] (w_L k al n sL) (k_qI k (f_X1_has sL i1) (w_L k al n sL)) := by
  refine k_mk (cc := cX1_has) (maxL := 2) (ret := (some .boolean)) (by decide) rfl (Nat.le_of_ble_eq_true rfl) ?_
  intro p e s m below meth c A ls C0 hP hD hS hl
  obtain ⟨hx, hb, hr, hts, hown, hlocks, hml, hA, hK⟩ := id C0
  have hown : s.vm.findClass RX1 = some m.cls := hown
  have hl : lv_has ls 2 [(0, .ref (al 0)), (1, .int i1)] := hl
  refine lv_iload_n hx hb dX1_has_0 rfl (lv_at hl 1 rfl) ?_
  refine lv_if_lt (tgt := 16) hx hb dX1_has_1 (by decide) (fun c_1 => ?_) (fun c_1 => ?_)
  ·
    refine lv_iconst (v := 0) hx hb dX1_has_16 (by decide) ?_
    have ef : f_X1_has sL i1 = 0 := by
      rw [f_X1_has, if_pos c_1]
    exact k_retz hx hb hr (by decide) hK hP hD hS hlocks dX1_has_17 (by rw [ef])
  ·
    refine lv_iload_n hx hb dX1_has_4 rfl (lv_at hl 1 rfl) ?_
    refine lv_aload_n hx hb dX1_has_5 rfl (lv_at hl 0 rfl) ?_
    refine va_get (D := k.1) (ci := 1) (v := .int (sL 0 0)) (C := RX1) (T := TX1) (N := 3) hx hb hts in_X1_has_X1 hown hK hP 0 rfl rfl 2 (by decide) (k_w hts 1 rfl) (fun _ h9 => h9) rfl dX1_has_6 ?_
    refine lv_icmp_ge (tgt := 16) hx hb dX1_has_9 (by decide) (fun c_2 => ?_) (fun c_2 => ?_)
    ·
      refine lv_iconst (v := 0) hx hb dX1_has_16 (by decide) ?_
      have ef : f_X1_has sL i1 = 0 := by
        rw [f_X1_has, if_neg c_1, if_pos c_2]
      exact k_retz hx hb hr (by decide) hK hP hD hS hlocks dX1_has_17 (by rw [ef])
    ·
      refine lv_iconst (v := 1) hx hb dX1_has_12 (by decide) ?_
      refine lv_goto (tgt := 17) hx hb dX1_has_13 (by decide) ?_
      have ef : f_X1_has sL i1 = 1 := by
        rw [f_X1_has, if_neg c_1, if_neg c_2]
      exact k_retz hx hb hr (by decide) hK hP hD hS hlocks dX1_has_17 (by rw [ef])
theorem in_X1_read_X1 : ∀ w ∈ wsX10, w ∈ wsX1_read := fun _ h => List.mem_cons_of_mem _ (List.mem_append_right _ h)
def f_X1_read (sL : Nat → Nat → Int32) (i1 : Int32) (i2 : Int32) : Int32 :=
  (sL 1) ((i1 * 6) + i2).toNatClampNeg
set_option maxHeartbeats 4000000 in
set_option maxRecDepth 100000 in
theorem c_X1_read (l : Launch) (k : K_X) (al : Nat → Nat) (n : Nat) (sL : Nat → Nat → Int32) (i1 : Int32) (i2 : Int32) (h1 : vp_in (i1 * 6 + i2) (n * 6)) : k_C l yX1_read wsX1_read (k_rm 0 0) k [.ref (al 0), .int i1, .int i2] (w_L k al n sL) (k_qI k (f_X1_read sL i1 i2) (w_L k al n sL)) := by
  refine k_mk (cc := cX1_read) (maxL := 3) (ret := (some .int)) (by decide) rfl (Nat.le_of_ble_eq_true rfl) ?_
  intro p e s m below meth c A ls C0 hP hD hS hl
  obtain ⟨hx, hb, hr, hts, hown, hlocks, hml, hA, hK⟩ := id C0
  have hown : s.vm.findClass RX1 = some m.cls := hown
  have hl : lv_has ls 3 [(0, .ref (al 0)), (1, .int i1), (2, .int i2)] := hl
  refine lv_aload_n hx hb dX1_read_0 rfl (lv_at hl 0 rfl) ?_
  refine va_get (D := k.1) (ci := 1) (v := .ref (al 1)) (C := RX1) (T := TX1) (N := 3) hx hb hts in_X1_read_X1 hown hK hP 0 rfl rfl 1 (by decide) (k_w hts 1 rfl) (fun _ h9 => h9) rfl dX1_read_1 ?_
  refine lv_iload_n hx hb dX1_read_4 rfl (lv_at hl 1 rfl) ?_
  refine lv_bipush (v := 6) hx hb dX1_read_5 (by decide) ?_
  refine lv_imul hx hb dX1_read_7 ?_
  refine lv_iload_n hx hb dX1_read_8 rfl (lv_at hl 2 rfl) ?_
  refine lv_iadd hx hb dX1_read_9 ?_
  refine va_iald (f := sL 1) hx hb hK hP 1 0 rfl rfl (by assumption) dX1_read_10 ?_
  have ef : f_X1_read sL i1 i2 = (sL 1) ((i1 * 6) + i2).toNatClampNeg := by
    rw [f_X1_read]
  exact k_reti hx hb hr hK hP hD hS hlocks dX1_read_11 (by rw [ef])
end
section
theorem in_X0_isBound_X0 : ∀ w ∈ wsX00, w ∈ wsX0_isBound := fun _ h => List.mem_cons_of_mem _ (List.mem_append_right _ h)
def f_X0_isBound (sF : Nat → Nat → Int32) (i1 : Int32) : Int32 :=
  if ((sF 1) i1.toNatClampNeg) = (-9) then 0
  else 1
set_option maxHeartbeats 4000000 in
set_option maxRecDepth 100000 in
theorem c_X0_isBound (l : Launch) (k : K_X) (af : Nat → Nat) (p0 : Nat) (l0 : Nat) (sF : Nat → Nat → Int32) (i1 : Int32) (h1 : vp_in i1 10) : k_C l yX0_isBound wsX0_isBound (k_rm 0 0) k [.ref (af 0), .int i1] (w_F k af (p0) (l0) sF) (k_qI k (f_X0_isBound sF i1) (w_F k af (p0) (l0) sF)) := by
  refine k_mk (cc := cX0_isBound) (maxL := 2) (ret := (some .boolean)) (by decide) rfl (Nat.le_of_ble_eq_true rfl) ?_
  intro p e s m below meth c A ls C0 hP hD hS hl
  obtain ⟨hx, hb, hr, hts, hown, hlocks, hml, hA, hK⟩ := id C0
  have hown : s.vm.findClass RX0 = some m.cls := hown
  have hl : lv_has ls 2 [(0, .ref (af 0)), (1, .int i1)] := hl
  refine lv_aload_n hx hb dX0_isBound_0 rfl (lv_at hl 0 rfl) ?_
  refine va_get (D := k.1) (ci := 0) (v := .ref (af 1)) (C := RX0) (T := TX0) (N := 8) hx hb hts in_X0_isBound_X0 hown hK hP 0 rfl rfl 3 (by decide) (k_w hts 1 rfl) (fun _ h9 => h9) rfl dX0_isBound_1 ?_
  refine lv_iload_n hx hb dX0_isBound_4 rfl (lv_at hl 1 rfl) ?_
  refine va_iald (f := sF 1) hx hb hK hP 1 0 rfl rfl (by assumption) dX0_isBound_5 ?_
  refine lv_bipush (v := (-9)) hx hb dX0_isBound_6 (by decide) ?_
  refine lv_icmp_eq (tgt := 15) hx hb dX0_isBound_8 (by decide) (fun c_1 => ?_) (fun c_1 => ?_)
  ·
    refine lv_iconst (v := 0) hx hb dX0_isBound_15 (by decide) ?_
    have ef : f_X0_isBound sF i1 = 0 := by
      rw [f_X0_isBound, if_pos c_1]
    exact k_retz hx hb hr (by decide) hK hP hD hS hlocks dX0_isBound_16 (by rw [ef])
  ·
    refine lv_iconst (v := 1) hx hb dX0_isBound_11 (by decide) ?_
    refine lv_goto (tgt := 16) hx hb dX0_isBound_12 (by decide) ?_
    have ef : f_X0_isBound sF i1 = 1 := by
      rw [f_X0_isBound, if_neg c_1]
    exact k_retz hx hb hr (by decide) hK hP hD hS hlocks dX0_isBound_16 (by rw [ef])
theorem in_X0_hasAsked_X0 : ∀ w ∈ wsX00, w ∈ wsX0_hasAsked := fun _ h => List.mem_cons_of_mem _ (List.mem_append_right _ h)
def f_X0_hasAsked (sF : Nat → Nat → Int32) (i1 : Int32) (i2 : Int32) : Int32 :=
  if (((sF 5) i1.toNatClampNeg) &&& ((1 : Int32) <<< (i2 &&& 31))) = 0 then 0
  else 1
set_option maxHeartbeats 4000000 in
set_option maxRecDepth 100000 in
theorem c_X0_hasAsked (l : Launch) (k : K_X) (af : Nat → Nat) (p0 : Nat) (l0 : Nat) (sF : Nat → Nat → Int32) (i1 : Int32) (i2 : Int32) (h1 : vp_in i1 10) : k_C l yX0_hasAsked wsX0_hasAsked (k_rm 0 0) k [.ref (af 0), .int i1, .int i2] (w_F k af (p0) (l0) sF) (k_qI k (f_X0_hasAsked sF i1 i2) (w_F k af (p0) (l0) sF)) := by
  refine k_mk (cc := cX0_hasAsked) (maxL := 3) (ret := (some .boolean)) (by decide) rfl (Nat.le_of_ble_eq_true rfl) ?_
  intro p e s m below meth c A ls C0 hP hD hS hl
  obtain ⟨hx, hb, hr, hts, hown, hlocks, hml, hA, hK⟩ := id C0
  have hown : s.vm.findClass RX0 = some m.cls := hown
  have hl : lv_has ls 3 [(0, .ref (af 0)), (1, .int i1), (2, .int i2)] := hl
  refine lv_aload_n hx hb dX0_hasAsked_0 rfl (lv_at hl 0 rfl) ?_
  refine va_get (D := k.1) (ci := 0) (v := .ref (af 5)) (C := RX0) (T := TX0) (N := 8) hx hb hts in_X0_hasAsked_X0 hown hK hP 0 rfl rfl 7 (by decide) (k_w hts 1 rfl) (fun _ h9 => h9) rfl dX0_hasAsked_1 ?_
  refine lv_iload_n hx hb dX0_hasAsked_4 rfl (lv_at hl 1 rfl) ?_
  refine va_iald (f := sF 5) hx hb hK hP 5 0 rfl rfl (by assumption) dX0_hasAsked_5 ?_
  refine lv_iconst (v := 1) hx hb dX0_hasAsked_6 (by decide) ?_
  refine lv_iload_n hx hb dX0_hasAsked_7 rfl (lv_at hl 2 rfl) ?_
  refine lv_ishl hx hb dX0_hasAsked_8 ?_
  refine lv_iand hx hb dX0_hasAsked_9 ?_
  refine lv_if_eq (tgt := 17) hx hb dX0_hasAsked_10 (by decide) (fun c_1 => ?_) (fun c_1 => ?_)
  ·
    refine lv_iconst (v := 0) hx hb dX0_hasAsked_17 (by decide) ?_
    have ef : f_X0_hasAsked sF i1 i2 = 0 := by
      rw [f_X0_hasAsked, if_pos c_1]
    exact k_retz hx hb hr (by decide) hK hP hD hS hlocks dX0_hasAsked_18 (by rw [ef])
  ·
    refine lv_iconst (v := 1) hx hb dX0_hasAsked_13 (by decide) ?_
    refine lv_goto (tgt := 18) hx hb dX0_hasAsked_14 (by decide) ?_
    have ef : f_X0_hasAsked sF i1 i2 = 1 := by
      rw [f_X0_hasAsked, if_neg c_1]
    exact k_retz hx hb hr (by decide) hK hP hD hS hlocks dX0_hasAsked_18 (by rw [ef])
theorem in_X0_countAsked_X0 : ∀ w ∈ wsX00, w ∈ wsX0_countAsked := fun _ h => List.mem_cons_of_mem _ (List.mem_append_right _ h)
def f_X0_countAsked (sF : Nat → Nat → Int32) (i1 : Int32) : Int32 :=
  f_J6_bitCount_0f7a4 ((sF 5) i1.toNatClampNeg)
set_option maxHeartbeats 4000000 in
set_option maxRecDepth 100000 in
theorem c_X0_countAsked (l : Launch) (k : K_X) (af : Nat → Nat) (p0 : Nat) (l0 : Nat) (sF : Nat → Nat → Int32) (i1 : Int32) (h1 : vp_in i1 10) : k_C l yX0_countAsked wsX0_countAsked (k_rm 1 20) k [.ref (af 0), .int i1] (w_F k af (p0) (l0) sF) (k_qI k (f_X0_countAsked sF i1) (w_F k af (p0) (l0) sF)) := by
  refine k_mk (cc := cX0_countAsked) (maxL := 2) (ret := (some .int)) (by decide) rfl (Nat.le_of_ble_eq_true rfl) ?_
  intro p e s m below meth c A ls C0 hP hD hS hl
  obtain ⟨hx, hb, hr, hts, hown, hlocks, hml, hA, hK⟩ := id C0
  have hown : s.vm.findClass RX0 = some m.cls := hown
  have hl : lv_has ls 2 [(0, .ref (af 0)), (1, .int i1)] := hl
  refine lv_aload_n hx hb dX0_countAsked_0 rfl (lv_at hl 0 rfl) ?_
  refine va_get (D := k.1) (ci := 0) (v := .ref (af 5)) (C := RX0) (T := TX0) (N := 8) hx hb hts in_X0_countAsked_X0 hown hK hP 0 rfl rfl 7 (by decide) (k_w hts 1 rfl) (fun _ h9 => h9) rfl dX0_countAsked_1 ?_
  refine lv_iload_n hx hb dX0_countAsked_4 rfl (lv_at hl 1 rfl) ?_
  refine va_iald (f := sF 5) hx hb hK hP 5 0 rfl rfl (by assumption) dX0_countAsked_5 ?_
  refine k_Si (wr := w_F k af (p0) (l0) sF) (ws' := w_F k af (p0) (l0) sF) (Rv := (f_J6_bitCount_0f7a4 ((sF 5) i1.toNatClampNeg))) (rest := []) ⟨hx, hb, hml, hown, hts⟩ hK hA hP hD hS (c_J6_bitCount_0f7a4 l k ((sF 5) i1.toNatClampNeg)) (va_cwS 1 hts gX0_countAsked_J6_bitCount_0f7a4 rfl rfl rfl (by decide +kernel) ⟨Nat.le_of_ble_eq_true rfl, Nat.le_of_ble_eq_true rfl⟩) rfl hl.1 rfl (Nat.le_of_ble_eq_true rfl) dX0_countAsked_6 (Nat.zero_le _) (Nat.zero_le _) [] [0, 1, 2, 3, 4, 5] [0, 1, 2, 3, 4, 5] rfl rfl rfl (by decide) rfl rfl rfl (fun H locs hP hD hS => ?_)
  have ef : f_X0_countAsked sF i1 = f_J6_bitCount_0f7a4 ((sF 5) i1.toNatClampNeg) := by
    rw [f_X0_countAsked]
  exact k_reti hx hb hr hK hP hD hS hlocks dX0_countAsked_9 (by rw [ef])
theorem in_X0_takes_X0 : ∀ w ∈ wsX00, w ∈ wsX0_takes := fun _ h => List.mem_cons_of_mem _ (List.mem_append_right _ h)
def f_X0_takes (sF : Nat → Nat → Int32) (i1 : Int32) (i2 : Int32) (i3 : Int32) : Int32 :=
  if (f_X0_isBound sF i2) = 0 then 1
  else if 120 ≤ i1 then 0
  else if i3 ≤ ((sF 2) i2.toNatClampNeg) then 0
  else 1
set_option maxHeartbeats 4000000 in
set_option maxRecDepth 100000 in
theorem c_X0_takes (l : Launch) (k : K_X) (af : Nat → Nat) (p0 : Nat) (l0 : Nat) (sF : Nat → Nat → Int32) (i1 : Int32) (i2 : Int32) (i3 : Int32) (h2 : vp_in i2 10) : k_C l yX0_takes wsX0_takes (k_rm 1 21) k [.ref (af 0), .int i1, .int i2, .int i3] (w_F k af (p0) (l0) sF) (k_qI k (f_X0_takes sF i1 i2 i3) (w_F k af (p0) (l0) sF)) := by
  refine k_mk (cc := cX0_takes) (maxL := 4) (ret := (some .boolean)) (by decide) rfl (Nat.le_of_ble_eq_true rfl) ?_
  intro p e s m below meth c A ls C0 hP hD hS hl
  obtain ⟨hx, hb, hr, hts, hown, hlocks, hml, hA, hK⟩ := id C0
  have hown : s.vm.findClass RX0 = some m.cls := hown
  have hl : lv_has ls 4 [(0, .ref (af 0)), (1, .int i1), (2, .int i2), (3, .int i3)] := hl
  refine lv_aload_n hx hb dX0_takes_0 rfl (lv_at hl 0 rfl) ?_
  refine lv_iload_n hx hb dX0_takes_1 rfl (lv_at hl 2 rfl) ?_
  refine k_Vi (wr := ([] : va_W)) (ws' := w_F k af (p0) (l0) sF) (Rv := (f_X0_isBound sF i2)) (rest := []) ⟨hx, hb, hml, hown, hts⟩ hK hA hP hD hS (c_X0_isBound l k af (p0) (l0) sF i2 (by assumption)) (cwV 1 hts gX0_takes_X0_isBound rfl rfl rfl (by decide +kernel) ⟨Nat.le_of_ble_eq_true rfl, Nat.le_of_ble_eq_true rfl⟩) (va_recv hK hP (ci := 0) (q0 := 0) rfl rfl) rfl hl.1 rfl (Nat.le_of_ble_eq_true rfl) dX0_takes_2 (Nat.zero_le _) (Nat.zero_le _) [0, 1, 2, 3, 4, 5] [] [0, 1, 2, 3, 4, 5] rfl rfl rfl (by decide) rfl rfl rfl (fun H locs hP hD hS => ?_)
  refine lv_if_eq (tgt := 24) hx hb dX0_takes_5 (by decide) (fun c_1 => ?_) (fun c_1 => ?_)
  ·
    refine lv_iconst (v := 1) hx hb dX0_takes_24 (by decide) ?_
    refine lv_goto (tgt := 29) hx hb dX0_takes_25 (by decide) ?_
    have ef : f_X0_takes sF i1 i2 i3 = 1 := by
      rw [f_X0_takes, if_pos c_1]
    exact k_retz hx hb hr (by decide) hK hP hD hS hlocks dX0_takes_29 (by rw [ef])
  ·
    refine lv_iload_n hx hb dX0_takes_8 rfl (lv_at hl 1 rfl) ?_
    refine lv_bipush (v := 120) hx hb dX0_takes_9 (by decide) ?_
    refine lv_icmp_ge (tgt := 28) hx hb dX0_takes_11 (by decide) (fun c_2 => ?_) (fun c_2 => ?_)
    ·
      refine lv_iconst (v := 0) hx hb dX0_takes_28 (by decide) ?_
      have ef : f_X0_takes sF i1 i2 i3 = 0 := by
        rw [f_X0_takes, if_neg c_1, if_pos c_2]
      exact k_retz hx hb hr (by decide) hK hP hD hS hlocks dX0_takes_29 (by rw [ef])
    ·
      refine lv_iload_n hx hb dX0_takes_14 rfl (lv_at hl 3 rfl) ?_
      refine lv_aload_n hx hb dX0_takes_15 rfl (lv_at hl 0 rfl) ?_
      refine va_get (D := k.1) (ci := 0) (v := .ref (af 2)) (C := RX0) (T := TX0) (N := 8) hx hb hts in_X0_takes_X0 hown hK hP 0 rfl rfl 4 (by decide) (k_w hts 1 rfl) (fun _ h9 => h9) rfl dX0_takes_16 ?_
      refine lv_iload_n hx hb dX0_takes_19 rfl (lv_at hl 2 rfl) ?_
      refine va_iald (f := sF 2) hx hb hK hP 2 0 rfl rfl (by assumption) dX0_takes_20 ?_
      refine lv_icmp_le (tgt := 28) hx hb dX0_takes_21 (by decide) (fun c_3 => ?_) (fun c_3 => ?_)
      ·
        refine lv_iconst (v := 0) hx hb dX0_takes_28 (by decide) ?_
        have ef : f_X0_takes sF i1 i2 i3 = 0 := by
          rw [f_X0_takes, if_neg c_1, if_neg c_2, if_pos c_3]
        exact k_retz hx hb hr (by decide) hK hP hD hS hlocks dX0_takes_29 (by rw [ef])
      ·
        refine lv_iconst (v := 1) hx hb dX0_takes_24 (by decide) ?_
        refine lv_goto (tgt := 29) hx hb dX0_takes_25 (by decide) ?_
        have ef : f_X0_takes sF i1 i2 i3 = 1 := by
          rw [f_X0_takes, if_neg c_1, if_neg c_2, if_neg c_3]
        exact k_retz hx hb hr (by decide) hK hP hD hS hlocks dX0_takes_29 (by rw [ef])
theorem in_X0_bind_X0 : ∀ w ∈ wsX00, w ∈ wsX0_bind := fun _ h => List.mem_cons_of_mem _ (List.mem_append_right _ h)
def f_X0_bind (sF : Nat → Nat → Int32) (i1 : Int32) (i2 : Int32) (i3 : Int32) (i4 : Int32) : (Nat → Nat → Int32) :=
  if ((sF 1) i3.toNatClampNeg) = (-9) then k_st (k_st (k_st (k_st sF 1 (upd (sF 1) i3.toNatClampNeg i2)) 4 (upd (sF 4) i2.toNatClampNeg i3)) 2 (upd (sF 2) i3.toNatClampNeg i4)) 3 (upd (sF 3) i3.toNatClampNeg i1)
  else k_st (k_st (k_st (k_st (k_st sF 4 (upd (sF 4) ((sF 1) i3.toNatClampNeg).toNatClampNeg (-9))) 1 (upd (sF 1) i3.toNatClampNeg i2)) 4 (upd (upd (sF 4) ((sF 1) i3.toNatClampNeg).toNatClampNeg (-9)) i2.toNatClampNeg i3)) 2 (upd (sF 2) i3.toNatClampNeg i4)) 3 (upd (sF 3) i3.toNatClampNeg i1)
set_option maxHeartbeats 4000000 in
set_option maxRecDepth 100000 in
theorem c_X0_bind (l : Launch) (k : K_X) (af : Nat → Nat) (p0 : Nat) (l0 : Nat) (sF : Nat → Nat → Int32) (i1 : Int32) (i2 : Int32) (i3 : Int32) (i4 : Int32) (h2 : vp_in i2 10) (h3 : vp_in i3 10) (ho : k_o (sF 1 i3.toNatClampNeg) 10) : k_C l yX0_bind wsX0_bind (k_rm 0 0) k [.ref (af 0), .int i1, .int i2, .int i3, .int i4] (w_F k af (p0) (l0) sF) (k_qV k (w_F k af (p0) (l0) (f_X0_bind sF i1 i2 i3 i4))) := by
  refine k_mk (cc := cX0_bind) (maxL := 6) (ret := none) (by decide) rfl (Nat.le_of_ble_eq_true rfl) ?_
  intro p e s m below meth c A ls C0 hP hD hS hl
  obtain ⟨hx, hb, hr, hts, hown, hlocks, hml, hA, hK⟩ := id C0
  have hown : s.vm.findClass RX0 = some m.cls := hown
  have hl : lv_has ls 6 [(0, .ref (af 0)), (1, .int i1), (2, .int i2), (3, .int i3), (4, .int i4)] := hl
  refine lv_aload_n hx hb dX0_bind_0 rfl (lv_at hl 0 rfl) ?_
  refine va_get (D := k.1) (ci := 0) (v := .ref (af 1)) (C := RX0) (T := TX0) (N := 8) hx hb hts in_X0_bind_X0 hown hK hP 0 rfl rfl 3 (by decide) (k_w hts 1 rfl) (fun _ h9 => h9) rfl dX0_bind_1 ?_
  refine lv_iload_n hx hb dX0_bind_4 rfl (lv_at hl 3 rfl) ?_
  refine va_iald (f := sF 1) hx hb hK hP 1 0 rfl rfl (by first | assumption | exact ho.in (by assumption)) dX0_bind_5 ?_
  refine lv_istore (lv' := [(5, .int ((sF 1) i3.toNatClampNeg)), (0, .ref (af 0)), (1, .int i1), (2, .int i2), (3, .int i3), (4, .int i4)]) hx hb dX0_bind_6 hl (by decide) rfl (fun ls hl => ?_)
  refine lv_iload hx hb dX0_bind_8 (lv_at hl 0 rfl) ?_
  refine lv_bipush (v := (-9)) hx hb dX0_bind_10 (by decide) ?_
  refine lv_icmp_eq (tgt := 24) hx hb dX0_bind_12 (by decide) (fun c_1 => ?_) (fun c_1 => ?_)
  ·
    refine lv_aload_n hx hb dX0_bind_24 rfl (lv_at hl 1 rfl) ?_
    refine va_get (D := k.1) (ci := 0) (v := .ref (af 1)) (C := RX0) (T := TX0) (N := 8) hx hb hts in_X0_bind_X0 hown hK hP 0 rfl rfl 3 (by decide) (k_w hts 1 rfl) (fun _ h9 => h9) rfl dX0_bind_25 ?_
    refine lv_iload_n hx hb dX0_bind_28 rfl (lv_at hl 4 rfl) ?_
    refine lv_iload_n hx hb dX0_bind_29 rfl (lv_at hl 3 rfl) ?_
    refine va_iast (f := sF 1) hx hb hK hP hD hS 1 0 rfl rfl (by first | assumption | exact ho.in (by assumption)) dX0_bind_30 (fun H locs hP hD hS => ?_)
    have hP := k_cP (w_F_1 k af (p0) (l0) sF (upd (sF 1) i3.toNatClampNeg i2)) hP
    have hD := k_cD (w_F_1 k af (p0) (l0) sF (upd (sF 1) i3.toNatClampNeg i2)) hD
    refine lv_aload_n hx hb dX0_bind_31 rfl (lv_at hl 1 rfl) ?_
    refine va_get (D := k.1) (ci := 0) (v := .ref (af 4)) (C := RX0) (T := TX0) (N := 8) hx hb hts in_X0_bind_X0 hown hK hP 0 rfl rfl 6 (by decide) (k_w hts 2 rfl) (fun _ h9 => h9) rfl dX0_bind_32 ?_
    refine lv_iload_n hx hb dX0_bind_35 rfl (lv_at hl 3 rfl) ?_
    refine lv_iload_n hx hb dX0_bind_36 rfl (lv_at hl 4 rfl) ?_
    refine va_iast (f := sF 4) hx hb hK hP hD hS 4 0 rfl rfl (by first | assumption | exact ho.in (by assumption)) dX0_bind_37 (fun H locs hP hD hS => ?_)
    have hP := k_cP (w_F_4 k af (p0) (l0) (k_st sF 1 (upd (sF 1) i3.toNatClampNeg i2)) (upd (sF 4) i2.toNatClampNeg i3)) hP
    have hD := k_cD (w_F_4 k af (p0) (l0) (k_st sF 1 (upd (sF 1) i3.toNatClampNeg i2)) (upd (sF 4) i2.toNatClampNeg i3)) hD
    refine lv_aload_n hx hb dX0_bind_38 rfl (lv_at hl 1 rfl) ?_
    refine va_get (D := k.1) (ci := 0) (v := .ref (af 2)) (C := RX0) (T := TX0) (N := 8) hx hb hts in_X0_bind_X0 hown hK hP 0 rfl rfl 4 (by decide) (k_w hts 3 rfl) (fun _ h9 => h9) rfl dX0_bind_39 ?_
    refine lv_iload_n hx hb dX0_bind_42 rfl (lv_at hl 4 rfl) ?_
    refine lv_iload hx hb dX0_bind_43 (lv_at hl 5 rfl) ?_
    refine va_iast (f := sF 2) hx hb hK hP hD hS 2 0 rfl rfl (by first | assumption | exact ho.in (by assumption)) dX0_bind_45 (fun H locs hP hD hS => ?_)
    have hP := k_cP (w_F_2 k af (p0) (l0) (k_st (k_st sF 1 (upd (sF 1) i3.toNatClampNeg i2)) 4 (upd (sF 4) i2.toNatClampNeg i3)) (upd (sF 2) i3.toNatClampNeg i4)) hP
    have hD := k_cD (w_F_2 k af (p0) (l0) (k_st (k_st sF 1 (upd (sF 1) i3.toNatClampNeg i2)) 4 (upd (sF 4) i2.toNatClampNeg i3)) (upd (sF 2) i3.toNatClampNeg i4)) hD
    refine lv_aload_n hx hb dX0_bind_46 rfl (lv_at hl 1 rfl) ?_
    refine va_get (D := k.1) (ci := 0) (v := .ref (af 3)) (C := RX0) (T := TX0) (N := 8) hx hb hts in_X0_bind_X0 hown hK hP 0 rfl rfl 5 (by decide) (k_w hts 4 rfl) (fun _ h9 => h9) rfl dX0_bind_47 ?_
    refine lv_iload_n hx hb dX0_bind_50 rfl (lv_at hl 4 rfl) ?_
    refine lv_iload_n hx hb dX0_bind_51 rfl (lv_at hl 2 rfl) ?_
    refine va_iast (f := sF 3) hx hb hK hP hD hS 3 0 rfl rfl (by first | assumption | exact ho.in (by assumption)) dX0_bind_52 (fun H locs hP hD hS => ?_)
    have hP := k_cP (w_F_3 k af (p0) (l0) (k_st (k_st (k_st sF 1 (upd (sF 1) i3.toNatClampNeg i2)) 4 (upd (sF 4) i2.toNatClampNeg i3)) 2 (upd (sF 2) i3.toNatClampNeg i4)) (upd (sF 3) i3.toNatClampNeg i1)) hP
    have hD := k_cD (w_F_3 k af (p0) (l0) (k_st (k_st (k_st sF 1 (upd (sF 1) i3.toNatClampNeg i2)) 4 (upd (sF 4) i2.toNatClampNeg i3)) 2 (upd (sF 2) i3.toNatClampNeg i4)) (upd (sF 3) i3.toNatClampNeg i1)) hD
    have ef : f_X0_bind sF i1 i2 i3 i4 = k_st (k_st (k_st (k_st sF 1 (upd (sF 1) i3.toNatClampNeg i2)) 4 (upd (sF 4) i2.toNatClampNeg i3)) 2 (upd (sF 2) i3.toNatClampNeg i4)) 3 (upd (sF 3) i3.toNatClampNeg i1) := by
      rw [f_X0_bind, if_pos c_1]
    exact k_retv hx hb hr hK (by rw [ef]; exact hP) (by rw [ef]; exact hD) hS hlocks dX0_bind_53
  ·
    refine lv_aload_n hx hb dX0_bind_15 rfl (lv_at hl 1 rfl) ?_
    refine va_get (D := k.1) (ci := 0) (v := .ref (af 4)) (C := RX0) (T := TX0) (N := 8) hx hb hts in_X0_bind_X0 hown hK hP 0 rfl rfl 6 (by decide) (k_w hts 2 rfl) (fun _ h9 => h9) rfl dX0_bind_16 ?_
    refine lv_iload hx hb dX0_bind_19 (lv_at hl 0 rfl) ?_
    refine lv_bipush (v := (-9)) hx hb dX0_bind_21 (by decide) ?_
    refine va_iast (f := sF 4) hx hb hK hP hD hS 4 0 rfl rfl (by first | assumption | exact ho.in (by assumption)) dX0_bind_23 (fun H locs hP hD hS => ?_)
    have hP := k_cP (w_F_4 k af (p0) (l0) sF (upd (sF 4) ((sF 1) i3.toNatClampNeg).toNatClampNeg (-9))) hP
    have hD := k_cD (w_F_4 k af (p0) (l0) sF (upd (sF 4) ((sF 1) i3.toNatClampNeg).toNatClampNeg (-9))) hD
    refine lv_aload_n hx hb dX0_bind_24 rfl (lv_at hl 1 rfl) ?_
    refine va_get (D := k.1) (ci := 0) (v := .ref (af 1)) (C := RX0) (T := TX0) (N := 8) hx hb hts in_X0_bind_X0 hown hK hP 0 rfl rfl 3 (by decide) (k_w hts 1 rfl) (fun _ h9 => h9) rfl dX0_bind_25 ?_
    refine lv_iload_n hx hb dX0_bind_28 rfl (lv_at hl 4 rfl) ?_
    refine lv_iload_n hx hb dX0_bind_29 rfl (lv_at hl 3 rfl) ?_
    refine va_iast (f := sF 1) hx hb hK hP hD hS 1 0 rfl rfl (by first | assumption | exact ho.in (by assumption)) dX0_bind_30 (fun H locs hP hD hS => ?_)
    have hP := k_cP (w_F_1 k af (p0) (l0) (k_st sF 4 (upd (sF 4) ((sF 1) i3.toNatClampNeg).toNatClampNeg (-9))) (upd (sF 1) i3.toNatClampNeg i2)) hP
    have hD := k_cD (w_F_1 k af (p0) (l0) (k_st sF 4 (upd (sF 4) ((sF 1) i3.toNatClampNeg).toNatClampNeg (-9))) (upd (sF 1) i3.toNatClampNeg i2)) hD
    refine lv_aload_n hx hb dX0_bind_31 rfl (lv_at hl 1 rfl) ?_
    refine va_get (D := k.1) (ci := 0) (v := .ref (af 4)) (C := RX0) (T := TX0) (N := 8) hx hb hts in_X0_bind_X0 hown hK hP 0 rfl rfl 6 (by decide) (k_w hts 2 rfl) (fun _ h9 => h9) rfl dX0_bind_32 ?_
    refine lv_iload_n hx hb dX0_bind_35 rfl (lv_at hl 3 rfl) ?_
    refine lv_iload_n hx hb dX0_bind_36 rfl (lv_at hl 4 rfl) ?_
    refine va_iast (f := upd (sF 4) ((sF 1) i3.toNatClampNeg).toNatClampNeg (-9)) hx hb hK hP hD hS 4 0 rfl rfl (by first | assumption | exact ho.in (by assumption)) dX0_bind_37 (fun H locs hP hD hS => ?_)
    have hP := k_cP (w_F_4 k af (p0) (l0) (k_st (k_st sF 4 (upd (sF 4) ((sF 1) i3.toNatClampNeg).toNatClampNeg (-9))) 1 (upd (sF 1) i3.toNatClampNeg i2)) (upd (upd (sF 4) ((sF 1) i3.toNatClampNeg).toNatClampNeg (-9)) i2.toNatClampNeg i3)) hP
    have hD := k_cD (w_F_4 k af (p0) (l0) (k_st (k_st sF 4 (upd (sF 4) ((sF 1) i3.toNatClampNeg).toNatClampNeg (-9))) 1 (upd (sF 1) i3.toNatClampNeg i2)) (upd (upd (sF 4) ((sF 1) i3.toNatClampNeg).toNatClampNeg (-9)) i2.toNatClampNeg i3)) hD
    refine lv_aload_n hx hb dX0_bind_38 rfl (lv_at hl 1 rfl) ?_
    refine va_get (D := k.1) (ci := 0) (v := .ref (af 2)) (C := RX0) (T := TX0) (N := 8) hx hb hts in_X0_bind_X0 hown hK hP 0 rfl rfl 4 (by decide) (k_w hts 3 rfl) (fun _ h9 => h9) rfl dX0_bind_39 ?_
    refine lv_iload_n hx hb dX0_bind_42 rfl (lv_at hl 4 rfl) ?_
    refine lv_iload hx hb dX0_bind_43 (lv_at hl 5 rfl) ?_
    refine va_iast (f := sF 2) hx hb hK hP hD hS 2 0 rfl rfl (by first | assumption | exact ho.in (by assumption)) dX0_bind_45 (fun H locs hP hD hS => ?_)
    have hP := k_cP (w_F_2 k af (p0) (l0) (k_st (k_st (k_st sF 4 (upd (sF 4) ((sF 1) i3.toNatClampNeg).toNatClampNeg (-9))) 1 (upd (sF 1) i3.toNatClampNeg i2)) 4 (upd (upd (sF 4) ((sF 1) i3.toNatClampNeg).toNatClampNeg (-9)) i2.toNatClampNeg i3)) (upd (sF 2) i3.toNatClampNeg i4)) hP
    have hD := k_cD (w_F_2 k af (p0) (l0) (k_st (k_st (k_st sF 4 (upd (sF 4) ((sF 1) i3.toNatClampNeg).toNatClampNeg (-9))) 1 (upd (sF 1) i3.toNatClampNeg i2)) 4 (upd (upd (sF 4) ((sF 1) i3.toNatClampNeg).toNatClampNeg (-9)) i2.toNatClampNeg i3)) (upd (sF 2) i3.toNatClampNeg i4)) hD
    refine lv_aload_n hx hb dX0_bind_46 rfl (lv_at hl 1 rfl) ?_
    refine va_get (D := k.1) (ci := 0) (v := .ref (af 3)) (C := RX0) (T := TX0) (N := 8) hx hb hts in_X0_bind_X0 hown hK hP 0 rfl rfl 5 (by decide) (k_w hts 4 rfl) (fun _ h9 => h9) rfl dX0_bind_47 ?_
    refine lv_iload_n hx hb dX0_bind_50 rfl (lv_at hl 4 rfl) ?_
    refine lv_iload_n hx hb dX0_bind_51 rfl (lv_at hl 2 rfl) ?_
    refine va_iast (f := sF 3) hx hb hK hP hD hS 3 0 rfl rfl (by first | assumption | exact ho.in (by assumption)) dX0_bind_52 (fun H locs hP hD hS => ?_)
    have hP := k_cP (w_F_3 k af (p0) (l0) (k_st (k_st (k_st (k_st sF 4 (upd (sF 4) ((sF 1) i3.toNatClampNeg).toNatClampNeg (-9))) 1 (upd (sF 1) i3.toNatClampNeg i2)) 4 (upd (upd (sF 4) ((sF 1) i3.toNatClampNeg).toNatClampNeg (-9)) i2.toNatClampNeg i3)) 2 (upd (sF 2) i3.toNatClampNeg i4)) (upd (sF 3) i3.toNatClampNeg i1)) hP
    have hD := k_cD (w_F_3 k af (p0) (l0) (k_st (k_st (k_st (k_st sF 4 (upd (sF 4) ((sF 1) i3.toNatClampNeg).toNatClampNeg (-9))) 1 (upd (sF 1) i3.toNatClampNeg i2)) 4 (upd (upd (sF 4) ((sF 1) i3.toNatClampNeg).toNatClampNeg (-9)) i2.toNatClampNeg i3)) 2 (upd (sF 2) i3.toNatClampNeg i4)) (upd (sF 3) i3.toNatClampNeg i1)) hD
    have ef : f_X0_bind sF i1 i2 i3 i4 = k_st (k_st (k_st (k_st (k_st sF 4 (upd (sF 4) ((sF 1) i3.toNatClampNeg).toNatClampNeg (-9))) 1 (upd (sF 1) i3.toNatClampNeg i2)) 4 (upd (upd (sF 4) ((sF 1) i3.toNatClampNeg).toNatClampNeg (-9)) i2.toNatClampNeg i3)) 2 (upd (sF 2) i3.toNatClampNeg i4)) 3 (upd (sF 3) i3.toNatClampNeg i1) := by
      rw [f_X0_bind, if_neg c_1]
    exact k_retv hx hb hr hK (by rw [ef]; exact hP) (by rw [ef]; exact hD) hS hlocks dX0_bind_53
theorem in_X0_wouldRather_X0 : ∀ w ∈ wsX00, w ∈ wsX0_wouldRather := fun _ h => List.mem_cons_of_mem _ (List.mem_append_left _ (List.mem_append_right _ h))
theorem in_X0_wouldRather_X2 : ∀ w ∈ wsX20, w ∈ wsX0_wouldRather := fun _ h => List.mem_cons_of_mem _ (List.mem_append_right _ h)
def f_X0_wouldRather (sP : Nat → Nat → Int32) (sF : Nat → Nat → Int32) (i1 : Int32) (i2 : Int32) (i3 : Int32) : Int32 :=
  if ((sF 4) i1.toNatClampNeg) = (-9) then 1
  else if (f_X2_likingAt sP i1 i2 i3) ≤ (f_X2_likingAt sP i1 ((sF 4) i1.toNatClampNeg) ((sF 2) ((sF 4) i1.toNatClampNeg).toNatClampNeg)) then 0
  else 1
set_option maxHeartbeats 4000000 in
set_option maxRecDepth 100000 in
theorem c_X0_wouldRather (l : Launch) (k : K_X) (ap : Nat → Nat) (af : Nat → Nat) (l0 : Nat) (sP : Nat → Nat → Int32) (sF : Nat → Nat → Int32) (i1 : Int32) (i2 : Int32) (i3 : Int32) (h1 : vp_in i1 10) (h2 : vp_in i2 10) (ho : k_o (sF 4 i1.toNatClampNeg) 10) : k_C l yX0_wouldRather wsX0_wouldRather (k_rm 2 46) k [.ref (af 0), .int i1, .int i2, .int i3] ((w_P k ap sP) ++ (w_F k af (ap 0) (l0) sF)) (k_qI k (f_X0_wouldRather sP sF i1 i2 i3) ((w_P k ap sP) ++ (w_F k af (ap 0) (l0) sF))) := by
  refine k_mk (cc := cX0_wouldRather) (maxL := 5) (ret := (some .boolean)) (by decide) rfl (Nat.le_of_ble_eq_true rfl) ?_
  intro p e s m below meth c A ls C0 hP hD hS hl
  obtain ⟨hx, hb, hr, hts, hown, hlocks, hml, hA, hK⟩ := id C0
  have hown : s.vm.findClass RX0 = some m.cls := hown
  have hl : lv_has ls 5 [(0, .ref (af 0)), (1, .int i1), (2, .int i2), (3, .int i3)] := hl
  refine lv_aload_n hx hb dX0_wouldRather_0 rfl (lv_at hl 0 rfl) ?_
  refine va_get (D := k.1) (ci := 0) (v := .ref (af 4)) (C := RX0) (T := TX0) (N := 8) hx hb hts in_X0_wouldRather_X0 hown hK hP 18 rfl rfl 6 (by decide) (k_w hts 1 rfl) (fun _ h9 => h9) rfl dX0_wouldRather_1 ?_
  refine lv_iload_n hx hb dX0_wouldRather_4 rfl (lv_at hl 1 rfl) ?_
  refine va_iald (f := sF 4) hx hb hK hP 22 0 rfl rfl (by first | assumption | exact ho.in (by assumption)) dX0_wouldRather_5 ?_
  refine lv_istore (lv' := [(4, .int ((sF 4) i1.toNatClampNeg)), (0, .ref (af 0)), (1, .int i1), (2, .int i2), (3, .int i3)]) hx hb dX0_wouldRather_6 hl (by decide) rfl (fun ls hl => ?_)
  refine lv_iload hx hb dX0_wouldRather_8 (lv_at hl 0 rfl) ?_
  refine lv_bipush (v := (-9)) hx hb dX0_wouldRather_10 (by decide) ?_
  refine lv_icmp_eq (tgt := 45) hx hb dX0_wouldRather_12 (by decide) (fun c_1 => ?_) (fun c_1 => ?_)
  ·
    refine lv_iconst (v := 1) hx hb dX0_wouldRather_45 (by decide) ?_
    refine lv_goto (tgt := 50) hx hb dX0_wouldRather_46 (by decide) ?_
    have ef : f_X0_wouldRather sP sF i1 i2 i3 = 1 := by
      rw [f_X0_wouldRather, if_pos c_1]
    exact k_retz hx hb hr (by decide) hK hP hD hS hlocks dX0_wouldRather_50 (by rw [ef])
  ·
    refine lv_aload_n hx hb dX0_wouldRather_15 rfl (lv_at hl 1 rfl) ?_
    refine va_get (D := k.1) (ci := 0) (v := .ref (ap 0)) (C := RX0) (T := TX0) (N := 8) hx hb hts in_X0_wouldRather_X0 hown hK hP 18 rfl rfl 0 (by decide) (k_w hts 2 rfl) (fun _ h9 => h9) rfl dX0_wouldRather_16 ?_
    refine lv_iload_n hx hb dX0_wouldRather_19 rfl (lv_at hl 2 rfl) ?_
    refine lv_iload hx hb dX0_wouldRather_20 (lv_at hl 0 rfl) ?_
    refine lv_aload_n hx hb dX0_wouldRather_22 rfl (lv_at hl 1 rfl) ?_
    refine va_get (D := k.1) (ci := 0) (v := .ref (af 2)) (C := RX0) (T := TX0) (N := 8) hx hb hts in_X0_wouldRather_X0 hown hK hP 18 rfl rfl 4 (by decide) (k_w hts 3 rfl) (fun _ h9 => h9) rfl dX0_wouldRather_23 ?_
    refine lv_iload hx hb dX0_wouldRather_26 (lv_at hl 0 rfl) ?_
    refine va_iald (f := sF 2) hx hb hK hP 20 0 rfl rfl (by first | assumption | exact ho.in (by assumption)) dX0_wouldRather_28 ?_
    refine k_Vi (wr := w_F k af (ap 0) (l0) sF) (ws' := (w_P k ap sP) ++ (w_F k af (ap 0) (l0) sF)) (Rv := (f_X2_likingAt sP i1 ((sF 4) i1.toNatClampNeg) ((sF 2) ((sF 4) i1.toNatClampNeg).toNatClampNeg))) (rest := []) ⟨hx, hb, hml, hown, hts⟩ hK hA hP hD hS (c_X2_likingAt l k ap sP i1 ((sF 4) i1.toNatClampNeg) ((sF 2) ((sF 4) i1.toNatClampNeg).toNatClampNeg) (by first | assumption | exact ho.in (by assumption)) (by first | assumption | exact ho.in (by assumption))) (cwV 3 hts gX0_wouldRather_X2_likingAt rfl rfl rfl (by decide +kernel) ⟨Nat.le_of_ble_eq_true rfl, Nat.le_of_ble_eq_true rfl⟩) (va_recv hK hP (ci := 2) (q0 := 0) rfl rfl) rfl hl.1 rfl (Nat.le_of_ble_eq_true rfl) dX0_wouldRather_29 (Nat.zero_le _) (Nat.zero_le _) [0, 1, 2, 3, 4, 5, 6, 7, 8, 9, 10, 11, 12, 13, 14, 15, 16, 17] [18, 19, 20, 21, 22, 23] [6, 7, 8, 9, 10, 11, 12, 13, 14, 15, 16, 17, 18, 19, 20, 21, 22, 23, 0, 1, 2, 3, 4, 5] rfl rfl rfl (by decide) rfl rfl rfl (fun H locs hP hD hS => ?_)
    refine lv_aload_n hx hb dX0_wouldRather_32 rfl (lv_at hl 1 rfl) ?_
    refine va_get (D := k.1) (ci := 0) (v := .ref (ap 0)) (C := RX0) (T := TX0) (N := 8) hx hb hts in_X0_wouldRather_X0 hown hK hP 18 rfl rfl 0 (by decide) (k_w hts 2 rfl) (fun _ h9 => h9) rfl dX0_wouldRather_33 ?_
    refine lv_iload_n hx hb dX0_wouldRather_36 rfl (lv_at hl 2 rfl) ?_
    refine lv_iload_n hx hb dX0_wouldRather_37 rfl (lv_at hl 3 rfl) ?_
    refine lv_iload_n hx hb dX0_wouldRather_38 rfl (lv_at hl 4 rfl) ?_
    refine k_Vi (wr := w_F k af (ap 0) (l0) sF) (ws' := (w_P k ap sP) ++ (w_F k af (ap 0) (l0) sF)) (Rv := (f_X2_likingAt sP i1 i2 i3)) (rest := [.int (f_X2_likingAt sP i1 ((sF 4) i1.toNatClampNeg) ((sF 2) ((sF 4) i1.toNatClampNeg).toNatClampNeg))]) ⟨hx, hb, hml, hown, hts⟩ hK hA hP hD hS (c_X2_likingAt l k ap sP i1 i2 i3 (by first | assumption | exact ho.in (by assumption)) (by first | assumption | exact ho.in (by assumption))) (cwV 3 hts gX0_wouldRather_X2_likingAt rfl rfl rfl (by decide +kernel) ⟨Nat.le_of_ble_eq_true rfl, Nat.le_of_ble_eq_true rfl⟩) (va_recv hK hP (ci := 2) (q0 := 0) rfl rfl) rfl hl.1 rfl (Nat.le_of_ble_eq_true rfl) dX0_wouldRather_39 (Nat.zero_le _) (Nat.zero_le _) [0, 1, 2, 3, 4, 5, 6, 7, 8, 9, 10, 11, 12, 13, 14, 15, 16, 17] [18, 19, 20, 21, 22, 23] [6, 7, 8, 9, 10, 11, 12, 13, 14, 15, 16, 17, 18, 19, 20, 21, 22, 23, 0, 1, 2, 3, 4, 5] rfl rfl rfl (by decide) rfl rfl rfl (fun H locs hP hD hS => ?_)
    refine lv_icmp_ge (tgt := 49) hx hb dX0_wouldRather_42 (by decide) (fun c_2 => ?_) (fun c_2 => ?_)
    ·
      refine lv_iconst (v := 0) hx hb dX0_wouldRather_49 (by decide) ?_
      have ef : f_X0_wouldRather sP sF i1 i2 i3 = 0 := by
        rw [f_X0_wouldRather, if_neg c_1, if_pos c_2]
      exact k_retz hx hb hr (by decide) hK hP hD hS hlocks dX0_wouldRather_50 (by rw [ef])
    ·
      refine lv_iconst (v := 1) hx hb dX0_wouldRather_45 (by decide) ?_
      refine lv_goto (tgt := 50) hx hb dX0_wouldRather_46 (by decide) ?_
      have ef : f_X0_wouldRather sP sF i1 i2 i3 = 1 := by
        rw [f_X0_wouldRather, if_neg c_1, if_neg c_2]
      exact k_retz hx hb hr (by decide) hK hP hD hS hlocks dX0_wouldRather_50 (by rw [ef])
theorem in_X0_isTorn_X0 : ∀ w ∈ wsX00, w ∈ wsX0_isTorn := fun _ h => List.mem_cons_of_mem _ (List.mem_append_left _ (List.mem_append_right _ h))
theorem in_X0_isTorn_X2 : ∀ w ∈ wsX20, w ∈ wsX0_isTorn := fun _ h => List.mem_cons_of_mem _ (List.mem_append_right _ h)
def f_X0_isTorn (sP : Nat → Nat → Int32) (sF : Nat → Nat → Int32) (i1 : Int32) (i2 : Int32) : Int32 :=
  if (f_X2_offerTo sP i2 i1) = (-9) then 0
  else if ((sF 1) i1.toNatClampNeg) = i2 then 0
  else if (f_X0_isBound sF i1) = 0 then (if (f_X0_wouldRather sP sF i2 i1 (f_X2_offerTo sP i2 i1)) = 0 then 0
    else 1)
  else if (f_X2_offerTo sP i2 i1) ≤ ((sF 2) i1.toNatClampNeg) then 0
  else if (f_X0_wouldRather sP sF i2 i1 (f_X2_offerTo sP i2 i1)) = 0 then 0
  else 1
set_option maxHeartbeats 4000000 in
set_option maxRecDepth 100000 in
theorem c_X0_isTorn (l : Launch) (k : K_X) (ap : Nat → Nat) (af : Nat → Nat) (l0 : Nat) (sP : Nat → Nat → Int32) (sF : Nat → Nat → Int32) (i1 : Int32) (i2 : Int32) (h1 : vp_in i1 10) (h2 : vp_in i2 10) (ho : k_o (sF 4 i2.toNatClampNeg) 10) : k_C l yX0_isTorn wsX0_isTorn (k_rm 3 70) k [.ref (af 0), .int i1, .int i2] ((w_P k ap sP) ++ (w_F k af (ap 0) (l0) sF)) (k_qI k (f_X0_isTorn sP sF i1 i2) ((w_P k ap sP) ++ (w_F k af (ap 0) (l0) sF))) := by
  refine k_mk (cc := cX0_isTorn) (maxL := 5) (ret := (some .boolean)) (by decide) rfl (Nat.le_of_ble_eq_true rfl) ?_
  intro p e s m below meth c A ls C0 hP hD hS hl
  obtain ⟨hx, hb, hr, hts, hown, hlocks, hml, hA, hK⟩ := id C0
  have hown : s.vm.findClass RX0 = some m.cls := hown
  have hl : lv_has ls 5 [(0, .ref (af 0)), (1, .int i1), (2, .int i2)] := hl
  refine lv_aload_n hx hb dX0_isTorn_0 rfl (lv_at hl 0 rfl) ?_
  refine va_get (D := k.1) (ci := 0) (v := .ref (ap 0)) (C := RX0) (T := TX0) (N := 8) hx hb hts in_X0_isTorn_X0 hown hK hP 18 rfl rfl 0 (by decide) (k_w hts 1 rfl) (fun _ h9 => h9) rfl dX0_isTorn_1 ?_
  refine lv_iload_n hx hb dX0_isTorn_4 rfl (lv_at hl 2 rfl) ?_
  refine lv_iload_n hx hb dX0_isTorn_5 rfl (lv_at hl 1 rfl) ?_
  refine k_Vi (wr := w_F k af (ap 0) (l0) sF) (ws' := (w_P k ap sP) ++ (w_F k af (ap 0) (l0) sF)) (Rv := (f_X2_offerTo sP i2 i1)) (rest := []) ⟨hx, hb, hml, hown, hts⟩ hK hA hP hD hS (c_X2_offerTo l k ap sP i2 i1 (by assumption) (by assumption)) (cwV 2 hts gX0_isTorn_X2_offerTo rfl rfl rfl (by decide +kernel) ⟨Nat.le_of_ble_eq_true rfl, Nat.le_of_ble_eq_true rfl⟩) (va_recv hK hP (ci := 2) (q0 := 0) rfl rfl) rfl hl.1 rfl (Nat.le_of_ble_eq_true rfl) dX0_isTorn_6 (Nat.zero_le _) (Nat.zero_le _) [0, 1, 2, 3, 4, 5, 6, 7, 8, 9, 10, 11, 12, 13, 14, 15, 16, 17] [18, 19, 20, 21, 22, 23] [6, 7, 8, 9, 10, 11, 12, 13, 14, 15, 16, 17, 18, 19, 20, 21, 22, 23, 0, 1, 2, 3, 4, 5] rfl rfl rfl (by decide) rfl rfl rfl (fun H locs hP hD hS => ?_)
  refine lv_istore_n (lv' := [(3, .int (f_X2_offerTo sP i2 i1)), (0, .ref (af 0)), (1, .int i1), (2, .int i2)]) hx hb dX0_isTorn_9 rfl hl (by decide) rfl (fun ls hl => ?_)
  refine lv_iload_n hx hb dX0_isTorn_10 rfl (lv_at hl 0 rfl) ?_
  refine lv_bipush (v := (-9)) hx hb dX0_isTorn_11 (by decide) ?_
  refine lv_icmp_eq (tgt := 26) hx hb dX0_isTorn_13 (by decide) (fun c_1 => ?_) (fun c_1 => ?_)
  ·
    refine lv_iconst (v := 0) hx hb dX0_isTorn_26 (by decide) ?_
    have ef : f_X0_isTorn sP sF i1 i2 = 0 := by
      rw [f_X0_isTorn, if_pos c_1]
    exact k_retz hx hb hr (by decide) hK hP hD hS hlocks dX0_isTorn_27 (by rw [ef])
  ·
    refine lv_aload_n hx hb dX0_isTorn_16 rfl (lv_at hl 1 rfl) ?_
    refine va_get (D := k.1) (ci := 0) (v := .ref (af 1)) (C := RX0) (T := TX0) (N := 8) hx hb hts in_X0_isTorn_X0 hown hK hP 18 rfl rfl 3 (by decide) (k_w hts 2 rfl) (fun _ h9 => h9) rfl dX0_isTorn_17 ?_
    refine lv_iload_n hx hb dX0_isTorn_20 rfl (lv_at hl 2 rfl) ?_
    refine va_iald (f := sF 1) hx hb hK hP 19 0 rfl rfl (by assumption) dX0_isTorn_21 ?_
    refine lv_iload_n hx hb dX0_isTorn_22 rfl (lv_at hl 3 rfl) ?_
    refine lv_icmp_ne (tgt := 28) hx hb dX0_isTorn_23 (by decide) (fun c_2 => ?_) (fun c_2 => ?_)
    ·
      refine lv_aload_n hx hb dX0_isTorn_28 rfl (lv_at hl 1 rfl) ?_
      refine lv_iload_n hx hb dX0_isTorn_29 rfl (lv_at hl 2 rfl) ?_
      refine k_Vi (wr := w_P k ap sP) (ws' := (w_P k ap sP) ++ (w_F k af (ap 0) (l0) sF)) (Rv := (f_X0_isBound sF i1)) (rest := []) ⟨hx, hb, hml, hown, hts⟩ hK hA hP hD hS (c_X0_isBound l k af (ap 0) (l0) sF i1 (by assumption)) (cwV 1 hts gX0_isTorn_X0_isBound rfl rfl rfl (by decide +kernel) ⟨Nat.le_of_ble_eq_true rfl, Nat.le_of_ble_eq_true rfl⟩) (va_recv hK hP (ci := 0) (q0 := 18) rfl rfl) rfl hl.1 rfl (Nat.le_of_ble_eq_true rfl) dX0_isTorn_30 (Nat.zero_le _) (Nat.zero_le _) [18, 19, 20, 21, 22, 23] [0, 1, 2, 3, 4, 5, 6, 7, 8, 9, 10, 11, 12, 13, 14, 15, 16, 17] [0, 1, 2, 3, 4, 5, 6, 7, 8, 9, 10, 11, 12, 13, 14, 15, 16, 17, 18, 19, 20, 21, 22, 23] rfl rfl rfl (by decide) rfl rfl rfl (fun H locs hP hD hS => ?_)
      refine lv_if_eq (tgt := 46) hx hb dX0_isTorn_33 (by decide) (fun c_3 => ?_) (fun c_3 => ?_)
      ·
        refine lv_iconst (v := 1) hx hb dX0_isTorn_46 (by decide) ?_
        refine lv_goto (tgt := 51) hx hb dX0_isTorn_47 (by decide) ?_
        refine lv_istore (lv' := [(4, .int 1), (3, .int (f_X2_offerTo sP i2 i1)), (0, .ref (af 0)), (1, .int i1), (2, .int i2)]) hx hb dX0_isTorn_51 hl (by decide) rfl (fun ls hl => ?_)
        refine lv_iload hx hb dX0_isTorn_53 (lv_at hl 0 rfl) ?_
        refine lv_if_eq (tgt := 72) hx hb dX0_isTorn_55 (by decide) (fun c_4 => ?_) (fun c_4 => ?_)
        · exact absurd c_4 (by decide)
        refine lv_aload_n hx hb dX0_isTorn_58 rfl (lv_at hl 2 rfl) ?_
        refine lv_iload_n hx hb dX0_isTorn_59 rfl (lv_at hl 4 rfl) ?_
        refine lv_iload_n hx hb dX0_isTorn_60 rfl (lv_at hl 3 rfl) ?_
        refine lv_iload_n hx hb dX0_isTorn_61 rfl (lv_at hl 1 rfl) ?_
        refine k_Vi (wr := ([] : va_W)) (ws' := (w_P k ap sP) ++ (w_F k af (ap 0) (l0) sF)) (Rv := (f_X0_wouldRather sP sF i2 i1 (f_X2_offerTo sP i2 i1))) (rest := []) ⟨hx, hb, hml, hown, hts⟩ hK hA hP hD hS (c_X0_wouldRather l k ap af (l0) sP sF i2 i1 (f_X2_offerTo sP i2 i1) (by assumption) (by assumption) (by assumption)) (cwV 3 hts gX0_isTorn_X0_wouldRather rfl rfl rfl (by decide +kernel) ⟨Nat.le_of_ble_eq_true rfl, Nat.le_of_ble_eq_true rfl⟩) (va_recv hK hP (ci := 0) (q0 := 18) rfl rfl) rfl hl.1 rfl (Nat.le_of_ble_eq_true rfl) dX0_isTorn_62 (Nat.zero_le _) (Nat.zero_le _) [0, 1, 2, 3, 4, 5, 6, 7, 8, 9, 10, 11, 12, 13, 14, 15, 16, 17, 18, 19, 20, 21, 22, 23] [] [0, 1, 2, 3, 4, 5, 6, 7, 8, 9, 10, 11, 12, 13, 14, 15, 16, 17, 18, 19, 20, 21, 22, 23] rfl rfl rfl (by decide) rfl rfl rfl (fun H locs hP hD hS => ?_)
        refine lv_if_eq (tgt := 72) hx hb dX0_isTorn_65 (by decide) (fun c_5 => ?_) (fun c_5 => ?_)
        ·
          refine lv_iconst (v := 0) hx hb dX0_isTorn_72 (by decide) ?_
          have ef : f_X0_isTorn sP sF i1 i2 = 0 := by
            rw [f_X0_isTorn, if_neg c_1, if_neg c_2, if_pos c_3, if_pos c_5]
          exact k_retz hx hb hr (by decide) hK hP hD hS hlocks dX0_isTorn_73 (by rw [ef])
        ·
          refine lv_iconst (v := 1) hx hb dX0_isTorn_68 (by decide) ?_
          refine lv_goto (tgt := 73) hx hb dX0_isTorn_69 (by decide) ?_
          have ef : f_X0_isTorn sP sF i1 i2 = 1 := by
            rw [f_X0_isTorn, if_neg c_1, if_neg c_2, if_pos c_3, if_neg c_5]
          exact k_retz hx hb hr (by decide) hK hP hD hS hlocks dX0_isTorn_73 (by rw [ef])
      ·
        refine lv_aload_n hx hb dX0_isTorn_36 rfl (lv_at hl 1 rfl) ?_
        refine va_get (D := k.1) (ci := 0) (v := .ref (af 2)) (C := RX0) (T := TX0) (N := 8) hx hb hts in_X0_isTorn_X0 hown hK hP 18 rfl rfl 4 (by decide) (k_w hts 3 rfl) (fun _ h9 => h9) rfl dX0_isTorn_37 ?_
        refine lv_iload_n hx hb dX0_isTorn_40 rfl (lv_at hl 2 rfl) ?_
        refine va_iald (f := sF 2) hx hb hK hP 20 0 rfl rfl (by assumption) dX0_isTorn_41 ?_
        refine lv_iload_n hx hb dX0_isTorn_42 rfl (lv_at hl 0 rfl) ?_
        refine lv_icmp_ge (tgt := 50) hx hb dX0_isTorn_43 (by decide) (fun c_6 => ?_) (fun c_6 => ?_)
        ·
          refine lv_iconst (v := 0) hx hb dX0_isTorn_50 (by decide) ?_
          refine lv_istore (lv' := [(4, .int 0), (3, .int (f_X2_offerTo sP i2 i1)), (0, .ref (af 0)), (1, .int i1), (2, .int i2)]) hx hb dX0_isTorn_51 hl (by decide) rfl (fun ls hl => ?_)
          refine lv_iload hx hb dX0_isTorn_53 (lv_at hl 0 rfl) ?_
          refine lv_if_eq (tgt := 72) hx hb dX0_isTorn_55 (by decide) (fun c_7 => ?_) (fun c_7 => ?_)
          rotate_left
          · exact absurd (by decide) c_7
          refine lv_iconst (v := 0) hx hb dX0_isTorn_72 (by decide) ?_
          have ef : f_X0_isTorn sP sF i1 i2 = 0 := by
            rw [f_X0_isTorn, if_neg c_1, if_neg c_2, if_neg c_3, if_pos c_6]
          exact k_retz hx hb hr (by decide) hK hP hD hS hlocks dX0_isTorn_73 (by rw [ef])
        ·
          refine lv_iconst (v := 1) hx hb dX0_isTorn_46 (by decide) ?_
          refine lv_goto (tgt := 51) hx hb dX0_isTorn_47 (by decide) ?_
          refine lv_istore (lv' := [(4, .int 1), (3, .int (f_X2_offerTo sP i2 i1)), (0, .ref (af 0)), (1, .int i1), (2, .int i2)]) hx hb dX0_isTorn_51 hl (by decide) rfl (fun ls hl => ?_)
          refine lv_iload hx hb dX0_isTorn_53 (lv_at hl 0 rfl) ?_
          refine lv_if_eq (tgt := 72) hx hb dX0_isTorn_55 (by decide) (fun c_8 => ?_) (fun c_8 => ?_)
          · exact absurd c_8 (by decide)
          refine lv_aload_n hx hb dX0_isTorn_58 rfl (lv_at hl 2 rfl) ?_
          refine lv_iload_n hx hb dX0_isTorn_59 rfl (lv_at hl 4 rfl) ?_
          refine lv_iload_n hx hb dX0_isTorn_60 rfl (lv_at hl 3 rfl) ?_
          refine lv_iload_n hx hb dX0_isTorn_61 rfl (lv_at hl 1 rfl) ?_
          refine k_Vi (wr := ([] : va_W)) (ws' := (w_P k ap sP) ++ (w_F k af (ap 0) (l0) sF)) (Rv := (f_X0_wouldRather sP sF i2 i1 (f_X2_offerTo sP i2 i1))) (rest := []) ⟨hx, hb, hml, hown, hts⟩ hK hA hP hD hS (c_X0_wouldRather l k ap af (l0) sP sF i2 i1 (f_X2_offerTo sP i2 i1) (by assumption) (by assumption) (by assumption)) (cwV 3 hts gX0_isTorn_X0_wouldRather rfl rfl rfl (by decide +kernel) ⟨Nat.le_of_ble_eq_true rfl, Nat.le_of_ble_eq_true rfl⟩) (va_recv hK hP (ci := 0) (q0 := 18) rfl rfl) rfl hl.1 rfl (Nat.le_of_ble_eq_true rfl) dX0_isTorn_62 (Nat.zero_le _) (Nat.zero_le _) [0, 1, 2, 3, 4, 5, 6, 7, 8, 9, 10, 11, 12, 13, 14, 15, 16, 17, 18, 19, 20, 21, 22, 23] [] [0, 1, 2, 3, 4, 5, 6, 7, 8, 9, 10, 11, 12, 13, 14, 15, 16, 17, 18, 19, 20, 21, 22, 23] rfl rfl rfl (by decide) rfl rfl rfl (fun H locs hP hD hS => ?_)
          refine lv_if_eq (tgt := 72) hx hb dX0_isTorn_65 (by decide) (fun c_9 => ?_) (fun c_9 => ?_)
          ·
            refine lv_iconst (v := 0) hx hb dX0_isTorn_72 (by decide) ?_
            have ef : f_X0_isTorn sP sF i1 i2 = 0 := by
              rw [f_X0_isTorn, if_neg c_1, if_neg c_2, if_neg c_3, if_neg c_6, if_pos c_9]
            exact k_retz hx hb hr (by decide) hK hP hD hS hlocks dX0_isTorn_73 (by rw [ef])
          ·
            refine lv_iconst (v := 1) hx hb dX0_isTorn_68 (by decide) ?_
            refine lv_goto (tgt := 73) hx hb dX0_isTorn_69 (by decide) ?_
            have ef : f_X0_isTorn sP sF i1 i2 = 1 := by
              rw [f_X0_isTorn, if_neg c_1, if_neg c_2, if_neg c_3, if_neg c_6, if_neg c_9]
            exact k_retz hx hb hr (by decide) hK hP hD hS hlocks dX0_isTorn_73 (by rw [ef])
    ·
      refine lv_iconst (v := 0) hx hb dX0_isTorn_26 (by decide) ?_
      have ef : f_X0_isTorn sP sF i1 i2 = 0 := by
        rw [f_X0_isTorn, if_neg c_1, if_pos c_2]
      exact k_retz hx hb hr (by decide) hK hP hD hS hlocks dX0_isTorn_27 (by rw [ef])
theorem in_X0_choiceOf_X0 : ∀ w ∈ wsX00, w ∈ wsX0_choiceOf := fun _ h => List.mem_cons_of_mem _ (List.mem_append_left _ (List.mem_append_right _ h))
theorem in_X0_choiceOf_X2 : ∀ w ∈ wsX20, w ∈ wsX0_choiceOf := fun _ h => List.mem_cons_of_mem _ (List.mem_append_right _ h)
def g_X0_choiceOf_lp (sP : Nat → Nat → Int32) (sF : Nat → Nat → Int32) (i1 : Int32) : Nat → Nat → Int32 → Int32 → Int32 × Int32
  | 0, j, a1, a2 => (a1, a2)
  | r + 1, j, a1, a2 => if (f_X2_offerTo sP i1 (nI j)) = (-9) then g_X0_choiceOf_lp sP sF i1 r (j + 1) a1 a2
    else if (f_X0_hasAsked sF i1 (nI j)) = 0 then (if a1 = (-9) then g_X0_choiceOf_lp sP sF i1 r (j + 1) (nI j) (f_X2_likingAt sP i1 (nI j) (f_X2_offerTo sP i1 (nI j)))
      else if (f_X2_likingAt sP i1 (nI j) (f_X2_offerTo sP i1 (nI j))) ≤ a2 then g_X0_choiceOf_lp sP sF i1 r (j + 1) a1 a2
      else g_X0_choiceOf_lp sP sF i1 r (j + 1) (nI j) (f_X2_likingAt sP i1 (nI j) (f_X2_offerTo sP i1 (nI j))))
    else g_X0_choiceOf_lp sP sF i1 r (j + 1) a1 a2
set_option maxHeartbeats 4000000 in
set_option maxRecDepth 100000 in
theorem lp_X0_choiceOf_lp {p : Program} {l : Launch} {e : Env} {s : State} {m : MethodId} {below : List Frame} {meth : Method} {c : Code} {A : Nat → Prop} {Q : State → Prop} {av : Array Value} (k : K_X) (ap : Nat → Nat) (af : Nat → Nat) (l0 : Nat) (sP : Nat → Nat → Int32) (sF : Nat → Nat → Int32) (i1 : Int32) (C0 : k_Cx p s m meth c k cX0_choiceOf (some .int) wsX0_choiceOf RX0 7 av A) (h1 : vp_in i1 10) (hNs : k_n (sP 0 0) 10) : ∀ (r j : Nat) (a1 : Int32) (a2 : Int32) (H : Heap) (locs : List Loc) (ls : Array Slot), j + r = (sP 0 0).toNatClampNeg → va_P k.1 vwCl ((w_P k ap sP) ++ (w_F k af (ap 0) (l0) sF)) H → va_D A ((w_P k ap sP) ++ (w_F k af (ap 0) (l0) sF)) → va_S A s.heap H locs → lv_has ls 7 [(0, .ref (af 0)), (1, .int i1), (2, .int a1), (3, .int a2), (4, .int (nI j))] → (∀ (H : Heap) (locs : List Loc) (ls : Array Slot), va_P k.1 vwCl ((w_P k ap sP) ++ (w_F k af (ap 0) (l0) sF)) H → va_D A ((w_P k ap sP) ++ (w_F k af (ap 0) (l0) sF)) → va_S A s.heap H locs → lv_has ls 7 [(0, .ref (af 0)), (1, .int i1), (2, .int ((g_X0_choiceOf_lp sP sF i1 r j a1 a2).1)), (3, .int ((g_X0_choiceOf_lp sP sF i1 r j a1 a2).2))] → W p l e (k_rm 2 46) s m av below meth c H locs 0 0 Q (F0 m 90 ls [])) → W p l e (k_rm 2 46) s m av below meth c H locs 0 0 Q (F0 m 8 ls []) := by
  obtain ⟨hx, hb, hr, hts, hown, hlocks, hml, hA, hK⟩ := id C0
  have hq := hNs.2
  intro r
  induction r with
  | zero =>
    intro j a1 a2 H locs ls hj hP hD hS hl hQ
    refine lv_iload hx hb dX0_choiceOf_8 (lv_at hl 4 rfl) ?_
    refine lv_aload_n hx hb dX0_choiceOf_10 rfl (lv_at hl 0 rfl) ?_
    refine va_get (D := k.1) (ci := 0) (v := .ref (ap 0)) (C := RX0) (T := TX0) (N := 8) hx hb hts in_X0_choiceOf_X0 hown hK hP 18 rfl rfl 0 (by decide) (k_w hts 1 rfl) (fun _ h9 => h9) rfl dX0_choiceOf_11 ?_
    refine va_get (D := k.1) (ci := 2) (v := .int (sP 0 0)) (C := RX2) (T := TX2) (N := 9) hx hb hts in_X0_choiceOf_X2 hown hK hP 0 rfl rfl 0 (by decide) (k_w hts 2 rfl) (fun _ h9 => h9) rfl dX0_choiceOf_14 ?_
    refine lv_icmp_ge (tgt := 90) hx hb dX0_choiceOf_17 (by decide) (fun c_1 => ?_) (fun c_1 => ?_)
    rotate_left
    · exact absurd (hNs.ge (by omega)) c_1
    have eg : g_X0_choiceOf_lp sP sF i1 0 j a1 a2 = (a1, a2) := by
      rw [g_X0_choiceOf_lp]
    rw [eg] at hQ
    exact hQ _ _ _ hP hD hS (lv_sub hl [0, 1, 2, 3] rfl)
  | succ r ih =>
    intro j a1 a2 H locs ls hj hP hD hS hl hQ
    refine lv_iload hx hb dX0_choiceOf_8 (lv_at hl 4 rfl) ?_
    refine lv_aload_n hx hb dX0_choiceOf_10 rfl (lv_at hl 0 rfl) ?_
    refine va_get (D := k.1) (ci := 0) (v := .ref (ap 0)) (C := RX0) (T := TX0) (N := 8) hx hb hts in_X0_choiceOf_X0 hown hK hP 18 rfl rfl 0 (by decide) (k_w hts 1 rfl) (fun _ h9 => h9) rfl dX0_choiceOf_11 ?_
    refine va_get (D := k.1) (ci := 2) (v := .int (sP 0 0)) (C := RX2) (T := TX2) (N := 9) hx hb hts in_X0_choiceOf_X2 hown hK hP 0 rfl rfl 0 (by decide) (k_w hts 2 rfl) (fun _ h9 => h9) rfl dX0_choiceOf_14 ?_
    refine lv_icmp_ge (tgt := 90) hx hb dX0_choiceOf_17 (by decide) (fun c_1 => ?_) (fun c_1 => ?_)
    · exact absurd c_1 (hNs.nge (by omega))
    refine lv_aload_n hx hb dX0_choiceOf_20 rfl (lv_at hl 0 rfl) ?_
    refine va_get (D := k.1) (ci := 0) (v := .ref (ap 0)) (C := RX0) (T := TX0) (N := 8) hx hb hts in_X0_choiceOf_X0 hown hK hP 18 rfl rfl 0 (by decide) (k_w hts 1 rfl) (fun _ h9 => h9) rfl dX0_choiceOf_21 ?_
    refine lv_iload_n hx hb dX0_choiceOf_24 rfl (lv_at hl 1 rfl) ?_
    refine lv_iload hx hb dX0_choiceOf_25 (lv_at hl 4 rfl) ?_
    refine k_Vi (wr := w_F k af (ap 0) (l0) sF) (ws' := (w_P k ap sP) ++ (w_F k af (ap 0) (l0) sF)) (Rv := (f_X2_offerTo sP i1 (nI j))) (rest := []) ⟨hx, hb, hml, hown, hts⟩ hK hA hP hD hS (c_X2_offerTo l k ap sP i1 (nI j) (by first | assumption | exact vp_in_nI (by omega) (by omega)) (by first | assumption | exact vp_in_nI (by omega) (by omega))) (cwV 2 hts gX0_choiceOf_X2_offerTo rfl rfl rfl (by decide +kernel) ⟨Nat.le_of_ble_eq_true rfl, Nat.le_of_ble_eq_true rfl⟩) (va_recv hK hP (ci := 2) (q0 := 0) rfl rfl) rfl hl.1 rfl (Nat.le_of_ble_eq_true rfl) dX0_choiceOf_27 (Nat.zero_le _) (Nat.zero_le _) [0, 1, 2, 3, 4, 5, 6, 7, 8, 9, 10, 11, 12, 13, 14, 15, 16, 17] [18, 19, 20, 21, 22, 23] [6, 7, 8, 9, 10, 11, 12, 13, 14, 15, 16, 17, 18, 19, 20, 21, 22, 23, 0, 1, 2, 3, 4, 5] rfl rfl rfl (by decide) rfl rfl rfl (fun H locs hP hD hS => ?_)
    refine lv_istore (lv' := [(5, .int (f_X2_offerTo sP i1 (nI j))), (0, .ref (af 0)), (1, .int i1), (2, .int a1), (3, .int a2), (4, .int (nI j))]) hx hb dX0_choiceOf_30 hl (by decide) rfl (fun ls hl => ?_)
    refine lv_iload hx hb dX0_choiceOf_32 (lv_at hl 0 rfl) ?_
    refine lv_bipush (v := (-9)) hx hb dX0_choiceOf_34 (by decide) ?_
    refine lv_icmp_eq (tgt := 84) hx hb dX0_choiceOf_36 (by decide) (fun c_2 => ?_) (fun c_2 => ?_)
    ·
      refine lv_iinc (v := nI (j + 1)) (lv' := [(4, .int (nI (j + 1))), (5, .int (f_X2_offerTo sP i1 (nI j))), (0, .ref (af 0)), (1, .int i1), (2, .int a1), (3, .int a2)]) hx hb dX0_choiceOf_84 hl (k := 5) rfl (nI_1 j) (by decide) rfl (fun ls hl => ?_)
      refine lv_goto (tgt := 8) hx hb dX0_choiceOf_87 (by decide) ?_
      have eg : g_X0_choiceOf_lp sP sF i1 (r + 1) j a1 a2 = g_X0_choiceOf_lp sP sF i1 r (j + 1) a1 a2 := by
        rw [g_X0_choiceOf_lp, if_pos c_2]
      rw [eg] at hQ
      exact ih (j + 1) a1 a2 _ _ _ (by omega) hP hD hS (lv_sub hl [2, 3, 4, 5, 0] rfl) hQ
    ·
      refine lv_aload_n hx hb dX0_choiceOf_39 rfl (lv_at hl 1 rfl) ?_
      refine lv_iload_n hx hb dX0_choiceOf_40 rfl (lv_at hl 2 rfl) ?_
      refine lv_iload hx hb dX0_choiceOf_41 (lv_at hl 5 rfl) ?_
      refine k_Vi (wr := w_P k ap sP) (ws' := (w_P k ap sP) ++ (w_F k af (ap 0) (l0) sF)) (Rv := (f_X0_hasAsked sF i1 (nI j))) (rest := []) ⟨hx, hb, hml, hown, hts⟩ hK hA hP hD hS (c_X0_hasAsked l k af (ap 0) (l0) sF i1 (nI j) (by assumption)) (cwV 2 hts gX0_choiceOf_X0_hasAsked rfl rfl rfl (by decide +kernel) ⟨Nat.le_of_ble_eq_true rfl, Nat.le_of_ble_eq_true rfl⟩) (va_recv hK hP (ci := 0) (q0 := 18) rfl rfl) rfl hl.1 rfl (Nat.le_of_ble_eq_true rfl) dX0_choiceOf_43 (Nat.zero_le _) (Nat.zero_le _) [18, 19, 20, 21, 22, 23] [0, 1, 2, 3, 4, 5, 6, 7, 8, 9, 10, 11, 12, 13, 14, 15, 16, 17] [0, 1, 2, 3, 4, 5, 6, 7, 8, 9, 10, 11, 12, 13, 14, 15, 16, 17, 18, 19, 20, 21, 22, 23] rfl rfl rfl (by decide) rfl rfl rfl (fun H locs hP hD hS => ?_)
      refine lv_if_eq (tgt := 52) hx hb dX0_choiceOf_46 (by decide) (fun c_3 => ?_) (fun c_3 => ?_)
      ·
        refine lv_aload_n hx hb dX0_choiceOf_52 rfl (lv_at hl 1 rfl) ?_
        refine va_get (D := k.1) (ci := 0) (v := .ref (ap 0)) (C := RX0) (T := TX0) (N := 8) hx hb hts in_X0_choiceOf_X0 hown hK hP 18 rfl rfl 0 (by decide) (k_w hts 1 rfl) (fun _ h9 => h9) rfl dX0_choiceOf_53 ?_
        refine lv_iload_n hx hb dX0_choiceOf_56 rfl (lv_at hl 2 rfl) ?_
        refine lv_iload hx hb dX0_choiceOf_57 (lv_at hl 5 rfl) ?_
        refine lv_iload hx hb dX0_choiceOf_59 (lv_at hl 0 rfl) ?_
        refine k_Vi (wr := w_F k af (ap 0) (l0) sF) (ws' := (w_P k ap sP) ++ (w_F k af (ap 0) (l0) sF)) (Rv := (f_X2_likingAt sP i1 (nI j) (f_X2_offerTo sP i1 (nI j)))) (rest := []) ⟨hx, hb, hml, hown, hts⟩ hK hA hP hD hS (c_X2_likingAt l k ap sP i1 (nI j) (f_X2_offerTo sP i1 (nI j)) (by first | assumption | exact vp_in_nI (by omega) (by omega)) (by first | assumption | exact vp_in_nI (by omega) (by omega))) (cwV 3 hts gX0_choiceOf_X2_likingAt rfl rfl rfl (by decide +kernel) ⟨Nat.le_of_ble_eq_true rfl, Nat.le_of_ble_eq_true rfl⟩) (va_recv hK hP (ci := 2) (q0 := 0) rfl rfl) rfl hl.1 rfl (Nat.le_of_ble_eq_true rfl) dX0_choiceOf_61 (Nat.zero_le _) (Nat.zero_le _) [0, 1, 2, 3, 4, 5, 6, 7, 8, 9, 10, 11, 12, 13, 14, 15, 16, 17] [18, 19, 20, 21, 22, 23] [6, 7, 8, 9, 10, 11, 12, 13, 14, 15, 16, 17, 18, 19, 20, 21, 22, 23, 0, 1, 2, 3, 4, 5] rfl rfl rfl (by decide) rfl rfl rfl (fun H locs hP hD hS => ?_)
        refine lv_istore (lv' := [(6, .int (f_X2_likingAt sP i1 (nI j) (f_X2_offerTo sP i1 (nI j)))), (5, .int (f_X2_offerTo sP i1 (nI j))), (0, .ref (af 0)), (1, .int i1), (2, .int a1), (3, .int a2), (4, .int (nI j))]) hx hb dX0_choiceOf_64 hl (by decide) rfl (fun ls hl => ?_)
        refine lv_iload_n hx hb dX0_choiceOf_66 rfl (lv_at hl 4 rfl) ?_
        refine lv_bipush (v := (-9)) hx hb dX0_choiceOf_67 (by decide) ?_
        refine lv_icmp_eq (tgt := 78) hx hb dX0_choiceOf_69 (by decide) (fun c_4 => ?_) (fun c_4 => ?_)
        ·
          refine lv_iload hx hb dX0_choiceOf_78 (lv_at hl 6 rfl) ?_
          refine lv_istore_n (lv' := [(2, .int (nI j)), (6, .int (f_X2_likingAt sP i1 (nI j) (f_X2_offerTo sP i1 (nI j)))), (5, .int (f_X2_offerTo sP i1 (nI j))), (0, .ref (af 0)), (1, .int i1), (3, .int a2), (4, .int (nI j))]) hx hb dX0_choiceOf_80 rfl hl (by decide) rfl (fun ls hl => ?_)
          refine lv_iload hx hb dX0_choiceOf_81 (lv_at hl 1 rfl) ?_
          refine lv_istore_n (lv' := [(3, .int (f_X2_likingAt sP i1 (nI j) (f_X2_offerTo sP i1 (nI j)))), (2, .int (nI j)), (6, .int (f_X2_likingAt sP i1 (nI j) (f_X2_offerTo sP i1 (nI j)))), (5, .int (f_X2_offerTo sP i1 (nI j))), (0, .ref (af 0)), (1, .int i1), (4, .int (nI j))]) hx hb dX0_choiceOf_83 rfl hl (by decide) rfl (fun ls hl => ?_)
          refine lv_iinc (v := nI (j + 1)) (lv' := [(4, .int (nI (j + 1))), (3, .int (f_X2_likingAt sP i1 (nI j) (f_X2_offerTo sP i1 (nI j)))), (2, .int (nI j)), (6, .int (f_X2_likingAt sP i1 (nI j) (f_X2_offerTo sP i1 (nI j)))), (5, .int (f_X2_offerTo sP i1 (nI j))), (0, .ref (af 0)), (1, .int i1)]) hx hb dX0_choiceOf_84 hl (k := 6) rfl (nI_1 j) (by decide) rfl (fun ls hl => ?_)
          refine lv_goto (tgt := 8) hx hb dX0_choiceOf_87 (by decide) ?_
          have eg : g_X0_choiceOf_lp sP sF i1 (r + 1) j a1 a2 = g_X0_choiceOf_lp sP sF i1 r (j + 1) (nI j) (f_X2_likingAt sP i1 (nI j) (f_X2_offerTo sP i1 (nI j))) := by
            rw [g_X0_choiceOf_lp, if_neg c_2, if_pos c_3, if_pos c_4]
          rw [eg] at hQ
          exact ih (j + 1) (nI j) (f_X2_likingAt sP i1 (nI j) (f_X2_offerTo sP i1 (nI j))) _ _ _ (by omega) hP hD hS (lv_sub hl [5, 6, 2, 1, 0] rfl) hQ
        ·
          refine lv_iload hx hb dX0_choiceOf_72 (lv_at hl 0 rfl) ?_
          refine lv_iload_n hx hb dX0_choiceOf_74 rfl (lv_at hl 5 rfl) ?_
          refine lv_icmp_le (tgt := 84) hx hb dX0_choiceOf_75 (by decide) (fun c_5 => ?_) (fun c_5 => ?_)
          ·
            refine lv_iinc (v := nI (j + 1)) (lv' := [(4, .int (nI (j + 1))), (6, .int (f_X2_likingAt sP i1 (nI j) (f_X2_offerTo sP i1 (nI j)))), (5, .int (f_X2_offerTo sP i1 (nI j))), (0, .ref (af 0)), (1, .int i1), (2, .int a1), (3, .int a2)]) hx hb dX0_choiceOf_84 hl (k := 6) rfl (nI_1 j) (by decide) rfl (fun ls hl => ?_)
            refine lv_goto (tgt := 8) hx hb dX0_choiceOf_87 (by decide) ?_
            have eg : g_X0_choiceOf_lp sP sF i1 (r + 1) j a1 a2 = g_X0_choiceOf_lp sP sF i1 r (j + 1) a1 a2 := by
              rw [g_X0_choiceOf_lp, if_neg c_2, if_pos c_3, if_neg c_4, if_pos c_5]
            rw [eg] at hQ
            exact ih (j + 1) a1 a2 _ _ _ (by omega) hP hD hS (lv_sub hl [3, 4, 5, 6, 0] rfl) hQ
          ·
            refine lv_iload hx hb dX0_choiceOf_78 (lv_at hl 6 rfl) ?_
            refine lv_istore_n (lv' := [(2, .int (nI j)), (6, .int (f_X2_likingAt sP i1 (nI j) (f_X2_offerTo sP i1 (nI j)))), (5, .int (f_X2_offerTo sP i1 (nI j))), (0, .ref (af 0)), (1, .int i1), (3, .int a2), (4, .int (nI j))]) hx hb dX0_choiceOf_80 rfl hl (by decide) rfl (fun ls hl => ?_)
            refine lv_iload hx hb dX0_choiceOf_81 (lv_at hl 1 rfl) ?_
            refine lv_istore_n (lv' := [(3, .int (f_X2_likingAt sP i1 (nI j) (f_X2_offerTo sP i1 (nI j)))), (2, .int (nI j)), (6, .int (f_X2_likingAt sP i1 (nI j) (f_X2_offerTo sP i1 (nI j)))), (5, .int (f_X2_offerTo sP i1 (nI j))), (0, .ref (af 0)), (1, .int i1), (4, .int (nI j))]) hx hb dX0_choiceOf_83 rfl hl (by decide) rfl (fun ls hl => ?_)
            refine lv_iinc (v := nI (j + 1)) (lv' := [(4, .int (nI (j + 1))), (3, .int (f_X2_likingAt sP i1 (nI j) (f_X2_offerTo sP i1 (nI j)))), (2, .int (nI j)), (6, .int (f_X2_likingAt sP i1 (nI j) (f_X2_offerTo sP i1 (nI j)))), (5, .int (f_X2_offerTo sP i1 (nI j))), (0, .ref (af 0)), (1, .int i1)]) hx hb dX0_choiceOf_84 hl (k := 6) rfl (nI_1 j) (by decide) rfl (fun ls hl => ?_)
            refine lv_goto (tgt := 8) hx hb dX0_choiceOf_87 (by decide) ?_
            have eg : g_X0_choiceOf_lp sP sF i1 (r + 1) j a1 a2 = g_X0_choiceOf_lp sP sF i1 r (j + 1) (nI j) (f_X2_likingAt sP i1 (nI j) (f_X2_offerTo sP i1 (nI j))) := by
              rw [g_X0_choiceOf_lp, if_neg c_2, if_pos c_3, if_neg c_4, if_neg c_5]
            rw [eg] at hQ
            exact ih (j + 1) (nI j) (f_X2_likingAt sP i1 (nI j) (f_X2_offerTo sP i1 (nI j))) _ _ _ (by omega) hP hD hS (lv_sub hl [5, 6, 2, 1, 0] rfl) hQ
      ·
        refine lv_goto (tgt := 84) hx hb dX0_choiceOf_49 (by decide) ?_
        refine lv_iinc (v := nI (j + 1)) (lv' := [(4, .int (nI (j + 1))), (5, .int (f_X2_offerTo sP i1 (nI j))), (0, .ref (af 0)), (1, .int i1), (2, .int a1), (3, .int a2)]) hx hb dX0_choiceOf_84 hl (k := 5) rfl (nI_1 j) (by decide) rfl (fun ls hl => ?_)
        refine lv_goto (tgt := 8) hx hb dX0_choiceOf_87 (by decide) ?_
        have eg : g_X0_choiceOf_lp sP sF i1 (r + 1) j a1 a2 = g_X0_choiceOf_lp sP sF i1 r (j + 1) a1 a2 := by
          rw [g_X0_choiceOf_lp, if_neg c_2, if_neg c_3]
        rw [eg] at hQ
        exact ih (j + 1) a1 a2 _ _ _ (by omega) hP hD hS (lv_sub hl [2, 3, 4, 5, 0] rfl) hQ
def f_X0_choiceOf (sP : Nat → Nat → Int32) (sF : Nat → Nat → Int32) (i1 : Int32) : Int32 :=
  (g_X0_choiceOf_lp sP sF i1 ((sP 0 0).toNatClampNeg) 0 (-9) 0).1
set_option maxHeartbeats 4000000 in
set_option maxRecDepth 100000 in
theorem c_X0_choiceOf (l : Launch) (k : K_X) (ap : Nat → Nat) (af : Nat → Nat) (l0 : Nat) (sP : Nat → Nat → Int32) (sF : Nat → Nat → Int32) (i1 : Int32) (h1 : vp_in i1 10) (hNs : k_n (sP 0 0) 10) : k_C l yX0_choiceOf wsX0_choiceOf (k_rm 2 46) k [.ref (af 0), .int i1] ((w_P k ap sP) ++ (w_F k af (ap 0) (l0) sF)) (k_qI k (f_X0_choiceOf sP sF i1) ((w_P k ap sP) ++ (w_F k af (ap 0) (l0) sF))) := by
  refine k_mk (cc := cX0_choiceOf) (maxL := 7) (ret := (some .int)) (by decide) rfl (Nat.le_of_ble_eq_true rfl) ?_
  intro p e s m below meth c A ls C0 hP hD hS hl
  obtain ⟨hx, hb, hr, hts, hown, hlocks, hml, hA, hK⟩ := id C0
  have hown : s.vm.findClass RX0 = some m.cls := hown
  have hl : lv_has ls 7 [(0, .ref (af 0)), (1, .int i1)] := hl
  refine lv_bipush (v := (-9)) hx hb dX0_choiceOf_0 (by decide) ?_
  refine lv_istore_n (lv' := [(2, .int (-9)), (0, .ref (af 0)), (1, .int i1)]) hx hb dX0_choiceOf_2 rfl hl (by decide) rfl (fun ls hl => ?_)
  refine lv_iconst (v := 0) hx hb dX0_choiceOf_3 (by decide) ?_
  refine lv_istore_n (lv' := [(3, .int 0), (2, .int (-9)), (0, .ref (af 0)), (1, .int i1)]) hx hb dX0_choiceOf_4 rfl hl (by decide) rfl (fun ls hl => ?_)
  refine lv_iconst (v := 0) hx hb dX0_choiceOf_5 (by decide) ?_
  refine lv_istore (lv' := [(4, .int 0), (3, .int 0), (2, .int (-9)), (0, .ref (af 0)), (1, .int i1)]) hx hb dX0_choiceOf_6 hl (by decide) rfl (fun ls hl => ?_)
  have hl : lv_has ls 7 [(0, .ref (af 0)), (1, .int i1), (2, .int (-9)), (3, .int 0), (4, .int (nI 0))] := lv_sub hl [3, 4, 2, 1, 0] rfl
  refine lp_X0_choiceOf_lp k ap af l0 sP sF i1 C0 (by assumption) (by assumption) ((sP 0 0).toNatClampNeg) 0 (-9) 0 _ _ _ (by omega) hP hD hS hl (fun H locs ls hP hD hS hl => ?_)
  refine lv_iload_n hx hb dX0_choiceOf_90 rfl (lv_at hl 2 rfl) ?_
  have ef : f_X0_choiceOf sP sF i1 = (g_X0_choiceOf_lp sP sF i1 ((sP 0 0).toNatClampNeg) 0 (-9) 0).1 := by
    rw [f_X0_choiceOf]
  exact k_reti hx hb hr hK hP hD hS hlocks dX0_choiceOf_91 (by rw [ef])
theorem in_X0_countBound_X0 : ∀ w ∈ wsX00, w ∈ wsX0_countBound := fun _ h => List.mem_cons_of_mem _ (List.mem_append_left _ (List.mem_append_right _ h))
theorem in_X0_countBound_X2 : ∀ w ∈ wsX20, w ∈ wsX0_countBound := fun _ h => List.mem_cons_of_mem _ (List.mem_append_right _ h)
def g_X0_countBound_lp (sP : Nat → Nat → Int32) (sF : Nat → Nat → Int32) : Nat → Nat → Int32 → Int32
  | 0, j, a1 => a1
  | r + 1, j, a1 => if (f_X0_isBound sF (nI j)) = 0 then g_X0_countBound_lp sP sF r (j + 1) a1
    else g_X0_countBound_lp sP sF r (j + 1) (a1 + 1)
set_option maxHeartbeats 4000000 in
set_option maxRecDepth 100000 in
theorem lp_X0_countBound_lp {p : Program} {l : Launch} {e : Env} {s : State} {m : MethodId} {below : List Frame} {meth : Method} {c : Code} {A : Nat → Prop} {Q : State → Prop} {av : Array Value} (k : K_X) (ap : Nat → Nat) (af : Nat → Nat) (l0 : Nat) (sP : Nat → Nat → Int32) (sF : Nat → Nat → Int32) (C0 : k_Cx p s m meth c k cX0_countBound (some .int) wsX0_countBound RX0 3 av A) (hNs : k_n (sP 0 0) 10) : ∀ (r j : Nat) (a1 : Int32) (H : Heap) (locs : List Loc) (ls : Array Slot), j + r = (sP 0 0).toNatClampNeg → va_P k.1 vwCl ((w_P k ap sP) ++ (w_F k af (ap 0) (l0) sF)) H → va_D A ((w_P k ap sP) ++ (w_F k af (ap 0) (l0) sF)) → va_S A s.heap H locs → lv_has ls 3 [(0, .ref (af 0)), (1, .int a1), (2, .int (nI j))] → (∀ (H : Heap) (locs : List Loc) (ls : Array Slot), va_P k.1 vwCl ((w_P k ap sP) ++ (w_F k af (ap 0) (l0) sF)) H → va_D A ((w_P k ap sP) ++ (w_F k af (ap 0) (l0) sF)) → va_S A s.heap H locs → lv_has ls 3 [(0, .ref (af 0)), (1, .int (g_X0_countBound_lp sP sF r j a1))] → W p l e (k_rm 1 21) s m av below meth c H locs 0 0 Q (F0 m 32 ls [])) → W p l e (k_rm 1 21) s m av below meth c H locs 0 0 Q (F0 m 4 ls []) := by
  obtain ⟨hx, hb, hr, hts, hown, hlocks, hml, hA, hK⟩ := id C0
  have hq := hNs.2
  intro r
  induction r with
  | zero =>
    intro j a1 H locs ls hj hP hD hS hl hQ
    refine lv_iload_n hx hb dX0_countBound_4 rfl (lv_at hl 2 rfl) ?_
    refine lv_aload_n hx hb dX0_countBound_5 rfl (lv_at hl 0 rfl) ?_
    refine va_get (D := k.1) (ci := 0) (v := .ref (ap 0)) (C := RX0) (T := TX0) (N := 8) hx hb hts in_X0_countBound_X0 hown hK hP 18 rfl rfl 0 (by decide) (k_w hts 1 rfl) (fun _ h9 => h9) rfl dX0_countBound_6 ?_
    refine va_get (D := k.1) (ci := 2) (v := .int (sP 0 0)) (C := RX2) (T := TX2) (N := 9) hx hb hts in_X0_countBound_X2 hown hK hP 0 rfl rfl 0 (by decide) (k_w hts 2 rfl) (fun _ h9 => h9) rfl dX0_countBound_9 ?_
    refine lv_icmp_ge (tgt := 32) hx hb dX0_countBound_12 (by decide) (fun c_1 => ?_) (fun c_1 => ?_)
    rotate_left
    · exact absurd (hNs.ge (by omega)) c_1
    have eg : g_X0_countBound_lp sP sF 0 j a1 = a1 := by
      rw [g_X0_countBound_lp]
    rw [eg] at hQ
    exact hQ _ _ _ hP hD hS (lv_sub hl [0, 1] rfl)
  | succ r ih =>
    intro j a1 H locs ls hj hP hD hS hl hQ
    refine lv_iload_n hx hb dX0_countBound_4 rfl (lv_at hl 2 rfl) ?_
    refine lv_aload_n hx hb dX0_countBound_5 rfl (lv_at hl 0 rfl) ?_
    refine va_get (D := k.1) (ci := 0) (v := .ref (ap 0)) (C := RX0) (T := TX0) (N := 8) hx hb hts in_X0_countBound_X0 hown hK hP 18 rfl rfl 0 (by decide) (k_w hts 1 rfl) (fun _ h9 => h9) rfl dX0_countBound_6 ?_
    refine va_get (D := k.1) (ci := 2) (v := .int (sP 0 0)) (C := RX2) (T := TX2) (N := 9) hx hb hts in_X0_countBound_X2 hown hK hP 0 rfl rfl 0 (by decide) (k_w hts 2 rfl) (fun _ h9 => h9) rfl dX0_countBound_9 ?_
    refine lv_icmp_ge (tgt := 32) hx hb dX0_countBound_12 (by decide) (fun c_1 => ?_) (fun c_1 => ?_)
    · exact absurd c_1 (hNs.nge (by omega))
    refine lv_aload_n hx hb dX0_countBound_15 rfl (lv_at hl 0 rfl) ?_
    refine lv_iload_n hx hb dX0_countBound_16 rfl (lv_at hl 2 rfl) ?_
    refine k_Vi (wr := w_P k ap sP) (ws' := (w_P k ap sP) ++ (w_F k af (ap 0) (l0) sF)) (Rv := (f_X0_isBound sF (nI j))) (rest := []) ⟨hx, hb, hml, hown, hts⟩ hK hA hP hD hS (c_X0_isBound l k af (ap 0) (l0) sF (nI j) (by first | assumption | exact vp_in_nI (by omega) (by omega))) (cwV 1 hts gX0_countBound_X0_isBound rfl rfl rfl (by decide +kernel) ⟨Nat.le_of_ble_eq_true rfl, Nat.le_of_ble_eq_true rfl⟩) (va_recv hK hP (ci := 0) (q0 := 18) rfl rfl) rfl hl.1 rfl (Nat.le_of_ble_eq_true rfl) dX0_countBound_17 (Nat.zero_le _) (Nat.zero_le _) [18, 19, 20, 21, 22, 23] [0, 1, 2, 3, 4, 5, 6, 7, 8, 9, 10, 11, 12, 13, 14, 15, 16, 17] [0, 1, 2, 3, 4, 5, 6, 7, 8, 9, 10, 11, 12, 13, 14, 15, 16, 17, 18, 19, 20, 21, 22, 23] rfl rfl rfl (by decide) rfl rfl rfl (fun H locs hP hD hS => ?_)
    refine lv_if_eq (tgt := 26) hx hb dX0_countBound_20 (by decide) (fun c_2 => ?_) (fun c_2 => ?_)
    ·
      refine lv_iinc (v := nI (j + 1)) (lv' := [(2, .int (nI (j + 1))), (0, .ref (af 0)), (1, .int a1)]) hx hb dX0_countBound_26 hl (k := 2) rfl (nI_1 j) (by decide) rfl (fun ls hl => ?_)
      refine lv_goto (tgt := 4) hx hb dX0_countBound_29 (by decide) ?_
      have eg : g_X0_countBound_lp sP sF (r + 1) j a1 = g_X0_countBound_lp sP sF r (j + 1) a1 := by
        rw [g_X0_countBound_lp, if_pos c_2]
      rw [eg] at hQ
      exact ih (j + 1) a1 _ _ _ (by omega) hP hD hS (lv_sub hl [1, 2, 0] rfl) hQ
    ·
      refine lv_iinc (v := a1 + 1) (lv' := [(1, .int (a1 + 1)), (0, .ref (af 0)), (2, .int (nI j))]) hx hb dX0_countBound_23 hl (k := 1) rfl rfl (by decide) rfl (fun ls hl => ?_)
      refine lv_iinc (v := nI (j + 1)) (lv' := [(2, .int (nI (j + 1))), (1, .int (a1 + 1)), (0, .ref (af 0))]) hx hb dX0_countBound_26 hl (k := 2) rfl (nI_1 j) (by decide) rfl (fun ls hl => ?_)
      refine lv_goto (tgt := 4) hx hb dX0_countBound_29 (by decide) ?_
      have eg : g_X0_countBound_lp sP sF (r + 1) j a1 = g_X0_countBound_lp sP sF r (j + 1) (a1 + 1) := by
        rw [g_X0_countBound_lp, if_neg c_2]
      rw [eg] at hQ
      exact ih (j + 1) (a1 + 1) _ _ _ (by omega) hP hD hS (lv_sub hl [2, 1, 0] rfl) hQ
def f_X0_countBound (sP : Nat → Nat → Int32) (sF : Nat → Nat → Int32) : Int32 :=
  g_X0_countBound_lp sP sF ((sP 0 0).toNatClampNeg) 0 0
set_option maxHeartbeats 4000000 in
set_option maxRecDepth 100000 in
theorem c_X0_countBound (l : Launch) (k : K_X) (ap : Nat → Nat) (af : Nat → Nat) (l0 : Nat) (sP : Nat → Nat → Int32) (sF : Nat → Nat → Int32) (hNs : k_n (sP 0 0) 10) : k_C l yX0_countBound wsX0_countBound (k_rm 1 21) k [.ref (af 0)] ((w_P k ap sP) ++ (w_F k af (ap 0) (l0) sF)) (k_qI k (f_X0_countBound sP sF) ((w_P k ap sP) ++ (w_F k af (ap 0) (l0) sF))) := by
  refine k_mk (cc := cX0_countBound) (maxL := 3) (ret := (some .int)) (by decide) rfl (Nat.le_of_ble_eq_true rfl) ?_
  intro p e s m below meth c A ls C0 hP hD hS hl
  obtain ⟨hx, hb, hr, hts, hown, hlocks, hml, hA, hK⟩ := id C0
  have hown : s.vm.findClass RX0 = some m.cls := hown
  have hl : lv_has ls 3 [(0, .ref (af 0))] := hl
  refine lv_iconst (v := 0) hx hb dX0_countBound_0 (by decide) ?_
  refine lv_istore_n (lv' := [(1, .int 0), (0, .ref (af 0))]) hx hb dX0_countBound_1 rfl hl (by decide) rfl (fun ls hl => ?_)
  refine lv_iconst (v := 0) hx hb dX0_countBound_2 (by decide) ?_
  refine lv_istore_n (lv' := [(2, .int 0), (1, .int 0), (0, .ref (af 0))]) hx hb dX0_countBound_3 rfl hl (by decide) rfl (fun ls hl => ?_)
  have hl : lv_has ls 3 [(0, .ref (af 0)), (1, .int 0), (2, .int (nI 0))] := lv_sub hl [2, 1, 0] rfl
  refine lp_X0_countBound_lp k ap af l0 sP sF C0 (by assumption) ((sP 0 0).toNatClampNeg) 0 0 _ _ _ (by omega) hP hD hS hl (fun H locs ls hP hD hS hl => ?_)
  refine lv_iload_n hx hb dX0_countBound_32 rfl (lv_at hl 1 rfl) ?_
  have ef : f_X0_countBound sP sF = g_X0_countBound_lp sP sF ((sP 0 0).toNatClampNeg) 0 0 := by
    rw [f_X0_countBound]
  exact k_reti hx hb hr hK hP hD hS hlocks dX0_countBound_33 (by rw [ef])
theorem in_X0_sumWages_X0 : ∀ w ∈ wsX00, w ∈ wsX0_sumWages := fun _ h => List.mem_cons_of_mem _ (List.mem_append_left _ (List.mem_append_right _ h))
theorem in_X0_sumWages_X2 : ∀ w ∈ wsX20, w ∈ wsX0_sumWages := fun _ h => List.mem_cons_of_mem _ (List.mem_append_right _ h)
def g_X0_sumWages_lp (sP : Nat → Nat → Int32) (sF : Nat → Nat → Int32) : Nat → Nat → Int32 → Int32
  | 0, j, a1 => a1
  | r + 1, j, a1 => if (f_X0_isBound sF (nI j)) = 0 then g_X0_sumWages_lp sP sF r (j + 1) a1
    else g_X0_sumWages_lp sP sF r (j + 1) (a1 + ((sF 2) (nI j).toNatClampNeg))
set_option maxHeartbeats 4000000 in
set_option maxRecDepth 100000 in
theorem lp_X0_sumWages_lp {p : Program} {l : Launch} {e : Env} {s : State} {m : MethodId} {below : List Frame} {meth : Method} {c : Code} {A : Nat → Prop} {Q : State → Prop} {av : Array Value} (k : K_X) (ap : Nat → Nat) (af : Nat → Nat) (l0 : Nat) (sP : Nat → Nat → Int32) (sF : Nat → Nat → Int32) (C0 : k_Cx p s m meth c k cX0_sumWages (some .int) wsX0_sumWages RX0 3 av A) (hNs : k_n (sP 0 0) 10) : ∀ (r j : Nat) (a1 : Int32) (H : Heap) (locs : List Loc) (ls : Array Slot), j + r = (sP 0 0).toNatClampNeg → va_P k.1 vwCl ((w_P k ap sP) ++ (w_F k af (ap 0) (l0) sF)) H → va_D A ((w_P k ap sP) ++ (w_F k af (ap 0) (l0) sF)) → va_S A s.heap H locs → lv_has ls 3 [(0, .ref (af 0)), (1, .int a1), (2, .int (nI j))] → (∀ (H : Heap) (locs : List Loc) (ls : Array Slot), va_P k.1 vwCl ((w_P k ap sP) ++ (w_F k af (ap 0) (l0) sF)) H → va_D A ((w_P k ap sP) ++ (w_F k af (ap 0) (l0) sF)) → va_S A s.heap H locs → lv_has ls 3 [(0, .ref (af 0)), (1, .int (g_X0_sumWages_lp sP sF r j a1))] → W p l e (k_rm 1 21) s m av below meth c H locs 0 0 Q (F0 m 38 ls [])) → W p l e (k_rm 1 21) s m av below meth c H locs 0 0 Q (F0 m 4 ls []) := by
  obtain ⟨hx, hb, hr, hts, hown, hlocks, hml, hA, hK⟩ := id C0
  have hq := hNs.2
  intro r
  induction r with
  | zero =>
    intro j a1 H locs ls hj hP hD hS hl hQ
    refine lv_iload_n hx hb dX0_sumWages_4 rfl (lv_at hl 2 rfl) ?_
    refine lv_aload_n hx hb dX0_sumWages_5 rfl (lv_at hl 0 rfl) ?_
    refine va_get (D := k.1) (ci := 0) (v := .ref (ap 0)) (C := RX0) (T := TX0) (N := 8) hx hb hts in_X0_sumWages_X0 hown hK hP 18 rfl rfl 0 (by decide) (k_w hts 1 rfl) (fun _ h9 => h9) rfl dX0_sumWages_6 ?_
    refine va_get (D := k.1) (ci := 2) (v := .int (sP 0 0)) (C := RX2) (T := TX2) (N := 9) hx hb hts in_X0_sumWages_X2 hown hK hP 0 rfl rfl 0 (by decide) (k_w hts 2 rfl) (fun _ h9 => h9) rfl dX0_sumWages_9 ?_
    refine lv_icmp_ge (tgt := 38) hx hb dX0_sumWages_12 (by decide) (fun c_1 => ?_) (fun c_1 => ?_)
    rotate_left
    · exact absurd (hNs.ge (by omega)) c_1
    have eg : g_X0_sumWages_lp sP sF 0 j a1 = a1 := by
      rw [g_X0_sumWages_lp]
    rw [eg] at hQ
    exact hQ _ _ _ hP hD hS (lv_sub hl [0, 1] rfl)
  | succ r ih =>
    intro j a1 H locs ls hj hP hD hS hl hQ
    refine lv_iload_n hx hb dX0_sumWages_4 rfl (lv_at hl 2 rfl) ?_
    refine lv_aload_n hx hb dX0_sumWages_5 rfl (lv_at hl 0 rfl) ?_
    refine va_get (D := k.1) (ci := 0) (v := .ref (ap 0)) (C := RX0) (T := TX0) (N := 8) hx hb hts in_X0_sumWages_X0 hown hK hP 18 rfl rfl 0 (by decide) (k_w hts 1 rfl) (fun _ h9 => h9) rfl dX0_sumWages_6 ?_
    refine va_get (D := k.1) (ci := 2) (v := .int (sP 0 0)) (C := RX2) (T := TX2) (N := 9) hx hb hts in_X0_sumWages_X2 hown hK hP 0 rfl rfl 0 (by decide) (k_w hts 2 rfl) (fun _ h9 => h9) rfl dX0_sumWages_9 ?_
    refine lv_icmp_ge (tgt := 38) hx hb dX0_sumWages_12 (by decide) (fun c_1 => ?_) (fun c_1 => ?_)
    · exact absurd c_1 (hNs.nge (by omega))
    refine lv_aload_n hx hb dX0_sumWages_15 rfl (lv_at hl 0 rfl) ?_
    refine lv_iload_n hx hb dX0_sumWages_16 rfl (lv_at hl 2 rfl) ?_
    refine k_Vi (wr := w_P k ap sP) (ws' := (w_P k ap sP) ++ (w_F k af (ap 0) (l0) sF)) (Rv := (f_X0_isBound sF (nI j))) (rest := []) ⟨hx, hb, hml, hown, hts⟩ hK hA hP hD hS (c_X0_isBound l k af (ap 0) (l0) sF (nI j) (by first | assumption | exact vp_in_nI (by omega) (by omega))) (cwV 1 hts gX0_sumWages_X0_isBound rfl rfl rfl (by decide +kernel) ⟨Nat.le_of_ble_eq_true rfl, Nat.le_of_ble_eq_true rfl⟩) (va_recv hK hP (ci := 0) (q0 := 18) rfl rfl) rfl hl.1 rfl (Nat.le_of_ble_eq_true rfl) dX0_sumWages_17 (Nat.zero_le _) (Nat.zero_le _) [18, 19, 20, 21, 22, 23] [0, 1, 2, 3, 4, 5, 6, 7, 8, 9, 10, 11, 12, 13, 14, 15, 16, 17] [0, 1, 2, 3, 4, 5, 6, 7, 8, 9, 10, 11, 12, 13, 14, 15, 16, 17, 18, 19, 20, 21, 22, 23] rfl rfl rfl (by decide) rfl rfl rfl (fun H locs hP hD hS => ?_)
    refine lv_if_eq (tgt := 32) hx hb dX0_sumWages_20 (by decide) (fun c_2 => ?_) (fun c_2 => ?_)
    ·
      refine lv_iinc (v := nI (j + 1)) (lv' := [(2, .int (nI (j + 1))), (0, .ref (af 0)), (1, .int a1)]) hx hb dX0_sumWages_32 hl (k := 2) rfl (nI_1 j) (by decide) rfl (fun ls hl => ?_)
      refine lv_goto (tgt := 4) hx hb dX0_sumWages_35 (by decide) ?_
      have eg : g_X0_sumWages_lp sP sF (r + 1) j a1 = g_X0_sumWages_lp sP sF r (j + 1) a1 := by
        rw [g_X0_sumWages_lp, if_pos c_2]
      rw [eg] at hQ
      exact ih (j + 1) a1 _ _ _ (by omega) hP hD hS (lv_sub hl [1, 2, 0] rfl) hQ
    ·
      refine lv_iload_n hx hb dX0_sumWages_23 rfl (lv_at hl 1 rfl) ?_
      refine lv_aload_n hx hb dX0_sumWages_24 rfl (lv_at hl 0 rfl) ?_
      refine va_get (D := k.1) (ci := 0) (v := .ref (af 2)) (C := RX0) (T := TX0) (N := 8) hx hb hts in_X0_sumWages_X0 hown hK hP 18 rfl rfl 4 (by decide) (k_w hts 3 rfl) (fun _ h9 => h9) rfl dX0_sumWages_25 ?_
      refine lv_iload_n hx hb dX0_sumWages_28 rfl (lv_at hl 2 rfl) ?_
      refine va_iald (f := sF 2) hx hb hK hP 20 0 rfl rfl (vp_in_nI (by omega) (by omega)) dX0_sumWages_29 ?_
      refine lv_iadd hx hb dX0_sumWages_30 ?_
      refine lv_istore_n (lv' := [(1, .int (a1 + ((sF 2) (nI j).toNatClampNeg))), (0, .ref (af 0)), (2, .int (nI j))]) hx hb dX0_sumWages_31 rfl hl (by decide) rfl (fun ls hl => ?_)
      refine lv_iinc (v := nI (j + 1)) (lv' := [(2, .int (nI (j + 1))), (1, .int (a1 + ((sF 2) (nI j).toNatClampNeg))), (0, .ref (af 0))]) hx hb dX0_sumWages_32 hl (k := 2) rfl (nI_1 j) (by decide) rfl (fun ls hl => ?_)
      refine lv_goto (tgt := 4) hx hb dX0_sumWages_35 (by decide) ?_
      have eg : g_X0_sumWages_lp sP sF (r + 1) j a1 = g_X0_sumWages_lp sP sF r (j + 1) (a1 + ((sF 2) (nI j).toNatClampNeg)) := by
        rw [g_X0_sumWages_lp, if_neg c_2]
      rw [eg] at hQ
      exact ih (j + 1) (a1 + ((sF 2) (nI j).toNatClampNeg)) _ _ _ (by omega) hP hD hS (lv_sub hl [2, 1, 0] rfl) hQ
def f_X0_sumWages (sP : Nat → Nat → Int32) (sF : Nat → Nat → Int32) : Int32 :=
  g_X0_sumWages_lp sP sF ((sP 0 0).toNatClampNeg) 0 0
set_option maxHeartbeats 4000000 in
set_option maxRecDepth 100000 in
theorem c_X0_sumWages (l : Launch) (k : K_X) (ap : Nat → Nat) (af : Nat → Nat) (l0 : Nat) (sP : Nat → Nat → Int32) (sF : Nat → Nat → Int32) (hNs : k_n (sP 0 0) 10) : k_C l yX0_sumWages wsX0_sumWages (k_rm 1 21) k [.ref (af 0)] ((w_P k ap sP) ++ (w_F k af (ap 0) (l0) sF)) (k_qI k (f_X0_sumWages sP sF) ((w_P k ap sP) ++ (w_F k af (ap 0) (l0) sF))) := by
  refine k_mk (cc := cX0_sumWages) (maxL := 3) (ret := (some .int)) (by decide) rfl (Nat.le_of_ble_eq_true rfl) ?_
  intro p e s m below meth c A ls C0 hP hD hS hl
  obtain ⟨hx, hb, hr, hts, hown, hlocks, hml, hA, hK⟩ := id C0
  have hown : s.vm.findClass RX0 = some m.cls := hown
  have hl : lv_has ls 3 [(0, .ref (af 0))] := hl
  refine lv_iconst (v := 0) hx hb dX0_sumWages_0 (by decide) ?_
  refine lv_istore_n (lv' := [(1, .int 0), (0, .ref (af 0))]) hx hb dX0_sumWages_1 rfl hl (by decide) rfl (fun ls hl => ?_)
  refine lv_iconst (v := 0) hx hb dX0_sumWages_2 (by decide) ?_
  refine lv_istore_n (lv' := [(2, .int 0), (1, .int 0), (0, .ref (af 0))]) hx hb dX0_sumWages_3 rfl hl (by decide) rfl (fun ls hl => ?_)
  have hl : lv_has ls 3 [(0, .ref (af 0)), (1, .int 0), (2, .int (nI 0))] := lv_sub hl [2, 1, 0] rfl
  refine lp_X0_sumWages_lp k ap af l0 sP sF C0 (by assumption) ((sP 0 0).toNatClampNeg) 0 0 _ _ _ (by omega) hP hD hS hl (fun H locs ls hP hD hS hl => ?_)
  refine lv_iload_n hx hb dX0_sumWages_38 rfl (lv_at hl 1 rfl) ?_
  have ef : f_X0_sumWages sP sF = g_X0_sumWages_lp sP sF ((sP 0 0).toNatClampNeg) 0 0 := by
    rw [f_X0_sumWages]
  exact k_reti hx hb hr hK hP hD hS hlocks dX0_sumWages_39 (by rw [ef])
end
