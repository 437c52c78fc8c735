/-! bits of an int, of a long -/
def bt (x : Int32) (s : Nat) : Bool := x.toBitVec.toNat.testBit s
theorem bt_and (x y : Int32) (s : Nat) : bt (x &&& y) s = (bt x s && bt y s) := by
  unfold bt; rw [Int32.toBitVec_and, BitVec.toNat_and, Nat.testBit_and]
theorem bt_or (x y : Int32) (s : Nat) : bt (x ||| y) s = (bt x s || bt y s) := by
  unfold bt; rw [Int32.toBitVec_or, BitVec.toNat_or, Nat.testBit_or]
theorem bt_xor (x y : Int32) (s : Nat) : bt (x ^^^ y) s = (bt x s ^^ bt y s) := by
  unfold bt; rw [Int32.toBitVec_xor, BitVec.toNat_xor, Nat.testBit_xor]
theorem bt_0 (s : Nat) : bt 0 s = false := by
  unfold bt
  rw [show (0 : Int32).toBitVec.toNat = 0 from rfl]
  exact Nat.zero_testBit s
theorem bt_pow {s : Nat} (hs : s < 10) : ((1 : Int32) <<< (nI s &&& 31)).toBitVec.toNat = 2 ^ s := by
  rcases (show s = 0 ∨ s = 1 ∨ s = 2 ∨ s = 3 ∨ s = 4 ∨ s = 5 ∨ s = 6 ∨ s = 7 ∨ s = 8 ∨ s = 9 by omega) with rfl | rfl | rfl | rfl | rfl | rfl | rfl | rfl | rfl | rfl <;> decide +kernel
theorem bt_one {s : Nat} (hs : s < 10) (i : Nat) : bt ((1 : Int32) <<< (nI s &&& 31)) i = decide (s = i) := by
  unfold bt; rw [bt_pow hs, Nat.testBit_two_pow]
theorem bt_m1 (i : Nat) : bt (-1) i = decide (i < 32) := by
  unfold bt
  rw [show (-1 : Int32).toBitVec.toNat = 2 ^ 32 - 1 from by decide +kernel, Nat.testBit_two_pow_sub_one]
theorem bt_ext {x y : Int32} (h : ∀ i, bt x i = bt y i) : x = y :=
  Int32.toBitVec_inj.mp (BitVec.eq_of_toNat_eq (Nat.eq_of_testBit_eq h))
theorem bt_test {x : Int32} {s : Nat} (hs : s < 10) : (x &&& ((1 : Int32) <<< (nI s &&& 31))) = 0 ↔ bt x s = false := by
  constructor
  · intro h
    have := congrArg (fun z => bt z s) h
    simp only [bt_and, bt_one hs, bt_0, decide_true, Bool.and_true] at this
    exact this
  · intro h
    refine bt_ext fun i => ?_
    rw [bt_and, bt_one hs, bt_0]
    by_cases e : s = i
    · subst e; simp [h]
    · simp [e]
theorem bt_set {x : Int32} {s i : Nat} (hs : s < 10) : bt (x ||| ((1 : Int32) <<< (nI s &&& 31))) i = (bt x i || decide (s = i)) := by rw [bt_or, bt_one hs]
theorem bt_clr {x : Int32} {s i : Nat} (hs : s < 10) (hi : i < 32) : bt (x &&& (((1 : Int32) <<< (nI s &&& 31)) ^^^ (-1))) i = (bt x i && !decide (s = i)) := by
  rw [bt_and, bt_xor, bt_one hs, bt_m1]
  simp [hi]
def btl (x : Int64) (s : Nat) : Bool := x.toBitVec.toNat.testBit s
theorem btl_and (x y : Int64) (s : Nat) : btl (x &&& y) s = (btl x s && btl y s) := by
  unfold btl; rw [Int64.toBitVec_and, BitVec.toNat_and, Nat.testBit_and]
theorem btl_or (x y : Int64) (s : Nat) : btl (x ||| y) s = (btl x s || btl y s) := by
  unfold btl; rw [Int64.toBitVec_or, BitVec.toNat_or, Nat.testBit_or]
theorem btl_0 (s : Nat) : btl 0 s = false := by
  unfold btl
  rw [show (0 : Int64).toBitVec.toNat = 0 from rfl]
  exact Nat.zero_testBit s
theorem btl_ext {x y : Int64} (h : ∀ i, btl x i = btl y i) : x = y :=
  Int64.toBitVec_inj.mp (BitVec.eq_of_toNat_eq (Nat.eq_of_testBit_eq h))
set_option maxRecDepth 20000 in
theorem day_pow : ∀ d, d < 364 → (f_X3_dayBit (nI d)).toBitVec.toNat = 2 ^ (d % 64) := by decide +kernel
theorem day_one {d : Nat} (hd : d < 364) (i : Nat) : btl (f_X3_dayBit (nI d)) i = decide (d % 64 = i) := by
  unfold btl; rw [day_pow d hd, Nat.testBit_two_pow]
theorem day_test {x : Int64} {d : Nat} (hd : d < 364) : (lg_cmp (x &&& (f_X3_dayBit (nI d))) 0) = 0 ↔ btl x (d % 64) = false := by
  rw [lg_cmp_eq]
  constructor
  · intro h
    have := congrArg (fun z => btl z (d % 64)) h
    simp only [btl_and, day_one hd, btl_0, decide_true, Bool.and_true] at this
    exact this
  · intro h
    refine btl_ext fun i => ?_
    rw [btl_and, day_one hd, btl_0]
    by_cases e : d % 64 = i
    · subst e; simp [h]
    · simp [e]
theorem k_wordn {s d : Nat} (hs : s < 10) (hd : d < 364) : (f_X3_wordOf (nI s) (nI d)).toNatClampNeg = 6 * s + d / 64 := by
  unfold f_X3_wordOf
  rw [show (6 : Int32) = nI 6 from rfl, show (64 : Int32) = nI 64 from rfl, pk_mul, pk_div (by omega) (by omega) (by omega), nI_add, nI_clamp (by omega)]
  omega
