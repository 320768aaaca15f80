theorem ts_bit {w : Int64} {s : UInt64} {j : Nat} (hj : j < 64) (hs : s.toNat = j) : ((w.toUInt64 >>> s).toInt64 &&& 1) = 0 ↔ w.toBitVec.getLsbD j = false := by
  have e : (w.toUInt64 >>> s).toInt64.toBitVec = w.toBitVec >>> j := by
    apply BitVec.eq_of_toNat_eq
    show (w.toUInt64 >>> s).toNat = _
    rw [UInt64.toNat_shiftRight, hs, Nat.mod_eq_of_lt hj, BitVec.toNat_ushiftRight]
    rfl
  rw [← Int64.toBitVec_inj, Int64.toBitVec_and, e]
  show w.toBitVec >>> j &&& 1#64 = 0#64 ↔ _
  constructor
  · intro h
    have t := congrArg (fun x => x.getLsbD 0) h
    simpa using t
  · intro h
    apply BitVec.eq_of_getLsbD_eq
    intro i hi
    cases i with
    | zero => simp [h]
    | succ i => simp
theorem wb_tb (n : Nat) : (lN n).toBitVec = BitVec.ofNat 64 n := rfl
theorem wb_inj {a b : Int64} (h : a.toBitVec = b.toBitVec) : a = b := Int64.toBitVec_inj.mp h
theorem wb_tn {n : Nat} (h : n < 2 ^ 64) : (lN n).toBitVec.toNat = n := by rw [wb_tb, BitVec.toNat_ofNat, Nat.mod_eq_of_lt h]
theorem wb_of (x : Int64) : ∃ n, n < 2 ^ 64 ∧ x = lN n := ⟨x.toBitVec.toNat, x.toBitVec.isLt, wb_inj (by rw [wb_tb]; simp)⟩
theorem wb_c : ∀ k, k < 64 → ((nI k).toInt64 &&& 63) = lN k := by decide +kernel
theorem wb_cu : ∀ k, k < 64 → ((nI k).toInt64.toUInt64 &&& Int64.toUInt64 63) = UInt64.ofNat k := by decide +kernel
theorem wb_sm : ∀ k, k < 64 → (BitVec.ofNat 64 k).smod 64 = BitVec.ofNat 64 k := by decide +kernel
theorem u_tn {n : Nat} (h : n < 2 ^ 64) : (UInt64.ofNat n).toNat = n := Nat.mod_eq_of_lt h
/-! SETS OF COUNTS: eight planes of 64 bits -/
def bq (g : Nat → Int64) (c : Nat) : Bool := (g (c / 64)).toBitVec.getLsbD (c % 64)
theorem b_sh6 {c : Nat} (h : c < 512) : nI c >>> (nI 6 &&& 31) = nI (c / 64) := pk_shrN (by omega) _ 6 (by decide)
theorem b_an63 {c : Nat} (h : c < 512) : nI c &&& nI 63 = nI (c % 64) := pk_andN (by omega) 6 (by decide)
theorem b_an7 {c : Nat} (h : c < 512) : nI c &&& nI 7 = nI (c % 8) := pk_andN (by omega) 3 (by decide)
theorem b_get (w : Int64) {j : Nat} (hj : j < 64) : ((w.toUInt64 >>> ((nI j).toInt64.toUInt64 &&& Int64.toUInt64 63)).toInt64 &&& 1) = 0 ↔ w.toBitVec.getLsbD j = false := ts_bit hj (by rw [wb_cu j hj]; exact u_tn (by omega))
theorem b_shl (x : Int64) {k : Nat} (hk : k < 64) : (x <<< ((nI k).toInt64 &&& 63)).toBitVec = x.toBitVec <<< k := by
  rw [wb_c k hk, Int64.toBitVec_shiftLeft, wb_tb, wb_sm k hk, BitVec.shiftLeft_eq', BitVec.toNat_ofNat, Nat.mod_eq_of_lt (show k < 2 ^ 64 by omega)]
theorem b_shlb (x : Int64) {k j : Nat} (hk : k < 64) (hj : j < 64) : (x <<< ((nI k).toInt64 &&& 63)).toBitVec.getLsbD j = (decide (k ≤ j) && x.toBitVec.getLsbD (j - k)) := by
  rw [b_shl x hk, BitVec.getLsbD_shiftLeft]
  by_cases h : k ≤ j
  · simp [hj, h, Nat.not_lt.mpr h]
  · simp [h, Nat.lt_of_not_le h]
theorem b_or (x y : Int64) (j : Nat) : (x ||| y).toBitVec.getLsbD j = (x.toBitVec.getLsbD j || y.toBitVec.getLsbD j) := by rw [Int64.toBitVec_or, BitVec.getLsbD_or]
theorem b_and (x y : Int64) (j : Nat) : (x &&& y).toBitVec.getLsbD j = (x.toBitVec.getLsbD j && y.toBitVec.getLsbD j) := by rw [Int64.toBitVec_and, BitVec.getLsbD_and]
theorem b_one : ∀ j, j < 64 → (1 : Int64).toBitVec.getLsbD j = decide (j = 0) := by decide +kernel
theorem b_bit (x : Int64) {k j : Nat} (hk : k < 64) (hj : j < 64) : (x ||| ((1 : Int64) <<< ((nI k).toInt64 &&& 63))).toBitVec.getLsbD j = (x.toBitVec.getLsbD j || decide (j = k)) := by
  rw [b_or, b_shlb _ hk hj]
  congr 1
  by_cases h : k ≤ j
  · rw [b_one (j - k) (by omega)]
    by_cases h2 : j = k
    · subst h2; simp
    · simp [h, h2]; omega
  · have h2 : ¬ j = k := by omega
    simp [h, h2]
theorem b_m1 : ∀ j, j < 64 → (-1 : Int64).toBitVec.getLsbD j = true := by decide +kernel
theorem b_andn (x y : Int64) {j : Nat} (hj : j < 64) : (x &&& (y ^^^ (-1))).toBitVec.getLsbD j = (x.toBitVec.getLsbD j && !(y.toBitVec.getLsbD j)) := by
  rw [b_and, Int64.toBitVec_xor, BitVec.getLsbD_xor, b_m1 j hj, Bool.xor_true]
theorem b_zero (j : Nat) : (0 : Int64).toBitVec.getLsbD j = false := by
  show (0#64).getLsbD j = false
  exact BitVec.getLsbD_zero
theorem b_ext {x y : Int64} (h : ∀ j, j < 64 → x.toBitVec.getLsbD j = y.toBitVec.getLsbD j) : x = y := wb_inj (BitVec.eq_of_getLsbD_eq h)
theorem b_is0 {x : Int64} : x = 0 ↔ ∀ j, j < 64 → x.toBitVec.getLsbD j = false := by
  constructor
  · intro h j _; rw [h]; exact b_zero j
  · intro h; exact b_ext (fun j hj => by rw [h j hj, b_zero])
/-- the mask of addMoved: columns that stay in their row -/
theorem b_fit : ∀ k, k < 8 → ∀ j, j < 64 → ((72340172838076673 : Int64) * (((nI 255).toUInt32 >>> ((nI k).toUInt32 &&& Int32.toUInt32 31)).toInt32).toInt64).toBitVec.getLsbD j = decide (j % 8 + k < 8) := by decide +kernel
/-- x and y make a count together -/
def okc (x y : Nat) : Bool := decide (x % 8 + y % 8 < 8) && (decide (x / 8 % 8 + y / 8 % 8 < 8) && decide (x / 64 + y / 64 < 8))
theorem okc_iff {x y : Nat} : okc x y = true ↔ x % 8 + y % 8 < 8 ∧ x / 8 % 8 + y / 8 % 8 < 8 ∧ x / 64 + y / 64 < 8 := by simp [okc]
theorem okc_comm (x y : Nat) : okc x y = okc y x := by simp only [okc, Nat.add_comm]
theorem okc_lt {x y : Nat} (h : okc x y = true) : x + y < 512 := by
  have h := okc_iff.mp h
  omega
theorem okc_d {x y : Nat} (h : okc x y = true) : (x + y) % 8 = x % 8 + y % 8 ∧ (x + y) / 8 % 8 = x / 8 % 8 + y / 8 % 8 ∧ (x + y) / 64 = x / 64 + y / 64 := by
  have h := okc_iff.mp h
  omega
/-- the sums of two sets -/
def sumq (s o : Nat → Bool) (c : Nat) : Prop := ∃ x, x ≤ c ∧ s x = true ∧ okc x (c - x) = true ∧ o (c - x) = true
