theorem zn_add (x y : Int32) : (x + y).toInt = mIadd x.toInt y.toInt := Int32.toInt_add x y
theorem zn_sub (x y : Int32) : (x - y).toInt = mIsub x.toInt y.toInt := Int32.toInt_sub x y
theorem zn_mul (x y : Int32) : (x * y).toInt = mImul x.toInt y.toInt := Int32.toInt_mul x y
theorem zn_div (x y : Int32) : (x / y).toInt = mIdiv x.toInt y.toInt := Int32.toInt_div x y
theorem zn_of (x : Int32) : Int32.ofInt x.toInt = x := Int32.ofInt_toInt x
theorem zn_of64 (x : Int64) : Int64.ofInt x.toInt = x := Int64.ofInt_toInt x
theorem zn_l32 (f : Int32 → Int32 → Int32) (x y : Int32) : (f x y).toInt = mL32 f x.toInt y.toInt := by rw [mL32, zn_of, zn_of]
theorem zn_l64 (f : Int64 → Int64 → Int64) (x y : Int64) : (f x y).toInt = mL64 f x.toInt y.toInt := by rw [mL64, zn_of64, zn_of64]
theorem zn_rng (x : Int32) : -2147483648 ≤ x.toInt ∧ x.toInt < 2147483648 := by
  have h1 := Int32.le_toInt x
  have h2 := Int32.toInt_lt x
  constructor <;> omega
theorem zn_rem (x y : Int32) (h : ¬ y = 0) : (x - x / y * y).toInt = mIrem x.toInt y.toInt := by
  have hx := zn_rng x
  have hy := zn_rng y
  rw [zn_sub, zn_mul, zn_div, mIsub, mImul, mIdiv, mIrem, mWr, mWr, mWr]
  have e : ((x.toInt.tdiv y.toInt).bmod 4294967296 * y.toInt).bmod 4294967296 = (x.toInt.tdiv y.toInt * y.toInt).bmod 4294967296 := Int.bmod_mul_bmod
  rw [e, Int.sub_bmod_bmod]
  have e2 : x.toInt - x.toInt.tdiv y.toInt * y.toInt = x.toInt.tmod y.toInt := by
    have := Int.tmod_add_tdiv_mul x.toInt y.toInt
    omega
  rw [e2]
  have hne : y.toInt ≠ 0 := fun q => h (Int32.toInt_inj.mp q)
  have b1 : x.toInt.tmod y.toInt < 2147483648 ∧ -2147483648 ≤ x.toInt.tmod y.toInt := by
    have key : ∀ b : Int, 0 < b → b ≤ 2147483648 → x.toInt.tmod b < 2147483648 ∧ -2147483648 ≤ x.toInt.tmod b := by
      intro b h0 h1
      have h3 := Int.tmod_lt_of_pos x.toInt h0
      have h4 := Int.tmod_lt_of_pos (-x.toInt) h0
      rw [Int.neg_tmod] at h4
      omega
    rcases Int.lt_or_lt_of_ne hne with h5 | h5
    · have := key (-y.toInt) (by omega) (by omega)
      rw [Int.tmod_neg] at this
      exact this
    · exact key y.toInt h5 (by omega)
  rw [Int.bmod_eq_of_le] <;> omega
theorem zn_i {v : Int} (h : -2147483648 ≤ v ∧ v < 2147483648) : (Int32.ofInt v).toInt = v := Int32.toInt_ofInt_of_le (by omega) (by omega)
theorem zn_lt {x y : Int32} : x < y ↔ x.toInt < y.toInt := Int32.lt_iff_toInt_lt
theorem zn_le {x y : Int32} : x ≤ y ↔ x.toInt ≤ y.toInt := Int32.le_iff_toInt_le
theorem zn_eq {x y : Int32} : x = y ↔ x.toInt = y.toInt := Int32.toInt_inj.symm
theorem zn_bi {n : Int} : ((Int8.ofInt n).toInt32).toInt = n.bmod 256 := by rw [Int8.toInt_toInt32, Int8.toInt_ofInt]
theorem zn_si {n : Int} : ((Int16.ofInt n).toInt32).toInt = n.bmod 65536 := by rw [Int16.toInt_toInt32, Int16.toInt_ofInt]
theorem zn_i2c (x : Int32) : ((x.toUInt32 % 65536).toInt32).toInt = x.toInt % 65536 := by
  have h := pk_char x
  have h2 : x.toBitVec.toNat % 65536 < 65536 := Nat.mod_lt _ (by omega)
  rw [h, nI_toInt (by omega)]
  have : x.toInt = x.toBitVec.toInt := rfl
  rw [this, BitVec.toInt_eq_toNat_bmod]
  have := x.toBitVec.isLt
  grind
theorem zn_nn {x : Int32} (h : 0 ≤ x.toInt) : x.toNatClampNeg = x.toInt.toNat := rfl
theorem zn_in {x : Int32} {n : Nat} (h0 : 0 ≤ x.toInt) (h : x.toInt < n) : vp_in x n := vp_in_iff.mpr ⟨h0, h⟩
theorem zn_l2i (x : Int64) : (x.toInt32).toInt = mWr x.toInt := Int64.toInt_toInt32 x
theorem zn_i2l (x : Int32) : (x.toInt64).toInt = x.toInt := Int32.toInt_toInt64 x
theorem zn_lt64 {x y : Int64} : x < y ↔ x.toInt < y.toInt := Int64.lt_iff_toInt_lt
theorem zn_eq64 {x y : Int64} : x = y ↔ x.toInt = y.toInt := Int64.toInt_inj.symm
