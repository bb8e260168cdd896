theorem zz_t1 (a b : Int32) (h : 0 ≤ a) (h2 : a ≤ 100) (h3 : 0 ≤ b) (h4 : b ≤ 100) : a + b ≤ 200 := by grind
theorem zz_t2 (a b c : Int) (h : a < b) : (if a < b then c else 0) ≤ c := by omega
theorem zz_t3 (a b : Int) : (if a < b then a else b) ≤ b := by omega
theorem zz_t4 (a b : Int) : (if a < b then a else b) ≤ b := by grind
theorem zz_t5 (a : Int) (h : 0 ≤ a) (h' : a < 100) : a.bmod 4294967296 = a := by grind
theorem zz_t6 (a : Int) (h : 0 ≤ a) (h' : a < 100) : a.bmod 4294967296 = a := by simp [Int.bmod]; omega
theorem zz_t7 (a : Int) (h : 0 ≤ a) (h' : a < 100) : Int.tdiv a 7 ≤ 14 := by grind
theorem zz_t8 (a : Int) (h : 0 ≤ a) (h' : a < 100) : Int.tdiv a 7 ≤ 14 := by omega
theorem zz_t9 (a : Int) (h : 0 ≤ a) (h' : a < 100) : min a 7 ≤ 7 := by omega
