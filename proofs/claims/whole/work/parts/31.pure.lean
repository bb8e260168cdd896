theorem mWr_of {z : Int} (h1 : -2147483648 ≤ z) (h2 : z < 2147483648) : mWr z = z := by
  unfold mWr
  rw [Int.bmod_eq_of_le] <;> omega
theorem q_if {Q : Int → Prop} {c : Prop} [Decidable c] {a b : Int} : Q (if c then a else b) = ((c → Q a) ∧ (¬ c → Q b)) := by
  by_cases h : c <;> simp [h]
section PURE
variable {E : ME} {g : MG} {μ : MU} {Q : Option MV → MG → MU → Prop}
/-- isWithin -/
theorem ct74 {v a b : Int} : Wp E 74 0 [some (.inl v), some (.inl a), some (.inl b)] [] g μ Q = Q (some (.inl (if a ≤ v ∧ v ≤ b then 1 else 0))) g μ := by
  simp only [x74_0, x74_1, x74_2, x74_5, x74_6, x74_7, x74_10, x74_11, x74_14, x74_15, mK, nl_i, nl_n, nl_o, nl_r, c1_i, c1_r, mPush, mRv, G0_1, true_and, and_true, and_self, implies_true, List.length_nil, List.length_cons, Nat.reduceAdd, Nat.reduceLeDiff, Nat.zero_le, beq_self_eq_true, Nat.reduceBEq, decide_true, Bool.and_self, reduceCtorEq, ne_eq, not_true_eq_false, not_false_eq_true, false_implies, true_implies, Nat.reduceLT, Nat.reduceEqDiff, or_true, true_or, or_false, false_or, or_self, Int.reduceEq, Int.reduceNe, Int.reduceLT, Int.reduceLE, Int.reduceAdd, Int.reduceSub, Int.reduceMul, Int.reduceNeg, Int.reduceToNat, if_true, if_false, Classical.not_not, Int.cast_ofNat_Int]
  by_cases h1 : a ≤ v <;> by_cases h2 : v ≤ b
  · simp [h1, h2, Int.not_lt.mpr h1, Int.not_lt.mpr h2]
  · simp [h1, h2, Int.not_lt.mpr h1, Int.not_le.mp h2]
  · simp [h1, h2, Int.not_le.mp h1]
  · simp [h1, h2, Int.not_le.mp h1]
/-- in -/
theorem ct77 {v a b : Int} : Wp E 77 0 [some (.inl v), some (.inl a), some (.inl b)] [] g μ Q = Q (some (.inl (if a ≤ v ∧ v ≤ b then 1 else 0))) g μ := by
  simp only [x77_0, x77_1, x77_2, x77_5, x77_6, x77_7, x77_10, x77_11, x77_14, x77_15, mK, nl_i, nl_n, nl_o, nl_r, c1_i, c1_r, mPush, mRv, G0_1, true_and, and_true, and_self, implies_true, List.length_nil, List.length_cons, Nat.reduceAdd, Nat.reduceLeDiff, Nat.zero_le, beq_self_eq_true, Nat.reduceBEq, decide_true, Bool.and_self, reduceCtorEq, ne_eq, not_true_eq_false, not_false_eq_true, false_implies, true_implies, Nat.reduceLT, Nat.reduceEqDiff, or_true, true_or, or_false, false_or, or_self, Int.reduceEq, Int.reduceNe, Int.reduceLT, Int.reduceLE, Int.reduceAdd, Int.reduceSub, Int.reduceMul, Int.reduceNeg, Int.reduceToNat, if_true, if_false, Classical.not_not, Int.cast_ofNat_Int]
  by_cases h1 : a ≤ v <;> by_cases h2 : v ≤ b
  · simp [h1, h2, Int.not_lt.mpr h1, Int.not_lt.mpr h2]
  · simp [h1, h2, Int.not_lt.mpr h1, Int.not_le.mp h2]
  · simp [h1, h2, Int.not_le.mp h1]
  · simp [h1, h2, Int.not_le.mp h1]
theorem ite01 {c : Prop} [Decidable c] : ((if c then (1 : Int) else 0) = 0 ∨ (if c then (1 : Int) else 0) = 1) = True := by
  by_cases h : c <;> simp [h]
/-- isHouse, both -/
theorem ct75 {v : Int} : Wp E 75 0 [some (.inl v)] [] g μ Q = Q (some (.inl (if 0 ≤ v ∧ v ≤ 3 then 1 else 0))) g μ := by
  simp only [x75_0, x75_1, x75_2, x75_3, x75_6, ct74, mK, nl_i, nl_n, nl_o, nl_r, c1_i, c1_r, mPush, mRv, G0_1, true_and, and_true, and_self, implies_true, List.length_nil, List.length_cons, Nat.reduceAdd, Nat.reduceLeDiff, Nat.zero_le, beq_self_eq_true, Nat.reduceBEq, decide_true, Bool.and_self, reduceCtorEq, ne_eq, not_true_eq_false, not_false_eq_true, false_implies, true_implies, Nat.reduceLT, Nat.reduceEqDiff, or_true, true_or, or_false, false_or, or_self, Int.reduceEq, Int.reduceNe, Int.reduceLT, Int.reduceLE, Int.reduceAdd, Int.reduceSub, Int.reduceMul, Int.reduceNeg, Int.reduceToNat, if_true, if_false, Classical.not_not, Int.cast_ofNat_Int, ite01]
theorem ct82 {v : Int} : Wp E 82 0 [some (.inl v)] [] g μ Q = Q (some (.inl (if 0 ≤ v ∧ v ≤ 3 then 1 else 0))) g μ := by
  simp only [x82_0, x82_1, x82_2, x82_3, x82_6, ct77, mK, nl_i, nl_n, nl_o, nl_r, c1_i, c1_r, mPush, mRv, G0_1, true_and, and_true, and_self, implies_true, List.length_nil, List.length_cons, Nat.reduceAdd, Nat.reduceLeDiff, Nat.zero_le, beq_self_eq_true, Nat.reduceBEq, decide_true, Bool.and_self, reduceCtorEq, ne_eq, not_true_eq_false, not_false_eq_true, false_implies, true_implies, Nat.reduceLT, Nat.reduceEqDiff, or_true, true_or, or_false, false_or, or_self, Int.reduceEq, Int.reduceNe, Int.reduceLT, Int.reduceLE, Int.reduceAdd, Int.reduceSub, Int.reduceMul, Int.reduceNeg, Int.reduceToNat, if_true, if_false, Classical.not_not, Int.cast_ofNat_Int, ite01]
/-- isError -/
theorem ct73 {v : Int} : Wp E 73 0 [some (.inl v)] [] g μ Q = Q (some (.inl (if v < 0 ∧ ¬ v = -6 then 1 else 0))) g μ := by
  simp only [x73_0, x73_1, x73_4, x73_5, x73_7, x73_10, x73_11, x73_14, x73_15, mK, nl_i, nl_n, nl_o, nl_r, c1_i, c1_r, mPush, mRv, G0_1, true_and, and_true, and_self, implies_true, List.length_nil, List.length_cons, Nat.reduceAdd, Nat.reduceLeDiff, Nat.zero_le, beq_self_eq_true, Nat.reduceBEq, decide_true, Bool.and_self, reduceCtorEq, ne_eq, not_true_eq_false, not_false_eq_true, false_implies, true_implies, Nat.reduceLT, Nat.reduceEqDiff, or_true, true_or, or_false, false_or, or_self, Int.reduceEq, Int.reduceNe, Int.reduceLT, Int.reduceLE, Int.reduceAdd, Int.reduceSub, Int.reduceMul, Int.reduceNeg, Int.reduceToNat, if_true, if_false, Classical.not_not, Int.cast_ofNat_Int]
  by_cases h1 : v < 0
  · by_cases h2 : v = -6
    · simp [h1, h2]
    · simp [h1, h2, Int.not_le.mpr h1]
  · simp [h1, Int.not_lt.mp h1]
/-- max -/
theorem ct143 {a b : Int} : Wp E 143 0 [some (.inl a), some (.inl b)] [] g μ Q = Q (some (.inl (if a < b then b else a))) g μ := by
  simp only [x143_0, x143_1, x143_2, x143_5, x143_6, x143_9, x143_10, mK, nl_i, nl_n, nl_o, nl_r, c1_i, c1_r, mPush, mRv, G0_1, true_and, and_true, and_self, implies_true, List.length_nil, List.length_cons, Nat.reduceAdd, Nat.reduceLeDiff, Nat.zero_le, beq_self_eq_true, Nat.reduceBEq, decide_true, Bool.and_self, reduceCtorEq, ne_eq, not_true_eq_false, not_false_eq_true, false_implies, true_implies, Nat.reduceLT, Nat.reduceEqDiff, or_true, true_or, or_false, false_or, or_self, Int.reduceEq, Int.reduceNe, Int.reduceLT, Int.reduceLE, Int.reduceAdd, Int.reduceSub, Int.reduceMul, Int.reduceNeg, Int.reduceToNat, if_true, if_false, Classical.not_not, Int.cast_ofNat_Int]
  by_cases h1 : a < b
  · simp [h1, Int.not_le.mpr h1]
  · simp [h1, Int.not_lt.mp h1]
/-- film0, show0: a place of the row -/
theorem ct78 {a b : Int} (h1 : 0 ≤ a) (h2 : a < 9) (h3 : 0 ≤ b) (h4 : b < 9) : Wp E 78 0 [some (.inr (.inr (.inl 176))), some (.inl a), some (.inl b)] [] G0 μ Q = Q (some (.inl (μ 177 (23 + 9 * a.toNat + b.toNat)))) G0 μ := by
  simp (disch := omega) only [x78_0, x78_1, x78_4, x78_6, x78_8, x78_9, x78_10, x78_11, x78_12, x78_13, x78_14, mK, nl_i, nl_n, nl_o, nl_r, c1_i, c1_r, mPush, mRv, G0_1, true_and, and_true, and_self, implies_true, List.length_nil, List.length_cons, Nat.reduceAdd, Nat.reduceLeDiff, Nat.zero_le, beq_self_eq_true, Nat.reduceBEq, decide_true, Bool.and_self, reduceCtorEq, ne_eq, not_true_eq_false, not_false_eq_true, false_implies, true_implies, Nat.reduceLT, Nat.reduceEqDiff, or_true, true_or, or_false, false_or, or_self, Int.reduceEq, Int.reduceNe, Int.reduceLT, Int.reduceLE, Int.reduceAdd, Int.reduceSub, Int.reduceMul, Int.reduceNeg, Int.reduceToNat, if_true, if_false, Classical.not_not, Int.cast_ofNat_Int, kd176, kd177, kd178, kd179, kd180, kd181, kd182, kd183, kd184, kd185, kd186, kd187, kd188, kd189, kd190, kd191, kd192, kd193, kd194, rf176_1, rf176_2, rf176_4, rf176_5, rf176_6, rf176_8, rf176_9, rf176_10, rf176_11, rf176_12, rf176_13, rf176_14, rf176_16, rf176_17, rf176_18, rf176_19, rf176_20, rf176_23, mWr_of]
  have hq : (23 + 9 * a + b).toNat = 23 + 9 * a.toNat + b.toNat := by omega
  rw [hq]
  exact propext ⟨fun z => z.2, fun z => ⟨by omega, z⟩⟩
theorem ct79 {a b : Int} (h1 : 0 ≤ a) (h2 : a < 21) (h3 : 0 ≤ b) (h4 : b < 4) : Wp E 79 0 [some (.inr (.inr (.inl 176))), some (.inl a), some (.inl b)] [] G0 μ Q = Q (some (.inl (μ 177 (68 + 4 * a.toNat + b.toNat)))) G0 μ := by
  simp (disch := omega) only [x79_0, x79_1, x79_4, x79_6, x79_7, x79_8, x79_9, x79_10, x79_11, x79_12, x79_13, mK, nl_i, nl_n, nl_o, nl_r, c1_i, c1_r, mPush, mRv, G0_1, true_and, and_true, and_self, implies_true, List.length_nil, List.length_cons, Nat.reduceAdd, Nat.reduceLeDiff, Nat.zero_le, beq_self_eq_true, Nat.reduceBEq, decide_true, Bool.and_self, reduceCtorEq, ne_eq, not_true_eq_false, not_false_eq_true, false_implies, true_implies, Nat.reduceLT, Nat.reduceEqDiff, or_true, true_or, or_false, false_or, or_self, Int.reduceEq, Int.reduceNe, Int.reduceLT, Int.reduceLE, Int.reduceAdd, Int.reduceSub, Int.reduceMul, Int.reduceNeg, Int.reduceToNat, if_true, if_false, Classical.not_not, Int.cast_ofNat_Int, kd176, kd177, kd178, kd179, kd180, kd181, kd182, kd183, kd184, kd185, kd186, kd187, kd188, kd189, kd190, kd191, kd192, kd193, kd194, rf176_1, rf176_2, rf176_4, rf176_5, rf176_6, rf176_8, rf176_9, rf176_10, rf176_11, rf176_12, rf176_13, rf176_14, rf176_16, rf176_17, rf176_18, rf176_19, rf176_20, rf176_23, mWr_of]
  have hq : (68 + 4 * a + b).toNat = 68 + 4 * a.toNat + b.toNat := by omega
  rw [hq]
  exact propext ⟨fun z => z.2, fun z => ⟨by omega, z⟩⟩
theorem ct80 {a : Int} (h1 : -100 ≤ μ 177 5) (h2 : μ 177 5 ≤ 100) : Wp E 80 0 [some (.inr (.inr (.inl 176))), some (.inl a)] [] G0 μ Q = Q (some (.inl (if 0 ≤ a ∧ a < μ 177 5 then 1 else 0))) G0 μ := by
  simp (disch := omega) only [x80_0, x80_1, x80_2, x80_3, x80_6, x80_7, x80_8, x80_9, x80_10, x80_13, mK, nl_i, nl_n, nl_o, nl_r, c1_i, c1_r, mPush, mRv, G0_1, true_and, and_true, and_self, implies_true, List.length_nil, List.length_cons, Nat.reduceAdd, Nat.reduceLeDiff, Nat.zero_le, beq_self_eq_true, Nat.reduceBEq, decide_true, Bool.and_self, reduceCtorEq, ne_eq, not_true_eq_false, not_false_eq_true, false_implies, true_implies, Nat.reduceLT, Nat.reduceEqDiff, or_true, true_or, or_false, false_or, or_self, Int.reduceEq, Int.reduceNe, Int.reduceLT, Int.reduceLE, Int.reduceAdd, Int.reduceSub, Int.reduceMul, Int.reduceNeg, Int.reduceToNat, if_true, if_false, Classical.not_not, Int.cast_ofNat_Int, kd176, kd177, kd178, kd179, kd180, kd181, kd182, kd183, kd184, kd185, kd186, kd187, kd188, kd189, kd190, kd191, kd192, kd193, kd194, rf176_1, rf176_2, rf176_4, rf176_5, rf176_6, rf176_8, rf176_9, rf176_10, rf176_11, rf176_12, rf176_13, rf176_14, rf176_16, rf176_17, rf176_18, rf176_19, rf176_20, rf176_23, mWr_of, ct77, ite01]
  simp only [Int.le_sub_one_iff]
theorem ct81 {a : Int} (h1 : -100 ≤ μ 177 6) (h2 : μ 177 6 ≤ 100) : Wp E 81 0 [some (.inr (.inr (.inl 176))), some (.inl a)] [] G0 μ Q = Q (some (.inl (if 0 ≤ a ∧ a < μ 177 6 then 1 else 0))) G0 μ := by
  simp (disch := omega) only [x81_0, x81_1, x81_2, x81_3, x81_6, x81_8, x81_9, x81_10, x81_11, x81_14, mK, nl_i, nl_n, nl_o, nl_r, c1_i, c1_r, mPush, mRv, G0_1, true_and, and_true, and_self, implies_true, List.length_nil, List.length_cons, Nat.reduceAdd, Nat.reduceLeDiff, Nat.zero_le, beq_self_eq_true, Nat.reduceBEq, decide_true, Bool.and_self, reduceCtorEq, ne_eq, not_true_eq_false, not_false_eq_true, false_implies, true_implies, Nat.reduceLT, Nat.reduceEqDiff, or_true, true_or, or_false, false_or, or_self, Int.reduceEq, Int.reduceNe, Int.reduceLT, Int.reduceLE, Int.reduceAdd, Int.reduceSub, Int.reduceMul, Int.reduceNeg, Int.reduceToNat, if_true, if_false, Classical.not_not, Int.cast_ofNat_Int, kd176, kd177, kd178, kd179, kd180, kd181, kd182, kd183, kd184, kd185, kd186, kd187, kd188, kd189, kd190, kd191, kd192, kd193, kd194, rf176_1, rf176_2, rf176_4, rf176_5, rf176_6, rf176_8, rf176_9, rf176_10, rf176_11, rf176_12, rf176_13, rf176_14, rf176_16, rf176_17, rf176_18, rf176_19, rf176_20, rf176_23, mWr_of, ct77, ite01]
  simp only [Int.le_sub_one_iff]
end PURE
