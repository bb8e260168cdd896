theorem op71 {E : ME} {μ : MU} (hI : INV μ) {a : Int} : OPS E 71 [some (.inl a)] 140 [some (.inl a), none] μ := by
  obtain ⟨hw, hc, hh, hl, hp⟩ := id hI
  have e7 : μ 1 7 = μ 177 6 := hc.2.2.1
  unfold OPS
  by_cases p1 : 0 ≤ a ∧ a ≤ 1
  · obtain ⟨p, rfl⟩ := Int.eq_ofNat_of_zero_le p1.1
    have hp1 : p ≤ 1 := by omega
    have r131 : mRf G0 131 p = some (154 + 11 * p) := by
      have : p = 0 ∨ p = 1 := by omega
      rcases this with rfl | rfl <;> rfl
    have hcs : 154 + 11 * p ∈ gCs := by
      have : p = 0 ∨ p = 1 := by omega
      rcases this with rfl | rfl <;> decide
    have k0 := (gC_ok _ hcs).1
    simp (disch := first | omega | exact rfl) only [x71_0, x71_1, x71_2, x71_3, x71_6, x71_9, x71_11, x71_12, x71_13, x71_16, x71_17, x71_18, x71_19, x71_22, x71_25, x71_26, x71_29, x71_30, x71_31, x71_32, x71_33, x71_36, x71_39, isF, isK, isH, mK, nl_i, nl_n, nl_o, nl_r, c1_i, c1_r, mPush, mRv, G0_1, true_and, and_true, and_self, implies_true, List.length_nil, List.length_cons, Nat.reduceAdd, Nat.reduceLeDiff, Nat.zero_le, beq_self_eq_true, Nat.reduceBEq, decide_true, Bool.and_self, reduceCtorEq, ne_eq, not_true_eq_false, not_false_eq_true, false_implies, true_implies, Nat.reduceLT, Nat.reduceEqDiff, or_true, true_or, or_false, false_or, or_self, Int.reduceEq, Int.reduceNe, Int.reduceLT, Int.reduceLE, Int.reduceAdd, Int.reduceSub, Int.reduceMul, Int.reduceNeg, Int.reduceToNat, if_true, if_false, Classical.not_not, Int.cast_ofNat_Int, kd0, rf0_0, rf0_1, rf0_2, rf0_3, rf0_4, rf0_5, rf0_6, rf0_7, rf0_8, kd131, kd132, rf131_0, rf131_1, kd1, ct74, p1, Int.toNat_natCast, r131, k0]
    repeat (refine And.intro (by omega) ?_)
    refine ct1 hcs gC1 (by omega) ?_
    intro μ1 f1 s1
    have e8 : mUp μ1 132 p 1 1 7 = μ 177 6 := by rw [mUp_ne (by omega), f1 1 (by omega)]; exact e7
    simp (disch := first | omega | exact rfl) only [x71_0, x71_1, x71_2, x71_3, x71_6, x71_9, x71_11, x71_12, x71_13, x71_16, x71_17, x71_18, x71_19, x71_22, x71_25, x71_26, x71_29, x71_30, x71_31, x71_32, x71_33, x71_36, x71_39, isF, isK, isH, mK, nl_i, nl_n, nl_o, nl_r, c1_i, c1_r, mPush, mRv, G0_1, true_and, and_true, and_self, implies_true, List.length_nil, List.length_cons, Nat.reduceAdd, Nat.reduceLeDiff, Nat.zero_le, beq_self_eq_true, Nat.reduceBEq, decide_true, Bool.and_self, reduceCtorEq, ne_eq, not_true_eq_false, not_false_eq_true, false_implies, true_implies, Nat.reduceLT, Nat.reduceEqDiff, or_true, true_or, or_false, false_or, or_self, Int.reduceEq, Int.reduceNe, Int.reduceLT, Int.reduceLE, Int.reduceAdd, Int.reduceSub, Int.reduceMul, Int.reduceNeg, Int.reduceToNat, if_true, if_false, Classical.not_not, Int.cast_ofNat_Int, kd0, rf0_0, rf0_1, rf0_2, rf0_3, rf0_4, rf0_5, rf0_6, rf0_7, rf0_8, kd131, kd132, rf131_0, rf131_1, kd1, Int.toNat_natCast, e8]
    repeat (refine And.intro (by first | omega | exact ⟨by omega, by omega, rfl⟩) ?_)
    refine ⟨_, rfl, ?_⟩
    simp (disch := first | omega | exact rfl) only [x140_0, x140_1, x140_2, x140_5, x140_6, x140_7, x140_8, x140_11, x140_17, x140_18, isF, isK, isH, mK, nl_i, nl_n, nl_o, nl_r, c1_i, c1_r, mPush, mRv, G0_1, true_and, and_true, and_self, implies_true, List.length_nil, List.length_cons, Nat.reduceAdd, Nat.reduceLeDiff, Nat.zero_le, beq_self_eq_true, Nat.reduceBEq, decide_true, Bool.and_self, reduceCtorEq, ne_eq, not_true_eq_false, not_false_eq_true, false_implies, true_implies, Nat.reduceLT, Nat.reduceEqDiff, or_true, true_or, or_false, false_or, or_self, Int.reduceEq, Int.reduceNe, Int.reduceLT, Int.reduceLE, Int.reduceAdd, Int.reduceSub, Int.reduceMul, Int.reduceNeg, Int.reduceToNat, if_true, if_false, Classical.not_not, Int.cast_ofNat_Int, kd176, kd177, kd178, kd179, kd180, kd181, kd182, kd183, kd184, kd185, kd186, kd187, kd188, kd189, kd190, kd191, kd192, kd193, kd194, rf176_1, rf176_2, rf176_4, rf176_5, rf176_6, rf176_8, rf176_9, rf176_10, rf176_11, rf176_12, rf176_13, rf176_14, rf176_16, rf176_17, rf176_18, rf176_19, rf176_20, rf176_23, ct77, p1]
    refine zq140 hp1 148 0 _ (by omega) ?_
    intro μ2 f2 g2
    have e9 : mUp μ2 180 p 1 177 6 = μ 177 6 := by rw [mUp_ne (by omega), f2 177 (by omega), mUp_ne (by omega), mUp_ne (by omega), f1 177 (by omega)]
    simp (disch := first | omega | exact rfl) only [x140_50, x140_51, x140_54, x140_55, x140_56, x140_57, x140_58, x140_61, x140_63, x140_64, isF, isK, isH, mK, nl_i, nl_n, nl_o, nl_r, c1_i, c1_r, mPush, mRv, G0_1, true_and, and_true, and_self, implies_true, List.length_nil, List.length_cons, Nat.reduceAdd, Nat.reduceLeDiff, Nat.zero_le, beq_self_eq_true, Nat.reduceBEq, decide_true, Bool.and_self, reduceCtorEq, ne_eq, not_true_eq_false, not_false_eq_true, false_implies, true_implies, Nat.reduceLT, Nat.reduceEqDiff, or_true, true_or, or_false, false_or, or_self, Int.reduceEq, Int.reduceNe, Int.reduceLT, Int.reduceLE, Int.reduceAdd, Int.reduceSub, Int.reduceMul, Int.reduceNeg, Int.reduceToNat, if_true, if_false, Classical.not_not, Int.cast_ofNat_Int, kd176, kd177, kd178, kd179, kd180, kd181, kd182, kd183, kd184, kd185, kd186, kd187, kd188, kd189, kd190, kd191, kd192, kd193, kd194, rf176_1, rf176_2, rf176_4, rf176_5, rf176_6, rf176_8, rf176_9, rf176_10, rf176_11, rf176_12, rf176_13, rf176_14, rf176_16, rf176_17, rf176_18, rf176_19, rf176_20, rf176_23, Int.toNat_natCast, e9]
    repeat (refine And.intro (by first | omega | exact ⟨by omega, by omega, rfl⟩) ?_)
    refine INV_save hI hp1 ?_ ?_ ?_ ?_ ?_ ?_
    · intro x q1 q2 q3 q4 q5
      rw [mUp_ne q4, f2 x q3, mUp_ne q5, mUp_ne q2, f1 x (by omega)]
    · intro j hj
      rw [mUp_ne (by omega), f2 176 (by omega), mUp_nj hj, mUp_ne (by omega), f1 176 (by omega)]
    · refine cRel_fr (μ := μ1) (fun x q1 q2 => ?_) (cSame_rel s1 hc)
      rw [mUp_ne (by omega), f2 x (by omega), mUp_ne (by omega), mUp_ne (by omega)]
    · intro i
      rw [mUp_ne (by omega), f2 132 (by omega), mUp_ne (by omega), mUp_at, f1 132 (by omega)]
    · intro i
      rw [mUp_at, f2 180 (by omega), mUp_ne (by omega), mUp_ne (by omega), f1 180 (by omega)]
    · intro i
      rw [mUp_ne (by omega), g2, mUp_ne (by omega), mUp_ne (by omega), mUp_ne (by omega), mUp_ne (by omega), f1 177 (by omega), f1 179 (by omega)]
      rfl
  · simp (disch := first | omega | exact rfl) only [x71_0, x71_1, x71_2, x71_3, x71_6, x71_9, x71_11, x71_12, x71_13, x71_16, x71_17, x71_18, x71_19, x71_22, x71_25, x71_26, x71_29, x71_30, x71_31, x71_32, x71_33, x71_36, x71_39, isF, isK, isH, mK, nl_i, nl_n, nl_o, nl_r, c1_i, c1_r, mPush, mRv, G0_1, true_and, and_true, and_self, implies_true, List.length_nil, List.length_cons, Nat.reduceAdd, Nat.reduceLeDiff, Nat.zero_le, beq_self_eq_true, Nat.reduceBEq, decide_true, Bool.and_self, reduceCtorEq, ne_eq, not_true_eq_false, not_false_eq_true, false_implies, true_implies, Nat.reduceLT, Nat.reduceEqDiff, or_true, true_or, or_false, false_or, or_self, Int.reduceEq, Int.reduceNe, Int.reduceLT, Int.reduceLE, Int.reduceAdd, Int.reduceSub, Int.reduceMul, Int.reduceNeg, Int.reduceToNat, if_true, if_false, Classical.not_not, Int.cast_ofNat_Int, kd0, rf0_0, rf0_1, rf0_2, rf0_3, rf0_4, rf0_5, rf0_6, rf0_7, rf0_8, kd1, ct74, if_neg p1]
    refine ⟨_, rfl, ?_⟩
    simp (disch := first | omega | exact rfl) only [x140_0, x140_1, x140_2, x140_5, x140_6, x140_7, x140_8, x140_11, x140_14, x140_16, x140_17, x140_18, x140_19, x140_20, x140_23, x140_26, x140_27, x140_30, x140_33, x140_34, x140_35, x140_36, x140_37, x140_38, x140_41, x140_42, x140_43, x140_44, x140_50, x140_51, x140_54, x140_55, x140_56, x140_57, x140_58, x140_61, x140_63, x140_64, isF, isK, isH, mK, nl_i, nl_n, nl_o, nl_r, c1_i, c1_r, mPush, mRv, G0_1, true_and, and_true, and_self, implies_true, List.length_nil, List.length_cons, Nat.reduceAdd, Nat.reduceLeDiff, Nat.zero_le, beq_self_eq_true, Nat.reduceBEq, decide_true, Bool.and_self, reduceCtorEq, ne_eq, not_true_eq_false, not_false_eq_true, false_implies, true_implies, Nat.reduceLT, Nat.reduceEqDiff, or_true, true_or, or_false, false_or, or_self, Int.reduceEq, Int.reduceNe, Int.reduceLT, Int.reduceLE, Int.reduceAdd, Int.reduceSub, Int.reduceMul, Int.reduceNeg, Int.reduceToNat, if_true, if_false, Classical.not_not, Int.cast_ofNat_Int, kd176, kd177, kd178, kd179, kd180, kd181, kd182, kd183, kd184, kd185, kd186, kd187, kd188, kd189, kd190, kd191, kd192, kd193, kd194, rf176_1, rf176_2, rf176_4, rf176_5, rf176_6, rf176_8, rf176_9, rf176_10, rf176_11, rf176_12, rf176_13, rf176_14, rf176_16, rf176_17, rf176_18, rf176_19, rf176_20, rf176_23, ct77, if_neg p1]
    exact INV_thr hI
