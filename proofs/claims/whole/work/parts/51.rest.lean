theorem op72 {E : ME} {μ : MU} (hI : INV μ) {a : Int} : OPS E 72 [some (.inl a)] 141 [some (.inl a), none] μ := by
  obtain ⟨hw, hc, hh, hl, hp⟩ := id hI
  have h1 := hh.2.2.1
  have h2 := hh.1
  have h3 := INV_3 hI
  unfold OPS
  by_cases p1 : 0 ≤ a ∧ a ≤ 1
  · obtain ⟨p, rfl⟩ := Int.eq_ofNat_of_zero_le p1.1
    have hp1 : p ≤ 1 := by omega
    have r131 : mRf G0 131 p = some (154 + 11 * p) := by
      have : p = 0 ∨ p = 1 := by omega
      rcases this with rfl | rfl <;> rfl
    have hcs : 154 + 11 * p ∈ gCs := by
      have : p = 0 ∨ p = 1 := by omega
      rcases this with rfl | rfl <;> decide
    have k0 := (gC_ok _ hcs).1
    obtain ⟨l1, l2, l3⟩ := hl p (by omega)
    by_cases p2 : μ 132 p = 0
    · have p3 : mUp μ 176 0 0 180 p = 0 := by rw [mUp_ne (by omega)]; omega
      simp (disch := first | omega | exact rfl) only [x72_0, x72_1, x72_2, x72_3, x72_6, x72_9, x72_11, x72_12, x72_13, x72_16, x72_17, x72_18, x72_21, x72_23, x72_24, x72_25, x72_28, x72_29, x72_32, x72_35, x72_36, x72_39, x72_40, x72_43, x72_44, x72_45, x72_48, x72_49, x72_52, x72_55, x72_56, x72_59, x72_62, isF, isK, isH, mK, nl_i, nl_n, nl_o, nl_r, c1_i, c1_r, mPush, mRv, G0_1, true_and, and_true, and_self, implies_true, List.length_nil, List.length_cons, Nat.reduceAdd, Nat.reduceLeDiff, Nat.zero_le, beq_self_eq_true, Nat.reduceBEq, decide_true, Bool.and_self, reduceCtorEq, ne_eq, not_true_eq_false, not_false_eq_true, false_implies, true_implies, Nat.reduceLT, Nat.reduceEqDiff, or_true, true_or, or_false, false_or, or_self, Int.reduceEq, Int.reduceNe, Int.reduceLT, Int.reduceLE, Int.reduceAdd, Int.reduceSub, Int.reduceMul, Int.reduceNeg, Int.reduceToNat, if_true, if_false, Classical.not_not, Int.cast_ofNat_Int, kd0, rf0_0, rf0_1, rf0_2, rf0_3, rf0_4, rf0_5, rf0_6, rf0_7, rf0_8, kd131, kd132, rf131_0, rf131_1, kd1, ct74, p1, Int.toNat_natCast, p2]
      repeat (refine And.intro (by omega) ?_)
      refine ⟨_, rfl, ?_⟩
      simp (disch := first | omega | exact rfl) only [x141_0, x141_1, x141_2, x141_5, x141_6, x141_7, x141_8, x141_11, x141_14, x141_16, x141_17, x141_18, x141_21, x141_22, x141_23, x141_26, x141_28, x141_29, x141_30, x141_33, x141_34, x141_35, x141_36, x141_39, x141_42, x141_43, x141_46, x141_47, x141_48, x141_51, x141_54, x141_55, x141_56, x141_57, x141_58, x141_59, x141_60, x141_66, x141_67, x141_70, x141_72, x141_73, isF, isK, isH, mK, nl_i, nl_n, nl_o, nl_r, c1_i, c1_r, mPush, mRv, G0_1, true_and, and_true, and_self, implies_true, List.length_nil, List.length_cons, Nat.reduceAdd, Nat.reduceLeDiff, Nat.zero_le, beq_self_eq_true, Nat.reduceBEq, decide_true, Bool.and_self, reduceCtorEq, ne_eq, not_true_eq_false, not_false_eq_true, false_implies, true_implies, Nat.reduceLT, Nat.reduceEqDiff, or_true, true_or, or_false, false_or, or_self, Int.reduceEq, Int.reduceNe, Int.reduceLT, Int.reduceLE, Int.reduceAdd, Int.reduceSub, Int.reduceMul, Int.reduceNeg, Int.reduceToNat, if_true, if_false, Classical.not_not, Int.cast_ofNat_Int, kd176, kd177, kd178, kd179, kd180, kd181, kd182, kd183, kd184, kd185, kd186, kd187, kd188, kd189, kd190, kd191, kd192, kd193, kd194, rf176_1, rf176_2, rf176_4, rf176_5, rf176_6, rf176_8, rf176_9, rf176_10, rf176_11, rf176_12, rf176_13, rf176_14, rf176_16, rf176_17, rf176_18, rf176_19, rf176_20, rf176_23, ct77, p1, Int.toNat_natCast, p3]
      repeat (refine And.intro (by omega) ?_)
      exact INV_thr hI
    · have p4 : μ 132 p = 1 := by omega
      obtain ⟨l4, l5⟩ := l3 p4
      simp (disch := first | omega | exact rfl) only [x72_0, x72_1, x72_2, x72_3, x72_6, x72_9, x72_11, x72_12, x72_13, x72_16, x72_17, x72_18, x72_21, x72_23, x72_24, x72_25, x72_28, x72_29, x72_32, x72_35, x72_36, x72_39, x72_40, x72_43, x72_44, x72_45, x72_48, x72_49, x72_52, x72_55, x72_56, x72_59, x72_62, isF, isK, isH, mK, nl_i, nl_n, nl_o, nl_r, c1_i, c1_r, mPush, mRv, G0_1, true_and, and_true, and_self, implies_true, List.length_nil, List.length_cons, Nat.reduceAdd, Nat.reduceLeDiff, Nat.zero_le, beq_self_eq_true, Nat.reduceBEq, decide_true, Bool.and_self, reduceCtorEq, ne_eq, not_true_eq_false, not_false_eq_true, false_implies, true_implies, Nat.reduceLT, Nat.reduceEqDiff, or_true, true_or, or_false, false_or, or_self, Int.reduceEq, Int.reduceNe, Int.reduceLT, Int.reduceLE, Int.reduceAdd, Int.reduceSub, Int.reduceMul, Int.reduceNeg, Int.reduceToNat, if_true, if_false, Classical.not_not, Int.cast_ofNat_Int, kd0, rf0_0, rf0_1, rf0_2, rf0_3, rf0_4, rf0_5, rf0_6, rf0_7, rf0_8, kd131, kd132, rf131_0, rf131_1, kd49, kd50, rf49_0, rf50_0, rf50_1, rf50_2, rf50_3, rf50_4, rf50_5, rf50_6, kd1, ct74, p1, Int.toNat_natCast, p2]
      repeat (refine And.intro (by omega) ?_)
      refine ct15 h1 h2 ?_
      intro μ1 f1 s1
      have hb := pAt_b μ
      simp (disch := first | omega | exact rfl) only [x72_0, x72_1, x72_2, x72_3, x72_6, x72_9, x72_11, x72_12, x72_13, x72_16, x72_17, x72_18, x72_21, x72_23, x72_24, x72_25, x72_28, x72_29, x72_32, x72_35, x72_36, x72_39, x72_40, x72_43, x72_44, x72_45, x72_48, x72_49, x72_52, x72_55, x72_56, x72_59, x72_62, isF, isK, isH, mK, nl_i, nl_n, nl_o, nl_r, c1_i, c1_r, mPush, mRv, G0_1, true_and, and_true, and_self, implies_true, List.length_nil, List.length_cons, Nat.reduceAdd, Nat.reduceLeDiff, Nat.zero_le, beq_self_eq_true, Nat.reduceBEq, decide_true, Bool.and_self, reduceCtorEq, ne_eq, not_true_eq_false, not_false_eq_true, false_implies, true_implies, Nat.reduceLT, Nat.reduceEqDiff, or_true, true_or, or_false, false_or, or_self, Int.reduceEq, Int.reduceNe, Int.reduceLT, Int.reduceLE, Int.reduceAdd, Int.reduceSub, Int.reduceMul, Int.reduceNeg, Int.reduceToNat, if_true, if_false, Classical.not_not, Int.cast_ofNat_Int, kd0, rf0_0, rf0_1, rf0_2, rf0_3, rf0_4, rf0_5, rf0_6, rf0_7, rf0_8, kd131, kd132, rf131_0, rf131_1, kd49, kd50, rf49_0, rf50_0, rf50_1, rf50_2, rf50_3, rf50_4, rf50_5, rf50_6, kd1, Int.toNat_natCast, r131]
      repeat (refine And.intro (by omega) ?_)
      refine ct1 gC1 hcs (by omega) ?_
      intro μ2 f2 s2
      have f1' : frC (pAt μ) μ μ1 := f1
      have e49 := e49_p f1' f2
      have h1' : 0 ≤ μ2 49 1 ∧ μ2 49 1 ≤ 6 := by rw [e49]; exact h1
      have h2' : 0 ≤ μ2 49 2 ∧ μ2 49 2 ≤ 6 := by rw [e49]; exact h2
      have c2 : cRel μ2 1 (lRow μ p) := cSame_rel s2 (cRel_fr (fun x q1 q2 => f1' x (by omega)) l4)
      have hB := cB_of hc h1 h2 f1' s1 f2 c2
      have hk6 : keepM μ2 1 7 = lRow μ p 6 := hB.2.2.1.2.2.1
      simp (disch := first | omega | exact rfl) only [x72_0, x72_1, x72_2, x72_3, x72_6, x72_9, x72_11, x72_12, x72_13, x72_16, x72_17, x72_18, x72_21, x72_23, x72_24, x72_25, x72_28, x72_29, x72_32, x72_35, x72_36, x72_39, x72_40, x72_43, x72_44, x72_45, x72_48, x72_49, x72_52, x72_55, x72_56, x72_59, x72_62, isF, isK, isH, mK, nl_i, nl_n, nl_o, nl_r, c1_i, c1_r, mPush, mRv, G0_1, true_and, and_true, and_self, implies_true, List.length_nil, List.length_cons, Nat.reduceAdd, Nat.reduceLeDiff, Nat.zero_le, beq_self_eq_true, Nat.reduceBEq, decide_true, Bool.and_self, reduceCtorEq, ne_eq, not_true_eq_false, not_false_eq_true, false_implies, true_implies, Nat.reduceLT, Nat.reduceEqDiff, or_true, true_or, or_false, false_or, or_self, Int.reduceEq, Int.reduceNe, Int.reduceLT, Int.reduceLE, Int.reduceAdd, Int.reduceSub, Int.reduceMul, Int.reduceNeg, Int.reduceToNat, if_true, if_false, Classical.not_not, Int.cast_ofNat_Int, kd0, rf0_0, rf0_1, rf0_2, rf0_3, rf0_4, rf0_5, rf0_6, rf0_7, rf0_8, kd131, kd132, rf131_0, rf131_1, kd49, kd50, rf49_0, rf50_0, rf50_1, rf50_2, rf50_3, rf50_4, rf50_5, rf50_6, kd1, ct16 h1' h2', hk6]
      refine ⟨_, rfl, ?_⟩
      obtain ⟨e177, e176⟩ := cB_177 hB
      have b1 := hB.1
      have e180 : keepM μ2 180 = μ 180 := b1 180 (by omega) (by omega) (by omega)
      have e179 : keepM μ2 179 = μ 179 := b1 179 (by omega) (by omega) (by omega)
      generalize keepM μ2 = μ3 at *
      have p3 : ¬ mUp μ3 176 0 0 180 p = 0 := by rw [mUp_ne (by omega), e180]; omega
      have h3' : 0 ≤ μ3 176 3 ∧ μ3 176 3 ≤ 6 := by rw [e176]; exact h3
      simp (disch := first | omega | exact rfl) only [x141_0, x141_1, x141_2, x141_5, x141_6, x141_7, x141_8, x141_11, x141_17, x141_18, x141_21, x141_22, x141_23, x141_29, x141_30, isF, isK, isH, mK, nl_i, nl_n, nl_o, nl_r, c1_i, c1_r, mPush, mRv, G0_1, true_and, and_true, and_self, implies_true, List.length_nil, List.length_cons, Nat.reduceAdd, Nat.reduceLeDiff, Nat.zero_le, beq_self_eq_true, Nat.reduceBEq, decide_true, Bool.and_self, reduceCtorEq, ne_eq, not_true_eq_false, not_false_eq_true, false_implies, true_implies, Nat.reduceLT, Nat.reduceEqDiff, or_true, true_or, or_false, false_or, or_self, Int.reduceEq, Int.reduceNe, Int.reduceLT, Int.reduceLE, Int.reduceAdd, Int.reduceSub, Int.reduceMul, Int.reduceNeg, Int.reduceToNat, if_true, if_false, Classical.not_not, Int.cast_ofNat_Int, kd176, kd177, kd178, kd179, kd180, kd181, kd182, kd183, kd184, kd185, kd186, kd187, kd188, kd189, kd190, kd191, kd192, kd193, kd194, rf176_1, rf176_2, rf176_4, rf176_5, rf176_6, rf176_8, rf176_9, rf176_10, rf176_11, rf176_12, rf176_13, rf176_14, rf176_16, rf176_17, rf176_18, rf176_19, rf176_20, rf176_23, ct77, p1, Int.toNat_natCast, p3]
      repeat (refine And.intro (by omega) ?_)
      refine ct84 (n := (μ3 176 3).toNat) (by omega) (hm6 h3') ?_
      intro μ4 g1 g2 g3 g4 g5
      have hR := recs_of g1 g2 (by omega) (by omega) g3 g4 g5
      simp (disch := first | omega | exact rfl) only [x141_33, x141_34, isF, isK, isH, mK, nl_i, nl_n, nl_o, nl_r, c1_i, c1_r, mPush, mRv, G0_1, true_and, and_true, and_self, implies_true, List.length_nil, List.length_cons, Nat.reduceAdd, Nat.reduceLeDiff, Nat.zero_le, beq_self_eq_true, Nat.reduceBEq, decide_true, Bool.and_self, reduceCtorEq, ne_eq, not_true_eq_false, not_false_eq_true, false_implies, true_implies, Nat.reduceLT, Nat.reduceEqDiff, or_true, true_or, or_false, false_or, or_self, Int.reduceEq, Int.reduceNe, Int.reduceLT, Int.reduceLE, Int.reduceAdd, Int.reduceSub, Int.reduceMul, Int.reduceNeg, Int.reduceToNat, if_true, if_false, Classical.not_not, Int.cast_ofNat_Int, kd176, kd177, kd178, kd179, kd180, kd181, kd182, kd183, kd184, kd185, kd186, kd187, kd188, kd189, kd190, kd191, kd192, kd193, kd194, rf176_1, rf176_2, rf176_4, rf176_5, rf176_6, rf176_8, rf176_9, rf176_10, rf176_11, rf176_12, rf176_13, rf176_14, rf176_16, rf176_17, rf176_18, rf176_19, rf176_20, rf176_23]
      refine zq141 hp1 148 0 _ (by omega) ?_
      intro r hr
      have eR : ∀ i, i < 148 → r i = lRow μ p i := by
        intro i hi
        rw [hr, if_pos (by omega), hR.1 179 (by omega) (by omega), e179]
        rfl
      have e6 : mRow μ4 r 177 6 = lRow μ p 6 := by rw [mRow_177, eR 6 (by omega)]
      simp (disch := first | omega | exact rfl) only [x141_66, x141_67, x141_70, x141_72, x141_73, isF, isK, isH, mK, nl_i, nl_n, nl_o, nl_r, c1_i, c1_r, mPush, mRv, G0_1, true_and, and_true, and_self, implies_true, List.length_nil, List.length_cons, Nat.reduceAdd, Nat.reduceLeDiff, Nat.zero_le, beq_self_eq_true, Nat.reduceBEq, decide_true, Bool.and_self, reduceCtorEq, ne_eq, not_true_eq_false, not_false_eq_true, false_implies, true_implies, Nat.reduceLT, Nat.reduceEqDiff, or_true, true_or, or_false, false_or, or_self, Int.reduceEq, Int.reduceNe, Int.reduceLT, Int.reduceLE, Int.reduceAdd, Int.reduceSub, Int.reduceMul, Int.reduceNeg, Int.reduceToNat, if_true, if_false, Classical.not_not, Int.cast_ofNat_Int, kd176, kd177, kd178, kd179, kd180, kd181, kd182, kd183, kd184, kd185, kd186, kd187, kd188, kd189, kd190, kd191, kd192, kd193, kd194, rf176_1, rf176_2, rf176_4, rf176_5, rf176_6, rf176_8, rf176_9, rf176_10, rf176_11, rf176_12, rf176_13, rf176_14, rf176_16, rf176_17, rf176_18, rf176_19, rf176_20, rf176_23, e6]
      obtain ⟨b1, b2, b3, b4, b5⟩ := hB
      exact INV_keep hI (rEq_wf eR l5) ⟨b1, b2, rEq_cRel eR b3, b4, b5⟩ hR
  · simp (disch := first | omega | exact rfl) only [x72_0, x72_1, x72_2, x72_3, x72_6, x72_9, x72_11, x72_12, x72_13, x72_16, x72_17, x72_18, x72_21, x72_23, x72_24, x72_25, x72_28, x72_29, x72_32, x72_35, x72_36, x72_39, x72_40, x72_43, x72_44, x72_45, x72_48, x72_49, x72_52, x72_55, x72_56, x72_59, x72_62, isF, isK, isH, mK, nl_i, nl_n, nl_o, nl_r, c1_i, c1_r, mPush, mRv, G0_1, true_and, and_true, and_self, implies_true, List.length_nil, List.length_cons, Nat.reduceAdd, Nat.reduceLeDiff, Nat.zero_le, beq_self_eq_true, Nat.reduceBEq, decide_true, Bool.and_self, reduceCtorEq, ne_eq, not_true_eq_false, not_false_eq_true, false_implies, true_implies, Nat.reduceLT, Nat.reduceEqDiff, or_true, true_or, or_false, false_or, or_self, Int.reduceEq, Int.reduceNe, Int.reduceLT, Int.reduceLE, Int.reduceAdd, Int.reduceSub, Int.reduceMul, Int.reduceNeg, Int.reduceToNat, if_true, if_false, Classical.not_not, Int.cast_ofNat_Int, kd0, rf0_0, rf0_1, rf0_2, rf0_3, rf0_4, rf0_5, rf0_6, rf0_7, rf0_8, kd1, ct74, if_neg p1]
    refine ⟨_, rfl, ?_⟩
    simp (disch := first | omega | exact rfl) only [x141_0, x141_1, x141_2, x141_5, x141_6, x141_7, x141_8, x141_11, x141_14, x141_16, x141_17, x141_18, x141_21, x141_22, x141_23, x141_26, x141_28, x141_29, x141_30, x141_33, x141_34, x141_35, x141_36, x141_39, x141_42, x141_43, x141_46, x141_47, x141_48, x141_51, x141_54, x141_55, x141_56, x141_57, x141_58, x141_59, x141_60, x141_66, x141_67, x141_70, x141_72, x141_73, isF, isK, isH, mK, nl_i, nl_n, nl_o, nl_r, c1_i, c1_r, mPush, mRv, G0_1, true_and, and_true, and_self, implies_true, List.length_nil, List.length_cons, Nat.reduceAdd, Nat.reduceLeDiff, Nat.zero_le, beq_self_eq_true, Nat.reduceBEq, decide_true, Bool.and_self, reduceCtorEq, ne_eq, not_true_eq_false, not_false_eq_true, false_implies, true_implies, Nat.reduceLT, Nat.reduceEqDiff, or_true, true_or, or_false, false_or, or_self, Int.reduceEq, Int.reduceNe, Int.reduceLT, Int.reduceLE, Int.reduceAdd, Int.reduceSub, Int.reduceMul, Int.reduceNeg, Int.reduceToNat, if_true, if_false, Classical.not_not, Int.cast_ofNat_Int, kd176, kd177, kd178, kd179, kd180, kd181, kd182, kd183, kd184, kd185, kd186, kd187, kd188, kd189, kd190, kd191, kd192, kd193, kd194, rf176_1, rf176_2, rf176_4, rf176_5, rf176_6, rf176_8, rf176_9, rf176_10, rf176_11, rf176_12, rf176_13, rf176_14, rf176_16, rf176_17, rf176_18, rf176_19, rf176_20, rf176_23, ct77, if_neg p1]
    exact INV_thr hI
