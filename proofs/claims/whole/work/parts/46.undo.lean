section UNDO
variable {E : ME} {Q : Option MV → MG → MU → Prop}
theorem ct17 {μ : MU} (h1 : 0 ≤ μ 49 1 ∧ μ 49 1 ≤ 6) (h2 : 0 ≤ μ 49 2 ∧ μ 49 2 ≤ 6) (hno : μ 49 2 = 0 → Q (some (.inl (-5))) G0 μ) (hok : 1 ≤ μ 49 2 → ∀ μ', frC 1 (mUp μ 49 2 (μ 49 2 - 1)) μ' → cSame μ' 1 μ (rAt μ ((μ 49 2).toNat - 1)) → Q (some (.inl (μ 49 2 - 1))) G0 μ') : Wp E 17 0 [some (.inr (.inr (.inl 49))), some (.inr (.inr (.inl 1)))] [] G0 μ Q := by
  by_cases p1 : μ 49 2 = 0
  · simp (disch := first | omega | exact rfl) only [x17_0, x17_1, x17_4, x17_7, x17_9, x17_10, x17_11, x17_12, x17_15, x17_16, x17_17, x17_20, x17_21, x17_22, x17_25, x17_26, x17_29, x17_30, x17_33, x17_34, x17_36, x17_37, x17_38, x17_41, x17_42, x17_45, isF, isK, isH, mK, nl_i, nl_n, nl_o, nl_r, c1_i, c1_r, mPush, mRv, G0_1, true_and, and_true, and_self, implies_true, List.length_nil, List.length_cons, Nat.reduceAdd, Nat.reduceLeDiff, Nat.zero_le, beq_self_eq_true, Nat.reduceBEq, decide_true, Bool.and_self, reduceCtorEq, ne_eq, not_true_eq_false, not_false_eq_true, false_implies, true_implies, Nat.reduceLT, Nat.reduceEqDiff, or_true, true_or, or_false, false_or, or_self, Int.reduceEq, Int.reduceNe, Int.reduceLT, Int.reduceLE, Int.reduceAdd, Int.reduceSub, Int.reduceMul, Int.reduceNeg, Int.reduceToNat, if_true, if_false, Classical.not_not, Int.cast_ofNat_Int, kd49, kd50, rf49_0, rf50_0, rf50_1, rf50_2, rf50_3, rf50_4, rf50_5, rf50_6, p1]
    exact hno p1
  · have e1 : (μ 49 1 + (μ 49 2 - 1)).tmod 7 = (μ 49 1 + (μ 49 2 - 1)) % 7 := Int.tmod_eq_emod_of_nonneg (by omega)
    have e2 : ((μ 49 1 + (μ 49 2 - 1)) % 7).toNat = ((μ 49 1).toNat + ((μ 49 2).toNat - 1)) % 7 := by omega
    have e3 : ((μ 49 1).toNat + ((μ 49 2).toNat - 1)) % 7 < 7 := Nat.mod_lt _ (by omega)
    simp (disch := first | omega | exact rfl) only [x17_0, x17_1, x17_4, x17_7, x17_9, x17_10, x17_11, x17_12, x17_15, x17_16, x17_17, x17_20, x17_21, x17_22, x17_25, x17_26, x17_29, x17_30, x17_33, x17_34, x17_36, x17_37, x17_38, x17_41, x17_42, x17_45, isF, isK, isH, mK, nl_i, nl_n, nl_o, nl_r, c1_i, c1_r, mPush, mRv, G0_1, true_and, and_true, and_self, implies_true, List.length_nil, List.length_cons, Nat.reduceAdd, Nat.reduceLeDiff, Nat.zero_le, beq_self_eq_true, Nat.reduceBEq, decide_true, Bool.and_self, reduceCtorEq, ne_eq, not_true_eq_false, not_false_eq_true, false_implies, true_implies, Nat.reduceLT, Nat.reduceEqDiff, or_true, true_or, or_false, false_or, or_self, Int.reduceEq, Int.reduceNe, Int.reduceLT, Int.reduceLE, Int.reduceAdd, Int.reduceSub, Int.reduceMul, Int.reduceNeg, Int.reduceToNat, if_true, if_false, Classical.not_not, Int.cast_ofNat_Int, kd49, kd50, rf49_0, rf50_0, rf50_1, rf50_2, rf50_3, rf50_4, rf50_5, rf50_6, kd1, p1, mUp_eq, mUp_nj, mWr_of, e1, e2, rf50 _ e3]
    repeat (refine And.intro (by omega) ?_)
    refine ct1 gC1 (gC50 _ e3) (by omega) ?_
    intro μ' f1 f2
    have e4 : μ' 49 2 = μ 49 2 - 1 := by rw [f1 49 (by omega), mUp_eq]
    simp (disch := first | omega | exact rfl) only [x17_0, x17_1, x17_4, x17_7, x17_9, x17_10, x17_11, x17_12, x17_15, x17_16, x17_17, x17_20, x17_21, x17_22, x17_25, x17_26, x17_29, x17_30, x17_33, x17_34, x17_36, x17_37, x17_38, x17_41, x17_42, x17_45, isF, isK, isH, mK, nl_i, nl_n, nl_o, nl_r, c1_i, c1_r, mPush, mRv, G0_1, true_and, and_true, and_self, implies_true, List.length_nil, List.length_cons, Nat.reduceAdd, Nat.reduceLeDiff, Nat.zero_le, beq_self_eq_true, Nat.reduceBEq, decide_true, Bool.and_self, reduceCtorEq, ne_eq, not_true_eq_false, not_false_eq_true, false_implies, true_implies, Nat.reduceLT, Nat.reduceEqDiff, or_true, true_or, or_false, false_or, or_self, Int.reduceEq, Int.reduceNe, Int.reduceLT, Int.reduceLE, Int.reduceAdd, Int.reduceSub, Int.reduceMul, Int.reduceNeg, Int.reduceToNat, if_true, if_false, Classical.not_not, Int.cast_ofNat_Int, kd49, kd50, rf49_0, rf50_0, rf50_1, rf50_2, rf50_3, rf50_4, rf50_5, rf50_6, e4]
    refine hok (by omega) μ' f1 ?_
    unfold cSame at f2 ⊢
    unfold rAt
    simp (disch := omega) only [mUp_ne] at f2
    exact f2
theorem zq139 {n : Nat} (hn : n ≤ 5) : ∀ (m j : Nat) (μ : MU), j + m = 148 → μ 176 3 = n →
    (∀ r : Row, (∀ i, r i = if j ≤ i ∧ i < 148 then μ 178 (148 * n + i) else μ 177 i) → Wp E 139 61 [some (.inr (.inr (.inl 176))), some (.inl 148)] [] G0 (mRow μ r) Q) →
    Wp E 139 27 [some (.inr (.inr (.inl 176))), some (.inl j)] [] G0 μ Q := by
  intro m
  induction m with
  | zero =>
    intro j μ hj hm h
    have e1 : j = 148 := by omega
    subst e1
    simp (disch := first | omega | exact rfl) only [x139_27, x139_28, x139_31, isF, isK, isH, mK, nl_i, nl_n, nl_o, nl_r, c1_i, c1_r, mPush, mRv, G0_1, true_and, and_true, and_self, implies_true, List.length_nil, List.length_cons, Nat.reduceAdd, Nat.reduceLeDiff, Nat.zero_le, beq_self_eq_true, Nat.reduceBEq, decide_true, Bool.and_self, reduceCtorEq, ne_eq, not_true_eq_false, not_false_eq_true, false_implies, true_implies, Nat.reduceLT, Nat.reduceEqDiff, or_true, true_or, or_false, false_or, or_self, Int.reduceEq, Int.reduceNe, Int.reduceLT, Int.reduceLE, Int.reduceAdd, Int.reduceSub, Int.reduceMul, Int.reduceNeg, Int.reduceToNat, if_true, if_false, Classical.not_not, Int.cast_ofNat_Int]
    have := h (μ 177) (fun i => by rw [if_neg (by omega)])
    rw [mRow_self] at this
    exact this
  | succ m ih =>
    intro j μ hj hm h
    have e1 : ¬ (148 : Int) ≤ j := by omega
    have e2 : (j : Int) < 148 := by omega
    have e3 : (148 * (n : Int) + j).toNat = 148 * n + j := by omega
    have e4 : (j : Int) + 1 = ((j + 1 : Nat) : Int) := by omega
    simp (disch := first | omega | exact rfl) only [x139_27, x139_28, x139_31, x139_34, x139_35, x139_38, x139_39, x139_40, x139_43, x139_46, x139_47, x139_50, x139_51, x139_52, x139_53, x139_54, x139_55, isF, isK, isH, mK, nl_i, nl_n, nl_o, nl_r, c1_i, c1_r, mPush, mRv, G0_1, true_and, and_true, and_self, implies_true, List.length_nil, List.length_cons, Nat.reduceAdd, Nat.reduceLeDiff, Nat.zero_le, beq_self_eq_true, Nat.reduceBEq, decide_true, Bool.and_self, reduceCtorEq, ne_eq, not_true_eq_false, not_false_eq_true, false_implies, true_implies, Nat.reduceLT, Nat.reduceEqDiff, or_true, true_or, or_false, false_or, or_self, Int.reduceEq, Int.reduceNe, Int.reduceLT, Int.reduceLE, Int.reduceAdd, Int.reduceSub, Int.reduceMul, Int.reduceNeg, Int.reduceToNat, if_true, if_false, Classical.not_not, Int.cast_ofNat_Int, kd176, kd177, kd178, kd179, kd180, kd181, kd182, kd183, kd184, kd185, kd186, kd187, kd188, kd189, kd190, kd191, kd192, kd193, kd194, rf176_1, rf176_2, rf176_4, rf176_5, rf176_6, rf176_8, rf176_9, rf176_10, rf176_11, rf176_12, rf176_13, rf176_14, rf176_16, rf176_17, rf176_18, rf176_19, rf176_20, rf176_23, e1, e2, hm, mWr_of, Int.toNat_natCast, e3, mUp_row]
    repeat (refine And.intro (by omega) ?_)
    rw [x139_58, e4]
    refine ih (j + 1) _ (by omega) ?_ ?_
    · rw [mRow_ne (by omega)]; exact hm
    intro r hr
    rw [mRow_row]
    apply h
    rw [mRow_177, mRow_ne (by omega)] at hr
    intro i
    rw [hr]
    by_cases hij : i = j
    · subst hij
      rw [if_neg (by omega), up_eq, if_pos (by omega)]
    · by_cases hq5 : j + 1 ≤ i ∧ i < 148
      · rw [if_pos hq5, if_pos (by omega)]
      · rw [if_neg hq5, up_ne hij, if_neg (by omega)]
end UNDO
theorem op70 {E : ME} {μ : MU} (hI : INV μ) : OPS E 70 [] 139 [none] μ := by
  obtain ⟨hw, hc, hh, hl, hp⟩ := id hI
  have h1 := hh.2.2.1
  have h2 := hh.1
  have h3 := hh.2.1
  unfold OPS
  simp (disch := first | omega | exact rfl) only [x70_0, x70_1, x70_4, x70_5, x70_8, x70_11, isF, isK, isH, mK, nl_i, nl_n, nl_o, nl_r, c1_i, c1_r, mPush, mRv, G0_1, true_and, and_true, and_self, implies_true, List.length_nil, List.length_cons, Nat.reduceAdd, Nat.reduceLeDiff, Nat.zero_le, beq_self_eq_true, Nat.reduceBEq, decide_true, Bool.and_self, reduceCtorEq, ne_eq, not_true_eq_false, not_false_eq_true, false_implies, true_implies, Nat.reduceLT, Nat.reduceEqDiff, or_true, true_or, or_false, false_or, or_self, Int.reduceEq, Int.reduceNe, Int.reduceLT, Int.reduceLE, Int.reduceAdd, Int.reduceSub, Int.reduceMul, Int.reduceNeg, Int.reduceToNat, if_true, if_false, Classical.not_not, Int.cast_ofNat_Int, kd0, rf0_0, rf0_1, rf0_2, rf0_3, rf0_4, rf0_5, rf0_6, rf0_7, rf0_8, kd49, kd50, rf49_0, rf50_0, rf50_1, rf50_2, rf50_3, rf50_4, rf50_5, rf50_6, kd1]
  refine ct17 h1 h2 ?_ ?_
  · intro p1
    have p2 : μ 176 3 = 0 := by omega
    simp (disch := first | omega | exact rfl) only [x70_0, x70_1, x70_4, x70_5, x70_8, x70_11, isF, isK, isH, mK, nl_i, nl_n, nl_o, nl_r, c1_i, c1_r, mPush, mRv, G0_1, true_and, and_true, and_self, implies_true, List.length_nil, List.length_cons, Nat.reduceAdd, Nat.reduceLeDiff, Nat.zero_le, beq_self_eq_true, Nat.reduceBEq, decide_true, Bool.and_self, reduceCtorEq, ne_eq, not_true_eq_false, not_false_eq_true, false_implies, true_implies, Nat.reduceLT, Nat.reduceEqDiff, or_true, true_or, or_false, false_or, or_self, Int.reduceEq, Int.reduceNe, Int.reduceLT, Int.reduceLE, Int.reduceAdd, Int.reduceSub, Int.reduceMul, Int.reduceNeg, Int.reduceToNat, if_true, if_false, Classical.not_not, Int.cast_ofNat_Int]
    refine ⟨_, rfl, ?_⟩
    simp (disch := first | omega | exact rfl) only [x139_0, x139_1, x139_2, x139_5, x139_6, x139_9, x139_12, x139_14, x139_15, x139_16, x139_17, x139_20, x139_21, x139_22, x139_25, x139_26, x139_27, x139_28, x139_31, x139_34, x139_35, x139_38, x139_39, x139_40, x139_43, x139_46, x139_47, x139_50, x139_51, x139_52, x139_53, x139_54, x139_55, x139_61, x139_62, x139_65, isF, isK, isH, mK, nl_i, nl_n, nl_o, nl_r, c1_i, c1_r, mPush, mRv, G0_1, true_and, and_true, and_self, implies_true, List.length_nil, List.length_cons, Nat.reduceAdd, Nat.reduceLeDiff, Nat.zero_le, beq_self_eq_true, Nat.reduceBEq, decide_true, Bool.and_self, reduceCtorEq, ne_eq, not_true_eq_false, not_false_eq_true, false_implies, true_implies, Nat.reduceLT, Nat.reduceEqDiff, or_true, true_or, or_false, false_or, or_self, Int.reduceEq, Int.reduceNe, Int.reduceLT, Int.reduceLE, Int.reduceAdd, Int.reduceSub, Int.reduceMul, Int.reduceNeg, Int.reduceToNat, if_true, if_false, Classical.not_not, Int.cast_ofNat_Int, kd176, kd177, kd178, kd179, kd180, kd181, kd182, kd183, kd184, kd185, kd186, kd187, kd188, kd189, kd190, kd191, kd192, kd193, kd194, rf176_1, rf176_2, rf176_4, rf176_5, rf176_6, rf176_8, rf176_9, rf176_10, rf176_11, rf176_12, rf176_13, rf176_14, rf176_16, rf176_17, rf176_18, rf176_19, rf176_20, rf176_23, mUp_nj, p2]
    refine INV_pad hI (fun x _ _ _ hq4 _ _ => mUp_ne hq4) (mUp_nj (by omega)) ?_
    unfold pRel
    rw [mUp_nj (by omega), mUp_ne (by omega), mUp_ne (by omega), mUp_ne (by omega)]
    exact hp
  · intro p1 μ1 f1 s1
    have e176 : μ1 176 = μ 176 := by rw [f1 176 (by omega), mUp_ne (by omega)]
    have p3 : ¬ μ 176 3 = 0 := by omega
    simp (disch := first | omega | exact rfl) only [x70_0, x70_1, x70_4, x70_5, x70_8, x70_11, isF, isK, isH, mK, nl_i, nl_n, nl_o, nl_r, c1_i, c1_r, mPush, mRv, G0_1, true_and, and_true, and_self, implies_true, List.length_nil, List.length_cons, Nat.reduceAdd, Nat.reduceLeDiff, Nat.zero_le, beq_self_eq_true, Nat.reduceBEq, decide_true, Bool.and_self, reduceCtorEq, ne_eq, not_true_eq_false, not_false_eq_true, false_implies, true_implies, Nat.reduceLT, Nat.reduceEqDiff, or_true, true_or, or_false, false_or, or_self, Int.reduceEq, Int.reduceNe, Int.reduceLT, Int.reduceLE, Int.reduceAdd, Int.reduceSub, Int.reduceMul, Int.reduceNeg, Int.reduceToNat, if_true, if_false, Classical.not_not, Int.cast_ofNat_Int]
    refine ⟨_, rfl, ?_⟩
    simp (disch := first | omega | exact rfl) only [x139_0, x139_1, x139_2, x139_5, x139_6, x139_9, x139_15, x139_16, x139_17, x139_20, x139_21, x139_22, x139_25, x139_26, isF, isK, isH, mK, nl_i, nl_n, nl_o, nl_r, c1_i, c1_r, mPush, mRv, G0_1, true_and, and_true, and_self, implies_true, List.length_nil, List.length_cons, Nat.reduceAdd, Nat.reduceLeDiff, Nat.zero_le, beq_self_eq_true, Nat.reduceBEq, decide_true, Bool.and_self, reduceCtorEq, ne_eq, not_true_eq_false, not_false_eq_true, false_implies, true_implies, Nat.reduceLT, Nat.reduceEqDiff, or_true, true_or, or_false, false_or, or_self, Int.reduceEq, Int.reduceNe, Int.reduceLT, Int.reduceLE, Int.reduceAdd, Int.reduceSub, Int.reduceMul, Int.reduceNeg, Int.reduceToNat, if_true, if_false, Classical.not_not, Int.cast_ofNat_Int, kd176, kd177, kd178, kd179, kd180, kd181, kd182, kd183, kd184, kd185, kd186, kd187, kd188, kd189, kd190, kd191, kd192, kd193, kd194, rf176_1, rf176_2, rf176_4, rf176_5, rf176_6, rf176_8, rf176_9, rf176_10, rf176_11, rf176_12, rf176_13, rf176_14, rf176_16, rf176_17, rf176_18, rf176_19, rf176_20, rf176_23, mUp_nj, e176, p3, mWr_of]
    refine zq139 (n := (μ 176 3).toNat - 1) (by omega) 148 0 _ (by omega) (by rw [mUp_eq]; omega) ?_
    intro r hr
    have e4 : mRow (mUp (mUp μ1 176 0 0) 176 3 (μ 176 3 - 1)) r 176 3 = μ 176 3 - 1 := by rw [mRow_ne (by omega), mUp_eq]
    simp (disch := first | omega | exact rfl) only [x139_61, x139_62, x139_65, isF, isK, isH, mK, nl_i, nl_n, nl_o, nl_r, c1_i, c1_r, mPush, mRv, G0_1, true_and, and_true, and_self, implies_true, List.length_nil, List.length_cons, Nat.reduceAdd, Nat.reduceLeDiff, Nat.zero_le, beq_self_eq_true, Nat.reduceBEq, decide_true, Bool.and_self, reduceCtorEq, ne_eq, not_true_eq_false, not_false_eq_true, false_implies, true_implies, Nat.reduceLT, Nat.reduceEqDiff, or_true, true_or, or_false, false_or, or_self, Int.reduceEq, Int.reduceNe, Int.reduceLT, Int.reduceLE, Int.reduceAdd, Int.reduceSub, Int.reduceMul, Int.reduceNeg, Int.reduceToNat, if_true, if_false, Classical.not_not, Int.cast_ofNat_Int, kd176, kd177, kd178, kd179, kd180, kd181, kd182, kd183, kd184, kd185, kd186, kd187, kd188, kd189, kd190, kd191, kd192, kd193, kd194, rf176_1, rf176_2, rf176_4, rf176_5, rf176_6, rf176_8, rf176_9, rf176_10, rf176_11, rf176_12, rf176_13, rf176_14, rf176_16, rf176_17, rf176_18, rf176_19, rf176_20, rf176_23, e4, h3]
    have e : ∀ x, (x < 1 ∨ 11 < x) → ¬ x = 49 → ¬ x = 176 → ¬ x = 177 → mRow (mUp (mUp μ1 176 0 0) 176 3 (μ 49 2 - 1)) r x = μ x := by
      intro x q1 q2 q3 q4
      rw [mRow_ne q4, mUp_ne q3, mUp_ne q3, f1 x q1, mUp_ne q2]
    obtain ⟨g1, g2⟩ := hh.2.2.2 ((μ 49 2).toNat - 1) (by omega) (by omega)
    have eR : ∀ i, i < 148 → r i = hRow μ ((μ 49 2).toNat - 1) i := by
      intro i hi
      rw [hr, if_pos (by omega), mUp_ne (by omega), mUp_ne (by omega), f1 178 (by omega), mUp_ne (by omega), h3]
      rfl
    have e49a : mRow (mUp (mUp μ1 176 0 0) 176 3 (μ 49 2 - 1)) r 49 2 = μ 49 2 - 1 := by
      rw [mRow_ne (by omega), mUp_ne (by omega), mUp_ne (by omega), f1 49 (by omega), mUp_eq]
    have e49b : mRow (mUp (mUp μ1 176 0 0) 176 3 (μ 49 2 - 1)) r 49 1 = μ 49 1 := by
      rw [mRow_ne (by omega), mUp_ne (by omega), mUp_ne (by omega), f1 49 (by omega), mUp_nj (by omega)]
    rw [h3] at e4
    have ej : ∀ j, ¬ j = 0 → ¬ j = 3 → mRow (mUp (mUp μ1 176 0 0) 176 3 (μ 49 2 - 1)) r 176 j = μ 176 j := by
      intro j q1 q2
      rw [mRow_ne (by omega), mUp_nj q2, mUp_nj q1, e176]
    have ec : ∀ x, 1 ≤ x → x ≤ 11 → mRow (mUp (mUp μ1 176 0 0) 176 3 (μ 49 2 - 1)) r x = μ1 x := by
      intro x q1 q2
      rw [mRow_ne (by omega), mUp_ne (by omega), mUp_ne (by omega)]
    have e177 : mRow (mUp (mUp μ1 176 0 0) 176 3 (μ 49 2 - 1)) r 177 = r := mRow_177
    generalize mRow (mUp (mUp μ1 176 0 0) 176 3 (μ 49 2 - 1)) r = μ3 at *
    refine ⟨by rw [e4], ?_⟩
    have hwr : wf r := rEq_wf eR g2
    refine ⟨by rw [e177]; exact hwr, ?_, ⟨by omega, by omega, by omega, ?_⟩, ?_, ?_⟩
    · rw [e177]; exact cRel_fr (μ := μ1) (fun x q1 q2 => ec x q1 (by omega)) (rEq_cRel eR (cSame_rel s1 g1))
    · intro j hj hj2
      rw [e49a] at hj2
      obtain ⟨q1, q2⟩ := hh.2.2.2 j hj (by omega)
      have er : rAt μ3 j = rAt μ j := by unfold rAt; rw [e49b]
      have eh : hRow μ3 j = hRow μ j := by unfold hRow; rw [e 178 (by omega) (by omega) (by omega) (by omega)]
      rw [er, eh]
      refine ⟨cRel_fr (fun x q3 q4 => ?_) q1, q2⟩
      unfold rAt at q3 q4
      exact e x (by omega) (by omega) (by omega) (by omega)
    · intro i hi
      obtain ⟨q1, q2, q3⟩ := hl i hi
      have e132 := e 132 (by omega) (by omega) (by omega) (by omega)
      have e180 := e 180 (by omega) (by omega) (by omega) (by omega)
      have el : lRow μ3 i = lRow μ i := by unfold lRow; rw [e 179 (by omega) (by omega) (by omega) (by omega)]
      rw [e132, e180, el]
      exact ⟨q1, q2, fun z => ⟨cRel_fr (fun x q4 q5 => e x (by omega) (by omega) (by omega) (by omega)) (q3 z).1, (q3 z).2⟩⟩
    · unfold pRel
      rw [e 128 (by omega) (by omega) (by omega) (by omega), e 129 (by omega) (by omega) (by omega) (by omega), e 181 (by omega) (by omega) (by omega) (by omega), ej 7 (by omega) (by omega)]
      exact hp
