section MDROP
variable {E : ME} {Q : Option MV → MG → MU → Prop}
theorem mRow_self {μ : MU} : mRow μ (μ 177) = μ := by
  funext x; by_cases h : x = 177
  · subst h; simp [mRow]
  · simp [mRow, h]
theorem zq106 {n : Nat} (hn : n ≤ 19) {k : Int} : ∀ (m j : Nat) (μ : MU), j + m = 4 * n → μ 177 6 = n →
    (∀ r : Row, (∀ i, r i = if 68 + j ≤ i ∧ i < 68 + 4 * n then μ 177 (i + 4) else μ 177 i) → Wp E 106 54 [some (.inr (.inr (.inl 176))), some (.inl k), some (.inl (4 * (n : Int)))] [] G0 (mRow μ r) Q) →
    Wp E 106 15 [some (.inr (.inr (.inl 176))), some (.inl k), some (.inl j)] [] G0 μ Q := by
  intro m
  induction m with
  | zero =>
    intro j μ hj h6 h
    have e1 : j = 4 * n := by omega
    have e3 : ((j : Nat) : Int) = 4 * (n : Int) := by omega
    rw [e3]
    simp (disch := first | omega | exact rfl) only [x106_15, x106_16, x106_17, x106_18, x106_21, x106_23, x106_24, x106_25, isF, isK, isH, mK, nl_i, nl_n, nl_o, nl_r, c1_i, c1_r, mPush, mRv, G0_1, true_and, and_true, and_self, implies_true, List.length_nil, List.length_cons, Nat.reduceAdd, Nat.reduceLeDiff, Nat.zero_le, beq_self_eq_true, Nat.reduceBEq, decide_true, Bool.and_self, reduceCtorEq, ne_eq, not_true_eq_false, not_false_eq_true, false_implies, true_implies, Nat.reduceLT, Nat.reduceEqDiff, or_true, true_or, or_false, false_or, or_self, Int.reduceEq, Int.reduceNe, Int.reduceLT, Int.reduceLE, Int.reduceAdd, Int.reduceSub, Int.reduceMul, Int.reduceNeg, Int.reduceToNat, if_true, if_false, Classical.not_not, Int.cast_ofNat_Int, kd176, kd177, kd178, kd179, kd180, kd181, kd182, kd183, kd184, kd185, kd186, kd187, kd188, kd189, kd190, kd191, kd192, kd193, kd194, rf176_1, rf176_2, rf176_4, rf176_5, rf176_6, rf176_8, rf176_9, rf176_10, rf176_11, rf176_12, rf176_13, rf176_14, rf176_16, rf176_17, rf176_18, rf176_19, rf176_20, rf176_23, h6, mWr_of, Int.lt_irrefl, Int.le_refl]
    have := h (μ 177) (fun i => by rw [if_neg (by omega)])
    rw [mRow_self] at this
    repeat (refine And.intro (by omega) ?_)
    exact this
  | succ m ih =>
    intro j μ hj h6 h
    have e1 : ¬ 4 * (n : Int) ≤ j := by omega
    have e2 : (j : Int) < 4 * n := by omega
    have e3 : (68 + (j : Int) + 4).toNat = 68 + j + 4 := by omega
    have e5 : (68 + (j : Int)).toNat = 68 + j := by omega
    have e4 : (j : Int) + 1 = ((j + 1 : Nat) : Int) := by omega
    simp (disch := first | omega | exact rfl) only [x106_15, x106_16, x106_17, x106_18, x106_21, x106_23, x106_24, x106_25, x106_28, x106_29, x106_32, x106_34, x106_35, x106_36, x106_37, x106_40, x106_42, x106_43, x106_44, x106_45, x106_46, x106_47, x106_48, isF, isK, isH, mK, nl_i, nl_n, nl_o, nl_r, c1_i, c1_r, mPush, mRv, G0_1, true_and, and_true, and_self, implies_true, List.length_nil, List.length_cons, Nat.reduceAdd, Nat.reduceLeDiff, Nat.zero_le, beq_self_eq_true, Nat.reduceBEq, decide_true, Bool.and_self, reduceCtorEq, ne_eq, not_true_eq_false, not_false_eq_true, false_implies, true_implies, Nat.reduceLT, Nat.reduceEqDiff, or_true, true_or, or_false, false_or, or_self, Int.reduceEq, Int.reduceNe, Int.reduceLT, Int.reduceLE, Int.reduceAdd, Int.reduceSub, Int.reduceMul, Int.reduceNeg, Int.reduceToNat, if_true, if_false, Classical.not_not, Int.cast_ofNat_Int, kd176, kd177, kd178, kd179, kd180, kd181, kd182, kd183, kd184, kd185, kd186, kd187, kd188, kd189, kd190, kd191, kd192, kd193, kd194, rf176_1, rf176_2, rf176_4, rf176_5, rf176_6, rf176_8, rf176_9, rf176_10, rf176_11, rf176_12, rf176_13, rf176_14, rf176_16, rf176_17, rf176_18, rf176_19, rf176_20, rf176_23, h6, e1, e2, mWr_of, e3, e5, mUp_row]
    repeat (refine And.intro (by omega) ?_)
    rw [x106_51, e4]
    refine ih (j + 1) _ (by omega) ?_ ?_
    · rw [mRow_177, up_ne (by omega)]; exact h6
    intro r hr
    rw [mRow_row]
    apply h
    rw [mRow_177] at hr
    intro i
    rw [hr]
    by_cases hij : i = 68 + j
    · subst hij
      rw [if_neg (by omega), up_eq, if_pos (by omega)]
    · by_cases hq5 : 68 + (j + 1) ≤ i ∧ i < 68 + 4 * n
      · rw [if_pos hq5, up_ne (by omega), if_pos (by omega)]
      · rw [if_neg hq5, up_ne hij, if_neg (by omega)]
/-- dropsShow -/
theorem ct106 {μ : MU} (hw : wf (μ 177)) {k : Int} (hk : isK (μ 177) k) (hq : Q (some (.inl (μ 177 6 - 1))) G0 (mRow μ (lDrop (μ 177) k))) : Wp E 106 0 [some (.inr (.inr (.inl 176))), some (.inl k), none] [] G0 μ Q := by
  have b6 := hw.1.2.2.2.2.2.2
  obtain ⟨k1, k2⟩ := hk
  have e1 : 4 * k = ((4 * k.toNat : Nat) : Int) := by omega
  have e2 : μ 177 6 - 1 = (((μ 177 6).toNat - 1 : Nat) : Int) := by omega
  simp (disch := first | omega | exact rfl) only [x106_0, x106_1, x106_4, x106_6, x106_7, x106_8, x106_9, x106_10, x106_11, x106_12, x106_13, x106_14, isF, isK, isH, mK, nl_i, nl_n, nl_o, nl_r, c1_i, c1_r, mPush, mRv, G0_1, true_and, and_true, and_self, implies_true, List.length_nil, List.length_cons, Nat.reduceAdd, Nat.reduceLeDiff, Nat.zero_le, beq_self_eq_true, Nat.reduceBEq, decide_true, Bool.and_self, reduceCtorEq, ne_eq, not_true_eq_false, not_false_eq_true, false_implies, true_implies, Nat.reduceLT, Nat.reduceEqDiff, or_true, true_or, or_false, false_or, or_self, Int.reduceEq, Int.reduceNe, Int.reduceLT, Int.reduceLE, Int.reduceAdd, Int.reduceSub, Int.reduceMul, Int.reduceNeg, Int.reduceToNat, if_true, if_false, Classical.not_not, Int.cast_ofNat_Int, kd176, kd177, kd178, kd179, kd180, kd181, kd182, kd183, kd184, kd185, kd186, kd187, kd188, kd189, kd190, kd191, kd192, kd193, kd194, rf176_1, rf176_2, rf176_4, rf176_5, rf176_6, rf176_8, rf176_9, rf176_10, rf176_11, rf176_12, rf176_13, rf176_14, rf176_16, rf176_17, rf176_18, rf176_19, rf176_20, rf176_23, mUp_row, mWr_of]
  repeat (refine And.intro (by omega) ?_)
  rw [e1]
  refine zq106 (n := (μ 177 6).toNat - 1) (by omega) (4 * ((μ 177 6).toNat - 1) - 4 * k.toNat) (4 * k.toNat) _ (by omega) ?_ ?_
  · rw [mRow_177, up_eq]; exact e2
  intro r hr
  rw [mRow_177] at hr
  rw [mRow_row]
  have r6 : r 6 = μ 177 6 - 1 := by rw [hr, if_neg (by omega), up_eq]
  have c0 : mRow μ r 177 6 = μ 177 6 - 1 := by rw [mRow_177]; exact r6
  simp (disch := first | omega | exact rfl) only [x106_0, x106_1, x106_4, x106_6, x106_7, x106_8, x106_9, x106_10, x106_11, x106_12, x106_13, x106_14, x106_15, x106_16, x106_17, x106_18, x106_21, x106_23, x106_24, x106_25, x106_28, x106_29, x106_32, x106_34, x106_35, x106_36, x106_37, x106_40, x106_42, x106_43, x106_44, x106_45, x106_46, x106_47, x106_48, x106_54, x106_55, x106_56, x106_57, x106_58, x106_61, x106_62, x106_65, x106_67, x106_68, x106_69, x106_72, x106_74, x106_75, x106_76, x106_77, x106_78, x106_79, x106_80, x106_81, x106_87, x106_88, x106_91, x106_93, x106_94, isF, isK, isH, mK, nl_i, nl_n, nl_o, nl_r, c1_i, c1_r, mPush, mRv, G0_1, true_and, and_true, and_self, implies_true, List.length_nil, List.length_cons, Nat.reduceAdd, Nat.reduceLeDiff, Nat.zero_le, beq_self_eq_true, Nat.reduceBEq, decide_true, Bool.and_self, reduceCtorEq, ne_eq, not_true_eq_false, not_false_eq_true, false_implies, true_implies, Nat.reduceLT, Nat.reduceEqDiff, or_true, true_or, or_false, false_or, or_self, Int.reduceEq, Int.reduceNe, Int.reduceLT, Int.reduceLE, Int.reduceAdd, Int.reduceSub, Int.reduceMul, Int.reduceNeg, Int.reduceToNat, if_true, if_false, Classical.not_not, Int.cast_ofNat_Int, kd176, kd177, kd178, kd179, kd180, kd181, kd182, kd183, kd184, kd185, kd186, kd187, kd188, kd189, kd190, kd191, kd192, kd193, kd194, rf176_1, rf176_2, rf176_4, rf176_5, rf176_6, rf176_8, rf176_9, rf176_10, rf176_11, rf176_12, rf176_13, rf176_14, rf176_16, rf176_17, rf176_18, rf176_19, rf176_20, rf176_23, mUp_row, mRow_row, mRow_177, up_ne, r6, mWr_of, Int.add_zero]
  iterate 4 (rw [x106_84]; simp (disch := first | omega | exact rfl) only [x106_0, x106_1, x106_4, x106_6, x106_7, x106_8, x106_9, x106_10, x106_11, x106_12, x106_13, x106_14, x106_15, x106_16, x106_17, x106_18, x106_21, x106_23, x106_24, x106_25, x106_28, x106_29, x106_32, x106_34, x106_35, x106_36, x106_37, x106_40, x106_42, x106_43, x106_44, x106_45, x106_46, x106_47, x106_48, x106_54, x106_55, x106_56, x106_57, x106_58, x106_61, x106_62, x106_65, x106_67, x106_68, x106_69, x106_72, x106_74, x106_75, x106_76, x106_77, x106_78, x106_79, x106_80, x106_81, x106_87, x106_88, x106_91, x106_93, x106_94, isF, isK, isH, mK, nl_i, nl_n, nl_o, nl_r, c1_i, c1_r, mPush, mRv, G0_1, true_and, and_true, and_self, implies_true, List.length_nil, List.length_cons, Nat.reduceAdd, Nat.reduceLeDiff, Nat.zero_le, beq_self_eq_true, Nat.reduceBEq, decide_true, Bool.and_self, reduceCtorEq, ne_eq, not_true_eq_false, not_false_eq_true, false_implies, true_implies, Nat.reduceLT, Nat.reduceEqDiff, or_true, true_or, or_false, false_or, or_self, Int.reduceEq, Int.reduceNe, Int.reduceLT, Int.reduceLE, Int.reduceAdd, Int.reduceSub, Int.reduceMul, Int.reduceNeg, Int.reduceToNat, if_true, if_false, Classical.not_not, Int.cast_ofNat_Int, kd176, kd177, kd178, kd179, kd180, kd181, kd182, kd183, kd184, kd185, kd186, kd187, kd188, kd189, kd190, kd191, kd192, kd193, kd194, rf176_1, rf176_2, rf176_4, rf176_5, rf176_6, rf176_8, rf176_9, rf176_10, rf176_11, rf176_12, rf176_13, rf176_14, rf176_16, rf176_17, rf176_18, rf176_19, rf176_20, rf176_23, mUp_row, mRow_row, mRow_177, up_ne, r6, mWr_of, Int.add_zero])
  repeat (refine And.intro (by omega) ?_)
  refine Q_row hq ?_
  intro i
  simp only [up, lDrop]
  have hi := hr i
  simp only [up] at hi
  omega
end MDROP
/-! KEEPING A STATE, BOTH SIDES -/
theorem hRel_keep {μ μ' : MU} (hI : hRel μ) (hw : wf (μ 177)) (hc : cRel μ' (rAt μ (μ 49 2).toNat) (μ 177))
    (hb : ∀ x, (51 ≤ x ∧ x ≤ 127) → (x < rAt μ (μ 49 2).toNat ∨ rAt μ (μ 49 2).toNat + 10 < x) → μ' x = μ x)
    (h2 : μ' 49 2 = if μ 49 2 < 6 then μ 49 2 + 1 else μ 49 2) (h1 : μ' 49 1 = if μ 49 2 < 6 then μ 49 1 else (μ 49 1 + 1) % 7)
    (h3 : μ' 176 3 = if μ 49 2 < 6 then μ 49 2 + 1 else μ 49 2)
    (ha : μ 49 2 < 6 → ∀ i, μ' 178 i = if 148 * (μ 49 2).toNat ≤ i ∧ i < 148 * (μ 49 2).toNat + 148 then μ 177 (i - 148 * (μ 49 2).toNat) else μ 178 i)
    (hz : μ 49 2 = 6 → ∀ i, i < 888 → μ' 178 i = if i < 740 then μ 178 (i + 148) else μ 177 (i - 740)) : hRel μ' := by
  obtain ⟨i1, i2, i3, i4⟩ := hI
  refine ⟨by omega, by omega, by omega, ?_⟩
  intro j hj hj2
  by_cases p1 : μ 49 2 < 6
  · have ha := ha p1
    rw [if_pos p1] at h1 h2
    have er : rAt μ' j = rAt μ j := by unfold rAt; rw [h1]
    by_cases hjn : (j : Int) < μ 49 2
    · obtain ⟨q1, q2⟩ := i4 j hj hjn
      have eR : ∀ i, i < 148 → hRow μ' j i = hRow μ j i := by
        intro i hi
        unfold hRow
        rw [ha, if_neg (by omega)]
      refine ⟨?_, rEq_wf eR q2⟩
      refine rEq_cRel eR ?_
      rw [er]
      refine cRel_fr ?_ q1
      intro x hx1 hx2
      unfold rAt at hx1 hx2
      apply hb x (by omega)
      unfold rAt
      omega
    · have hjn' : j = (μ 49 2).toNat := by omega
      have eR : ∀ i, i < 148 → hRow μ' j i = μ 177 i := by
        intro i hi
        unfold hRow
        rw [ha, if_pos (by omega)]
        congr 1; omega
      refine ⟨?_, rEq_wf eR hw⟩
      refine rEq_cRel eR ?_
      rw [er, hjn']
      exact hc
  · have p2 : μ 49 2 = 6 := by omega
    have hz := hz p2
    rw [if_neg p1] at h1 h2
    by_cases hjn : j < 5
    · obtain ⟨q1, q2⟩ := i4 (j + 1) (by omega) (by omega)
      have er : rAt μ' j = rAt μ (j + 1) := by unfold rAt; rw [h1]; omega
      have eR : ∀ i, i < 148 → hRow μ' j i = hRow μ (j + 1) i := by
        intro i hi
        unfold hRow
        rw [hz _ (by omega), if_pos (by omega)]
        congr 1; omega
      refine ⟨?_, rEq_wf eR q2⟩
      refine rEq_cRel eR ?_
      rw [er]
      refine cRel_fr ?_ q1
      intro x hx1 hx2
      unfold rAt at hx1 hx2
      apply hb x (by omega)
      unfold rAt
      omega
    · have hjn' : j = 5 := by omega
      have eR : ∀ i, i < 148 → hRow μ' j i = μ 177 i := by
        intro i hi
        unfold hRow
        rw [hz _ (by omega), if_neg (by omega)]
        have e9 : 148 * j + i - 740 = i := by omega
        rw [e9]
      refine ⟨?_, rEq_wf eR hw⟩
      refine rEq_cRel eR ?_
      have er : rAt μ' j = rAt μ (μ 49 2).toNat := by unfold rAt; rw [h1]; omega
      rw [er]
      exact hc
