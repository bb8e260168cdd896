theorem rTear0 {s : Row} {f r m : Int} (h : rTear s f r m = 0) : isR s f r ∧ (0 ≤ m ∧ m ≤ 1439) := by
  unfold rTear at h
  by_cases hr : isR s f r
  · rw [if_neg (fun z => z hr)] at h
    exact ⟨hr, by omega⟩
  · rw [if_pos hr] at h; omega
theorem tornOf_ok {s : Row} (hw : wf s) {f r : Int} (hr : isR s f r) : ¬ (tornOf s f r < 0 ∧ ¬ tornOf s f r = -6) := by
  obtain ⟨⟨r1, r2⟩, r3, r4⟩ := hr
  have w5 := hw.1
  have w1 := hw.2.2.1 f.toNat (by omega) (by omega)
  have w2 := (w1.2.2.2 r.toNat (by omega)).1
  unfold tornOf
  omega
section CLS
variable {E : ME} {μ : MU} {Q : Option MV → MG → MU → Prop}
theorem cl41 (hI : INV μ) {r h t : Int} (hno : ¬ rFilm (μ 177) r h t = 0 → ∀ μ', cA μ μ' → Q (some (.inl (rFilm (μ 177) r h t))) G0 μ') (hok : rFilm (μ 177) r h t = 0 → ∀ μ', cB μ μ' (lFilm (μ 177) r h t) → Q (some (.inl (μ 177 5))) G0 μ') : Wp E 41 0 [some (.inr (.inr (.inl 0))), some (.inl r), some (.inl h), some (.inl t)] [] G0 μ Q := by
  obtain ⟨hw, hc, hh, hl, hp⟩ := hI
  have h1 := hh.2.2.1
  have h2 := hh.1
  simp (disch := first | omega | exact rfl) only [x41_0, x41_1, x41_4, x41_5, x41_8, x41_11, x41_12, x41_13, x41_16, x41_17, x41_18, x41_19, x41_22, x41_25, isF, isK, isH, mK, nl_i, nl_n, nl_o, nl_r, c1_i, c1_r, mPush, mRv, G0_1, true_and, and_true, and_self, implies_true, List.length_nil, List.length_cons, Nat.reduceAdd, Nat.reduceLeDiff, Nat.zero_le, beq_self_eq_true, Nat.reduceBEq, decide_true, Bool.and_self, reduceCtorEq, ne_eq, not_true_eq_false, not_false_eq_true, false_implies, true_implies, Nat.reduceLT, Nat.reduceEqDiff, or_true, true_or, or_false, false_or, or_self, Int.reduceEq, Int.reduceNe, Int.reduceLT, Int.reduceLE, Int.reduceAdd, Int.reduceSub, Int.reduceMul, Int.reduceNeg, Int.reduceToNat, if_true, if_false, Classical.not_not, Int.cast_ofNat_Int, kd0, rf0_0, rf0_1, rf0_2, rf0_3, rf0_4, rf0_5, rf0_6, rf0_7, rf0_8, kd49, kd50, rf49_0, rf50_0, rf50_1, rf50_2, rf50_3, rf50_4, rf50_5, rf50_6, kd1]
  refine ct15 h1 h2 ?_
  intro μ1 f1 s1
  simp (disch := first | omega | exact rfl) only [x41_0, x41_1, x41_4, x41_5, x41_8, x41_11, x41_12, x41_13, x41_16, x41_17, x41_18, x41_19, x41_22, x41_25, isF, isK, isH, mK, nl_i, nl_n, nl_o, nl_r, c1_i, c1_r, mPush, mRv, G0_1, true_and, and_true, and_self, implies_true, List.length_nil, List.length_cons, Nat.reduceAdd, Nat.reduceLeDiff, Nat.zero_le, beq_self_eq_true, Nat.reduceBEq, decide_true, Bool.and_self, reduceCtorEq, ne_eq, not_true_eq_false, not_false_eq_true, false_implies, true_implies, Nat.reduceLT, Nat.reduceEqDiff, or_true, true_or, or_false, false_or, or_self, Int.reduceEq, Int.reduceNe, Int.reduceLT, Int.reduceLE, Int.reduceAdd, Int.reduceSub, Int.reduceMul, Int.reduceNeg, Int.reduceToNat, if_true, if_false, Classical.not_not, Int.cast_ofNat_Int, kd0, rf0_0, rf0_1, rf0_2, rf0_3, rf0_4, rf0_5, rf0_6, rf0_7, rf0_8, kd49, kd50, rf49_0, rf50_0, rf50_1, rf50_2, rf50_3, rf50_4, rf50_5, rf50_6, kd1]
  have c1 := cRel_p f1 hc
  refine ct7 gC1 hw c1 ?_
  intro μ2 f2 c2
  have e49 := e49_p f1 f2
  have h1' : 0 ≤ μ2 49 1 ∧ μ2 49 1 ≤ 6 := by rw [e49]; exact h1
  have h2' : 0 ≤ μ2 49 2 ∧ μ2 49 2 ≤ 6 := by rw [e49]; exact h2
  simp (disch := first | omega | exact rfl) only [x41_0, x41_1, x41_4, x41_5, x41_8, x41_11, x41_12, x41_13, x41_16, x41_17, x41_18, x41_19, x41_22, x41_25, isF, isK, isH, mK, nl_i, nl_n, nl_o, nl_r, c1_i, c1_r, mPush, mRv, G0_1, true_and, and_true, and_self, implies_true, List.length_nil, List.length_cons, Nat.reduceAdd, Nat.reduceLeDiff, Nat.zero_le, beq_self_eq_true, Nat.reduceBEq, decide_true, Bool.and_self, reduceCtorEq, ne_eq, not_true_eq_false, not_false_eq_true, false_implies, true_implies, Nat.reduceLT, Nat.reduceEqDiff, or_true, true_or, or_false, false_or, or_self, Int.reduceEq, Int.reduceNe, Int.reduceLT, Int.reduceLE, Int.reduceAdd, Int.reduceSub, Int.reduceMul, Int.reduceNeg, Int.reduceToNat, if_true, if_false, Classical.not_not, Int.cast_ofNat_Int, kd0, rf0_0, rf0_1, rf0_2, rf0_3, rf0_4, rf0_5, rf0_6, rf0_7, rf0_8, kd49, kd50, rf49_0, rf50_0, rf50_1, rf50_2, rf50_3, rf50_4, rf50_5, rf50_6, kd1, ct47 h1' h2']
  by_cases p1 : rFilm (μ 177) r h t = 0
  · rw [if_pos p1] at c2
    rw [if_pos p1, if_neg (by have := hw.1; omega)]
    exact hok p1 _ (cB_of hc h1 h2 f1 s1 f2 c2)
  · rw [if_neg p1] at c2
    rw [if_neg p1, if_pos (by unfold rFilm at *; omega)]
    exact hno p1 _ (cA_of f1 f2 c2)
theorem cl42 (hI : INV μ) {a b m : Int} (hno : ¬ rWay a b m = 0 → ∀ μ', cA μ μ' → Q (some (.inl (rWay a b m))) G0 μ') (hok : rWay a b m = 0 → ∀ μ', cB μ μ' (lWay (μ 177) a b m) → Q (some (.inl (μ 177 (7 + (4 * a.toNat + b.toNat))))) G0 μ') : Wp E 42 0 [some (.inr (.inr (.inl 0))), some (.inl a), some (.inl b), some (.inl m)] [] G0 μ Q := by
  obtain ⟨hw, hc, hh, hl, hp⟩ := hI
  have h1 := hh.2.2.1
  have h2 := hh.1
  simp (disch := first | omega | exact rfl) only [x42_0, x42_1, x42_4, x42_5, x42_8, x42_11, x42_12, x42_13, x42_16, x42_17, x42_18, x42_19, x42_22, x42_25, isF, isK, isH, mK, nl_i, nl_n, nl_o, nl_r, c1_i, c1_r, mPush, mRv, G0_1, true_and, and_true, and_self, implies_true, List.length_nil, List.length_cons, Nat.reduceAdd, Nat.reduceLeDiff, Nat.zero_le, beq_self_eq_true, Nat.reduceBEq, decide_true, Bool.and_self, reduceCtorEq, ne_eq, not_true_eq_false, not_false_eq_true, false_implies, true_implies, Nat.reduceLT, Nat.reduceEqDiff, or_true, true_or, or_false, false_or, or_self, Int.reduceEq, Int.reduceNe, Int.reduceLT, Int.reduceLE, Int.reduceAdd, Int.reduceSub, Int.reduceMul, Int.reduceNeg, Int.reduceToNat, if_true, if_false, Classical.not_not, Int.cast_ofNat_Int, kd0, rf0_0, rf0_1, rf0_2, rf0_3, rf0_4, rf0_5, rf0_6, rf0_7, rf0_8, kd49, kd50, rf49_0, rf50_0, rf50_1, rf50_2, rf50_3, rf50_4, rf50_5, rf50_6, kd1]
  refine ct15 h1 h2 ?_
  intro μ1 f1 s1
  simp (disch := first | omega | exact rfl) only [x42_0, x42_1, x42_4, x42_5, x42_8, x42_11, x42_12, x42_13, x42_16, x42_17, x42_18, x42_19, x42_22, x42_25, isF, isK, isH, mK, nl_i, nl_n, nl_o, nl_r, c1_i, c1_r, mPush, mRv, G0_1, true_and, and_true, and_self, implies_true, List.length_nil, List.length_cons, Nat.reduceAdd, Nat.reduceLeDiff, Nat.zero_le, beq_self_eq_true, Nat.reduceBEq, decide_true, Bool.and_self, reduceCtorEq, ne_eq, not_true_eq_false, not_false_eq_true, false_implies, true_implies, Nat.reduceLT, Nat.reduceEqDiff, or_true, true_or, or_false, false_or, or_self, Int.reduceEq, Int.reduceNe, Int.reduceLT, Int.reduceLE, Int.reduceAdd, Int.reduceSub, Int.reduceMul, Int.reduceNeg, Int.reduceToNat, if_true, if_false, Classical.not_not, Int.cast_ofNat_Int, kd0, rf0_0, rf0_1, rf0_2, rf0_3, rf0_4, rf0_5, rf0_6, rf0_7, rf0_8, kd49, kd50, rf49_0, rf50_0, rf50_1, rf50_2, rf50_3, rf50_4, rf50_5, rf50_6, kd1]
  have c1 := cRel_p f1 hc
  refine ct8 gC1 c1 ?_
  intro μ2 f2 c2
  have e49 := e49_p f1 f2
  have h1' : 0 ≤ μ2 49 1 ∧ μ2 49 1 ≤ 6 := by rw [e49]; exact h1
  have h2' : 0 ≤ μ2 49 2 ∧ μ2 49 2 ≤ 6 := by rw [e49]; exact h2
  simp (disch := first | omega | exact rfl) only [x42_0, x42_1, x42_4, x42_5, x42_8, x42_11, x42_12, x42_13, x42_16, x42_17, x42_18, x42_19, x42_22, x42_25, isF, isK, isH, mK, nl_i, nl_n, nl_o, nl_r, c1_i, c1_r, mPush, mRv, G0_1, true_and, and_true, and_self, implies_true, List.length_nil, List.length_cons, Nat.reduceAdd, Nat.reduceLeDiff, Nat.zero_le, beq_self_eq_true, Nat.reduceBEq, decide_true, Bool.and_self, reduceCtorEq, ne_eq, not_true_eq_false, not_false_eq_true, false_implies, true_implies, Nat.reduceLT, Nat.reduceEqDiff, or_true, true_or, or_false, false_or, or_self, Int.reduceEq, Int.reduceNe, Int.reduceLT, Int.reduceLE, Int.reduceAdd, Int.reduceSub, Int.reduceMul, Int.reduceNeg, Int.reduceToNat, if_true, if_false, Classical.not_not, Int.cast_ofNat_Int, kd0, rf0_0, rf0_1, rf0_2, rf0_3, rf0_4, rf0_5, rf0_6, rf0_7, rf0_8, kd49, kd50, rf49_0, rf50_0, rf50_1, rf50_2, rf50_3, rf50_4, rf50_5, rf50_6, kd1, ct47 h1' h2']
  by_cases p1 : rWay a b m = 0
  · rw [if_pos p1] at c2
    rw [if_pos p1, if_neg (by unfold rWay at p1; have := (hw.2.1 a.toNat b.toNat (by omega) (by omega)).2; omega)]
    exact hok p1 _ (cB_of hc h1 h2 f1 s1 f2 c2)
  · rw [if_neg p1] at c2
    rw [if_neg p1, if_pos (by unfold rWay at *; omega)]
    exact hno p1 _ (cA_of f1 f2 c2)
theorem cl43 (hI : INV μ) {f h m t : Int} (hno : ¬ rShow (μ 177) f h m t = 0 → ∀ μ', cA μ μ' → Q (some (.inl (rShow (μ 177) f h m t))) G0 μ') (hok : rShow (μ 177) f h m t = 0 → ∀ μ', cB μ μ' (lShow (μ 177) f h m t) → Q (some (.inl (μ 177 6))) G0 μ') : Wp E 43 0 [some (.inr (.inr (.inl 0))), some (.inl f), some (.inl h), some (.inl m), some (.inl t)] [] G0 μ Q := by
  obtain ⟨hw, hc, hh, hl, hp⟩ := hI
  have h1 := hh.2.2.1
  have h2 := hh.1
  simp (disch := first | omega | exact rfl) only [x43_0, x43_1, x43_4, x43_5, x43_8, x43_11, x43_12, x43_13, x43_16, x43_17, x43_18, x43_19, x43_21, x43_24, x43_27, isF, isK, isH, mK, nl_i, nl_n, nl_o, nl_r, c1_i, c1_r, mPush, mRv, G0_1, true_and, and_true, and_self, implies_true, List.length_nil, List.length_cons, Nat.reduceAdd, Nat.reduceLeDiff, Nat.zero_le, beq_self_eq_true, Nat.reduceBEq, decide_true, Bool.and_self, reduceCtorEq, ne_eq, not_true_eq_false, not_false_eq_true, false_implies, true_implies, Nat.reduceLT, Nat.reduceEqDiff, or_true, true_or, or_false, false_or, or_self, Int.reduceEq, Int.reduceNe, Int.reduceLT, Int.reduceLE, Int.reduceAdd, Int.reduceSub, Int.reduceMul, Int.reduceNeg, Int.reduceToNat, if_true, if_false, Classical.not_not, Int.cast_ofNat_Int, kd0, rf0_0, rf0_1, rf0_2, rf0_3, rf0_4, rf0_5, rf0_6, rf0_7, rf0_8, kd49, kd50, rf49_0, rf50_0, rf50_1, rf50_2, rf50_3, rf50_4, rf50_5, rf50_6, kd1]
  refine ct15 h1 h2 ?_
  intro μ1 f1 s1
  simp (disch := first | omega | exact rfl) only [x43_0, x43_1, x43_4, x43_5, x43_8, x43_11, x43_12, x43_13, x43_16, x43_17, x43_18, x43_19, x43_21, x43_24, x43_27, isF, isK, isH, mK, nl_i, nl_n, nl_o, nl_r, c1_i, c1_r, mPush, mRv, G0_1, true_and, and_true, and_self, implies_true, List.length_nil, List.length_cons, Nat.reduceAdd, Nat.reduceLeDiff, Nat.zero_le, beq_self_eq_true, Nat.reduceBEq, decide_true, Bool.and_self, reduceCtorEq, ne_eq, not_true_eq_false, not_false_eq_true, false_implies, true_implies, Nat.reduceLT, Nat.reduceEqDiff, or_true, true_or, or_false, false_or, or_self, Int.reduceEq, Int.reduceNe, Int.reduceLT, Int.reduceLE, Int.reduceAdd, Int.reduceSub, Int.reduceMul, Int.reduceNeg, Int.reduceToNat, if_true, if_false, Classical.not_not, Int.cast_ofNat_Int, kd0, rf0_0, rf0_1, rf0_2, rf0_3, rf0_4, rf0_5, rf0_6, rf0_7, rf0_8, kd49, kd50, rf49_0, rf50_0, rf50_1, rf50_2, rf50_3, rf50_4, rf50_5, rf50_6, kd1]
  have c1 := cRel_p f1 hc
  refine ct10 gC1 hw c1 ?_
  intro μ2 f2 c2
  have e49 := e49_p f1 f2
  have h1' : 0 ≤ μ2 49 1 ∧ μ2 49 1 ≤ 6 := by rw [e49]; exact h1
  have h2' : 0 ≤ μ2 49 2 ∧ μ2 49 2 ≤ 6 := by rw [e49]; exact h2
  simp (disch := first | omega | exact rfl) only [x43_0, x43_1, x43_4, x43_5, x43_8, x43_11, x43_12, x43_13, x43_16, x43_17, x43_18, x43_19, x43_21, x43_24, x43_27, isF, isK, isH, mK, nl_i, nl_n, nl_o, nl_r, c1_i, c1_r, mPush, mRv, G0_1, true_and, and_true, and_self, implies_true, List.length_nil, List.length_cons, Nat.reduceAdd, Nat.reduceLeDiff, Nat.zero_le, beq_self_eq_true, Nat.reduceBEq, decide_true, Bool.and_self, reduceCtorEq, ne_eq, not_true_eq_false, not_false_eq_true, false_implies, true_implies, Nat.reduceLT, Nat.reduceEqDiff, or_true, true_or, or_false, false_or, or_self, Int.reduceEq, Int.reduceNe, Int.reduceLT, Int.reduceLE, Int.reduceAdd, Int.reduceSub, Int.reduceMul, Int.reduceNeg, Int.reduceToNat, if_true, if_false, Classical.not_not, Int.cast_ofNat_Int, kd0, rf0_0, rf0_1, rf0_2, rf0_3, rf0_4, rf0_5, rf0_6, rf0_7, rf0_8, kd49, kd50, rf49_0, rf50_0, rf50_1, rf50_2, rf50_3, rf50_4, rf50_5, rf50_6, kd1, ct47 h1' h2']
  by_cases p1 : rShow (μ 177) f h m t = 0
  · rw [if_pos p1] at c2
    rw [if_pos p1, if_neg (by have := hw.1; omega)]
    exact hok p1 _ (cB_of hc h1 h2 f1 s1 f2 c2)
  · rw [if_neg p1] at c2
    rw [if_neg p1, if_pos (by unfold rShow at *; omega)]
    exact hno p1 _ (cA_of f1 f2 c2)
theorem cl45 (hI : INV μ) {f r m : Int} (hno : ¬ rTear (μ 177) f r m = 0 → ∀ μ', cA μ μ' → Q (some (.inl (rTear (μ 177) f r m))) G0 μ') (hok : rTear (μ 177) f r m = 0 → ∀ μ', cB μ μ' (lTear (μ 177) f r (m + 1)) → Q (some (.inl (tornOf (μ 177) f r))) G0 μ') : Wp E 45 0 [some (.inr (.inr (.inl 0))), some (.inl f), some (.inl r), some (.inl m)] [] G0 μ Q := by
  obtain ⟨hw, hc, hh, hl, hp⟩ := hI
  have h1 := hh.2.2.1
  have h2 := hh.1
  simp (disch := first | omega | exact rfl) only [x45_0, x45_1, x45_4, x45_5, x45_8, x45_11, x45_12, x45_13, x45_16, x45_17, x45_18, x45_19, x45_22, x45_25, isF, isK, isH, mK, nl_i, nl_n, nl_o, nl_r, c1_i, c1_r, mPush, mRv, G0_1, true_and, and_true, and_self, implies_true, List.length_nil, List.length_cons, Nat.reduceAdd, Nat.reduceLeDiff, Nat.zero_le, beq_self_eq_true, Nat.reduceBEq, decide_true, Bool.and_self, reduceCtorEq, ne_eq, not_true_eq_false, not_false_eq_true, false_implies, true_implies, Nat.reduceLT, Nat.reduceEqDiff, or_true, true_or, or_false, false_or, or_self, Int.reduceEq, Int.reduceNe, Int.reduceLT, Int.reduceLE, Int.reduceAdd, Int.reduceSub, Int.reduceMul, Int.reduceNeg, Int.reduceToNat, if_true, if_false, Classical.not_not, Int.cast_ofNat_Int, kd0, rf0_0, rf0_1, rf0_2, rf0_3, rf0_4, rf0_5, rf0_6, rf0_7, rf0_8, kd49, kd50, rf49_0, rf50_0, rf50_1, rf50_2, rf50_3, rf50_4, rf50_5, rf50_6, kd1]
  refine ct15 h1 h2 ?_
  intro μ1 f1 s1
  simp (disch := first | omega | exact rfl) only [x45_0, x45_1, x45_4, x45_5, x45_8, x45_11, x45_12, x45_13, x45_16, x45_17, x45_18, x45_19, x45_22, x45_25, isF, isK, isH, mK, nl_i, nl_n, nl_o, nl_r, c1_i, c1_r, mPush, mRv, G0_1, true_and, and_true, and_self, implies_true, List.length_nil, List.length_cons, Nat.reduceAdd, Nat.reduceLeDiff, Nat.zero_le, beq_self_eq_true, Nat.reduceBEq, decide_true, Bool.and_self, reduceCtorEq, ne_eq, not_true_eq_false, not_false_eq_true, false_implies, true_implies, Nat.reduceLT, Nat.reduceEqDiff, or_true, true_or, or_false, false_or, or_self, Int.reduceEq, Int.reduceNe, Int.reduceLT, Int.reduceLE, Int.reduceAdd, Int.reduceSub, Int.reduceMul, Int.reduceNeg, Int.reduceToNat, if_true, if_false, Classical.not_not, Int.cast_ofNat_Int, kd0, rf0_0, rf0_1, rf0_2, rf0_3, rf0_4, rf0_5, rf0_6, rf0_7, rf0_8, kd49, kd50, rf49_0, rf50_0, rf50_1, rf50_2, rf50_3, rf50_4, rf50_5, rf50_6, kd1]
  have c1 := cRel_p f1 hc
  refine ct12 gC1 hw c1 ?_
  intro μ2 f2 c2
  have e49 := e49_p f1 f2
  have h1' : 0 ≤ μ2 49 1 ∧ μ2 49 1 ≤ 6 := by rw [e49]; exact h1
  have h2' : 0 ≤ μ2 49 2 ∧ μ2 49 2 ≤ 6 := by rw [e49]; exact h2
  simp (disch := first | omega | exact rfl) only [x45_0, x45_1, x45_4, x45_5, x45_8, x45_11, x45_12, x45_13, x45_16, x45_17, x45_18, x45_19, x45_22, x45_25, isF, isK, isH, mK, nl_i, nl_n, nl_o, nl_r, c1_i, c1_r, mPush, mRv, G0_1, true_and, and_true, and_self, implies_true, List.length_nil, List.length_cons, Nat.reduceAdd, Nat.reduceLeDiff, Nat.zero_le, beq_self_eq_true, Nat.reduceBEq, decide_true, Bool.and_self, reduceCtorEq, ne_eq, not_true_eq_false, not_false_eq_true, false_implies, true_implies, Nat.reduceLT, Nat.reduceEqDiff, or_true, true_or, or_false, false_or, or_self, Int.reduceEq, Int.reduceNe, Int.reduceLT, Int.reduceLE, Int.reduceAdd, Int.reduceSub, Int.reduceMul, Int.reduceNeg, Int.reduceToNat, if_true, if_false, Classical.not_not, Int.cast_ofNat_Int, kd0, rf0_0, rf0_1, rf0_2, rf0_3, rf0_4, rf0_5, rf0_6, rf0_7, rf0_8, kd49, kd50, rf49_0, rf50_0, rf50_1, rf50_2, rf50_3, rf50_4, rf50_5, rf50_6, kd1, ct47 h1' h2']
  by_cases p1 : rTear (μ 177) f r m = 0
  · rw [if_pos p1] at c2
    rw [if_pos p1, if_neg (by exact tornOf_ok hw (rTear0 p1).1)]
    exact hok p1 _ (cB_of hc h1 h2 f1 s1 f2 c2)
  · rw [if_neg p1] at c2
    rw [if_neg p1, if_pos (by unfold rTear at *; omega)]
    exact hno p1 _ (cA_of f1 f2 c2)
theorem cl40 (hI : INV μ) {a v : Int} (hno : ¬ okSet a v → ∀ μ', cA μ μ' → Q (some (.inl (-2))) G0 μ') (hok : okSet a v → ∀ μ', cB μ μ' (up (μ 177) a.toNat v) → Q (some (.inl (μ 177 a.toNat))) G0 μ') : Wp E 40 0 [some (.inr (.inr (.inl 0))), some (.inl a), some (.inl v)] [] G0 μ Q := by
  obtain ⟨hw, hc, hh, hl, hp⟩ := hI
  have h1 := hh.2.2.1
  have h2 := hh.1
  simp (disch := first | omega | exact rfl) only [x40_0, x40_1, x40_4, x40_5, x40_8, x40_11, x40_12, x40_13, x40_16, x40_17, x40_18, x40_21, x40_24, isF, isK, isH, mK, nl_i, nl_n, nl_o, nl_r, c1_i, c1_r, mPush, mRv, G0_1, true_and, and_true, and_self, implies_true, List.length_nil, List.length_cons, Nat.reduceAdd, Nat.reduceLeDiff, Nat.zero_le, beq_self_eq_true, Nat.reduceBEq, decide_true, Bool.and_self, reduceCtorEq, ne_eq, not_true_eq_false, not_false_eq_true, false_implies, true_implies, Nat.reduceLT, Nat.reduceEqDiff, or_true, true_or, or_false, false_or, or_self, Int.reduceEq, Int.reduceNe, Int.reduceLT, Int.reduceLE, Int.reduceAdd, Int.reduceSub, Int.reduceMul, Int.reduceNeg, Int.reduceToNat, if_true, if_false, Classical.not_not, Int.cast_ofNat_Int, kd0, rf0_0, rf0_1, rf0_2, rf0_3, rf0_4, rf0_5, rf0_6, rf0_7, rf0_8, kd49, kd50, rf49_0, rf50_0, rf50_1, rf50_2, rf50_3, rf50_4, rf50_5, rf50_6, kd1]
  refine ct15 h1 h2 ?_
  intro μ1 f1 s1
  simp (disch := first | omega | exact rfl) only [x40_0, x40_1, x40_4, x40_5, x40_8, x40_11, x40_12, x40_13, x40_16, x40_17, x40_18, x40_21, x40_24, isF, isK, isH, mK, nl_i, nl_n, nl_o, nl_r, c1_i, c1_r, mPush, mRv, G0_1, true_and, and_true, and_self, implies_true, List.length_nil, List.length_cons, Nat.reduceAdd, Nat.reduceLeDiff, Nat.zero_le, beq_self_eq_true, Nat.reduceBEq, decide_true, Bool.and_self, reduceCtorEq, ne_eq, not_true_eq_false, not_false_eq_true, false_implies, true_implies, Nat.reduceLT, Nat.reduceEqDiff, or_true, true_or, or_false, false_or, or_self, Int.reduceEq, Int.reduceNe, Int.reduceLT, Int.reduceLE, Int.reduceAdd, Int.reduceSub, Int.reduceMul, Int.reduceNeg, Int.reduceToNat, if_true, if_false, Classical.not_not, Int.cast_ofNat_Int, kd0, rf0_0, rf0_1, rf0_2, rf0_3, rf0_4, rf0_5, rf0_6, rf0_7, rf0_8, kd49, kd50, rf49_0, rf50_0, rf50_1, rf50_2, rf50_3, rf50_4, rf50_5, rf50_6, kd1]
  have c1 := cRel_p f1 hc
  refine ct6 gC1 c1 ?_
  intro μ2 f2 c2
  have e49 := e49_p f1 f2
  have h1' : 0 ≤ μ2 49 1 ∧ μ2 49 1 ≤ 6 := by rw [e49]; exact h1
  have h2' : 0 ≤ μ2 49 2 ∧ μ2 49 2 ≤ 6 := by rw [e49]; exact h2
  simp (disch := first | omega | exact rfl) only [x40_0, x40_1, x40_4, x40_5, x40_8, x40_11, x40_12, x40_13, x40_16, x40_17, x40_18, x40_21, x40_24, isF, isK, isH, mK, nl_i, nl_n, nl_o, nl_r, c1_i, c1_r, mPush, mRv, G0_1, true_and, and_true, and_self, implies_true, List.length_nil, List.length_cons, Nat.reduceAdd, Nat.reduceLeDiff, Nat.zero_le, beq_self_eq_true, Nat.reduceBEq, decide_true, Bool.and_self, reduceCtorEq, ne_eq, not_true_eq_false, not_false_eq_true, false_implies, true_implies, Nat.reduceLT, Nat.reduceEqDiff, or_true, true_or, or_false, false_or, or_self, Int.reduceEq, Int.reduceNe, Int.reduceLT, Int.reduceLE, Int.reduceAdd, Int.reduceSub, Int.reduceMul, Int.reduceNeg, Int.reduceToNat, if_true, if_false, Classical.not_not, Int.cast_ofNat_Int, kd0, rf0_0, rf0_1, rf0_2, rf0_3, rf0_4, rf0_5, rf0_6, rf0_7, rf0_8, kd49, kd50, rf49_0, rf50_0, rf50_1, rf50_2, rf50_3, rf50_4, rf50_5, rf50_6, kd1, ct47 h1' h2']
  by_cases p1 : okSet a v
  · rw [if_pos p1] at c2
    have q : a = 0 ∨ a = 1 ∨ a = 2 ∨ a = 3 ∨ a = 4 := by unfold okSet at p1; omega
    have q2 : 0 ≤ μ 177 a.toNat := by
      have := hw.1
      rcases q with rfl | rfl | rfl | rfl | rfl <;> simp <;> omega
    rw [if_pos p1, if_neg (by omega)]
    exact hok p1 _ (cB_of hc h1 h2 f1 s1 f2 c2)
  · rw [if_neg p1] at c2
    rw [if_neg p1, if_pos (by omega)]
    exact hno p1 _ (cA_of f1 f2 c2)
theorem cl44 (hI : INV μ) {k : Int} (hno : ¬ isK (μ 177) k → ∀ μ', cA μ μ' → Q (some (.inl (-1))) G0 μ') (hok : isK (μ 177) k → ∀ μ', cB μ μ' (lDrop (μ 177) k) → Q (some (.inl (μ 177 6 - 1))) G0 μ') : Wp E 44 0 [some (.inr (.inr (.inl 0))), some (.inl k)] [] G0 μ Q := by
  obtain ⟨hw, hc, hh, hl, hp⟩ := hI
  have h1 := hh.2.2.1
  have h2 := hh.1
  simp (disch := first | omega | exact rfl) only [x44_0, x44_1, x44_4, x44_5, x44_8, x44_11, x44_12, x44_13, x44_16, x44_17, x44_20, x44_23, isF, isK, isH, mK, nl_i, nl_n, nl_o, nl_r, c1_i, c1_r, mPush, mRv, G0_1, true_and, and_true, and_self, implies_true, List.length_nil, List.length_cons, Nat.reduceAdd, Nat.reduceLeDiff, Nat.zero_le, beq_self_eq_true, Nat.reduceBEq, decide_true, Bool.and_self, reduceCtorEq, ne_eq, not_true_eq_false, not_false_eq_true, false_implies, true_implies, Nat.reduceLT, Nat.reduceEqDiff, or_true, true_or, or_false, false_or, or_self, Int.reduceEq, Int.reduceNe, Int.reduceLT, Int.reduceLE, Int.reduceAdd, Int.reduceSub, Int.reduceMul, Int.reduceNeg, Int.reduceToNat, if_true, if_false, Classical.not_not, Int.cast_ofNat_Int, kd0, rf0_0, rf0_1, rf0_2, rf0_3, rf0_4, rf0_5, rf0_6, rf0_7, rf0_8, kd49, kd50, rf49_0, rf50_0, rf50_1, rf50_2, rf50_3, rf50_4, rf50_5, rf50_6, kd1]
  refine ct15 h1 h2 ?_
  intro μ1 f1 s1
  simp (disch := first | omega | exact rfl) only [x44_0, x44_1, x44_4, x44_5, x44_8, x44_11, x44_12, x44_13, x44_16, x44_17, x44_20, x44_23, isF, isK, isH, mK, nl_i, nl_n, nl_o, nl_r, c1_i, c1_r, mPush, mRv, G0_1, true_and, and_true, and_self, implies_true, List.length_nil, List.length_cons, Nat.reduceAdd, Nat.reduceLeDiff, Nat.zero_le, beq_self_eq_true, Nat.reduceBEq, decide_true, Bool.and_self, reduceCtorEq, ne_eq, not_true_eq_false, not_false_eq_true, false_implies, true_implies, Nat.reduceLT, Nat.reduceEqDiff, or_true, true_or, or_false, false_or, or_self, Int.reduceEq, Int.reduceNe, Int.reduceLT, Int.reduceLE, Int.reduceAdd, Int.reduceSub, Int.reduceMul, Int.reduceNeg, Int.reduceToNat, if_true, if_false, Classical.not_not, Int.cast_ofNat_Int, kd0, rf0_0, rf0_1, rf0_2, rf0_3, rf0_4, rf0_5, rf0_6, rf0_7, rf0_8, kd49, kd50, rf49_0, rf50_0, rf50_1, rf50_2, rf50_3, rf50_4, rf50_5, rf50_6, kd1]
  have c1 := cRel_p f1 hc
  refine ct11 gC1 hw c1 ?_
  intro μ2 f2 c2
  have e49 := e49_p f1 f2
  have h1' : 0 ≤ μ2 49 1 ∧ μ2 49 1 ≤ 6 := by rw [e49]; exact h1
  have h2' : 0 ≤ μ2 49 2 ∧ μ2 49 2 ≤ 6 := by rw [e49]; exact h2
  simp (disch := first | omega | exact rfl) only [x44_0, x44_1, x44_4, x44_5, x44_8, x44_11, x44_12, x44_13, x44_16, x44_17, x44_20, x44_23, isF, isK, isH, mK, nl_i, nl_n, nl_o, nl_r, c1_i, c1_r, mPush, mRv, G0_1, true_and, and_true, and_self, implies_true, List.length_nil, List.length_cons, Nat.reduceAdd, Nat.reduceLeDiff, Nat.zero_le, beq_self_eq_true, Nat.reduceBEq, decide_true, Bool.and_self, reduceCtorEq, ne_eq, not_true_eq_false, not_false_eq_true, false_implies, true_implies, Nat.reduceLT, Nat.reduceEqDiff, or_true, true_or, or_false, false_or, or_self, Int.reduceEq, Int.reduceNe, Int.reduceLT, Int.reduceLE, Int.reduceAdd, Int.reduceSub, Int.reduceMul, Int.reduceNeg, Int.reduceToNat, if_true, if_false, Classical.not_not, Int.cast_ofNat_Int, kd0, rf0_0, rf0_1, rf0_2, rf0_3, rf0_4, rf0_5, rf0_6, rf0_7, rf0_8, kd49, kd50, rf49_0, rf50_0, rf50_1, rf50_2, rf50_3, rf50_4, rf50_5, rf50_6, kd1, ct47 h1' h2']
  by_cases p1 : isK (μ 177) k
  · rw [if_pos p1] at c2
    rw [if_pos p1, if_neg (by omega)]
    exact hok p1 _ (cB_of hc h1 h2 f1 s1 f2 c2)
  · rw [if_neg p1] at c2
    rw [if_neg p1, if_pos (by omega)]
    exact hno p1 _ (cA_of f1 f2 c2)
theorem cl46 (hI : INV μ) {f r : Int} (hn1 : ¬ isR (μ 177) f r → ∀ μ', cA μ μ' → Q (some (.inl (-1))) G0 μ') (hn2 : isR (μ 177) f r → tornOf (μ 177) f r = -6 → ∀ μ', cA μ μ' → Q (some (.inl (-5))) G0 μ') (hok : isR (μ 177) f r → ¬ tornOf (μ 177) f r = -6 → ∀ μ', cB μ μ' (lTear (μ 177) f r 0) → Q (some (.inl (tornOf (μ 177) f r))) G0 μ') : Wp E 46 0 [some (.inr (.inr (.inl 0))), some (.inl f), some (.inl r)] [] G0 μ Q := by
  obtain ⟨hw, hc, hh, hl, hp⟩ := hI
  have h1 := hh.2.2.1
  have h2 := hh.1
  simp (disch := first | omega | exact rfl) only [x46_0, x46_1, x46_4, x46_5, x46_8, x46_11, x46_12, x46_13, x46_16, x46_17, x46_18, x46_21, x46_24, isF, isK, isH, mK, nl_i, nl_n, nl_o, nl_r, c1_i, c1_r, mPush, mRv, G0_1, true_and, and_true, and_self, implies_true, List.length_nil, List.length_cons, Nat.reduceAdd, Nat.reduceLeDiff, Nat.zero_le, beq_self_eq_true, Nat.reduceBEq, decide_true, Bool.and_self, reduceCtorEq, ne_eq, not_true_eq_false, not_false_eq_true, false_implies, true_implies, Nat.reduceLT, Nat.reduceEqDiff, or_true, true_or, or_false, false_or, or_self, Int.reduceEq, Int.reduceNe, Int.reduceLT, Int.reduceLE, Int.reduceAdd, Int.reduceSub, Int.reduceMul, Int.reduceNeg, Int.reduceToNat, if_true, if_false, Classical.not_not, Int.cast_ofNat_Int, kd0, rf0_0, rf0_1, rf0_2, rf0_3, rf0_4, rf0_5, rf0_6, rf0_7, rf0_8, kd49, kd50, rf49_0, rf50_0, rf50_1, rf50_2, rf50_3, rf50_4, rf50_5, rf50_6, kd1]
  refine ct15 h1 h2 ?_
  intro μ1 f1 s1
  simp (disch := first | omega | exact rfl) only [x46_0, x46_1, x46_4, x46_5, x46_8, x46_11, x46_12, x46_13, x46_16, x46_17, x46_18, x46_21, x46_24, isF, isK, isH, mK, nl_i, nl_n, nl_o, nl_r, c1_i, c1_r, mPush, mRv, G0_1, true_and, and_true, and_self, implies_true, List.length_nil, List.length_cons, Nat.reduceAdd, Nat.reduceLeDiff, Nat.zero_le, beq_self_eq_true, Nat.reduceBEq, decide_true, Bool.and_self, reduceCtorEq, ne_eq, not_true_eq_false, not_false_eq_true, false_implies, true_implies, Nat.reduceLT, Nat.reduceEqDiff, or_true, true_or, or_false, false_or, or_self, Int.reduceEq, Int.reduceNe, Int.reduceLT, Int.reduceLE, Int.reduceAdd, Int.reduceSub, Int.reduceMul, Int.reduceNeg, Int.reduceToNat, if_true, if_false, Classical.not_not, Int.cast_ofNat_Int, kd0, rf0_0, rf0_1, rf0_2, rf0_3, rf0_4, rf0_5, rf0_6, rf0_7, rf0_8, kd49, kd50, rf49_0, rf50_0, rf50_1, rf50_2, rf50_3, rf50_4, rf50_5, rf50_6, kd1]
  have c1 := cRel_p f1 hc
  refine ct13 gC1 hw c1 ?_
  intro μ2 f2 c2
  have e49 := e49_p f1 f2
  have h1' : 0 ≤ μ2 49 1 ∧ μ2 49 1 ≤ 6 := by rw [e49]; exact h1
  have h2' : 0 ≤ μ2 49 2 ∧ μ2 49 2 ≤ 6 := by rw [e49]; exact h2
  simp (disch := first | omega | exact rfl) only [x46_0, x46_1, x46_4, x46_5, x46_8, x46_11, x46_12, x46_13, x46_16, x46_17, x46_18, x46_21, x46_24, isF, isK, isH, mK, nl_i, nl_n, nl_o, nl_r, c1_i, c1_r, mPush, mRv, G0_1, true_and, and_true, and_self, implies_true, List.length_nil, List.length_cons, Nat.reduceAdd, Nat.reduceLeDiff, Nat.zero_le, beq_self_eq_true, Nat.reduceBEq, decide_true, Bool.and_self, reduceCtorEq, ne_eq, not_true_eq_false, not_false_eq_true, false_implies, true_implies, Nat.reduceLT, Nat.reduceEqDiff, or_true, true_or, or_false, false_or, or_self, Int.reduceEq, Int.reduceNe, Int.reduceLT, Int.reduceLE, Int.reduceAdd, Int.reduceSub, Int.reduceMul, Int.reduceNeg, Int.reduceToNat, if_true, if_false, Classical.not_not, Int.cast_ofNat_Int, kd0, rf0_0, rf0_1, rf0_2, rf0_3, rf0_4, rf0_5, rf0_6, rf0_7, rf0_8, kd49, kd50, rf49_0, rf50_0, rf50_1, rf50_2, rf50_3, rf50_4, rf50_5, rf50_6, kd1, ct47 h1' h2']
  by_cases p1 : isR (μ 177) f r
  · by_cases p2 : tornOf (μ 177) f r = -6
    · rw [if_neg (fun z => z.2 p2)] at c2
      rw [if_neg (fun z => z p1), if_pos p2, if_pos (by omega)]
      exact hn2 p1 p2 _ (cA_of f1 f2 c2)
    · rw [if_pos ⟨p1, p2⟩] at c2
      rw [if_neg (fun z => z p1), if_neg p2, if_neg (tornOf_ok hw p1)]
      exact hok p1 p2 _ (cB_of hc h1 h2 f1 s1 f2 c2)
  · rw [if_neg (fun z => p1 z.1)] at c2
    rw [if_pos p1, if_pos (by omega)]
    exact hn1 p1 _ (cA_of f1 f2 c2)
end CLS
