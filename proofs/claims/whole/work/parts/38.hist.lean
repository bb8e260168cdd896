/-! THE HISTORY -/
theorem rf50 : ∀ q, q < 7 → mRf G0 50 q = some (51 + 11 * q) := by decide
theorem gC50 : ∀ q, q < 7 → 51 + 11 * q ∈ gCs := by decide
theorem gC1 : 1 ∈ gCs := by decide
def keepM (μ : MU) : MU := if μ 49 2 < 6 then mUp μ 49 2 (μ 49 2 + 1) else mUp μ 49 1 ((μ 49 1 + 1) % 7)
theorem rEq_wf {s t : Row} (h : ∀ i, i < 148 → t i = s i) (hw : wf s) : wf t := by
  obtain ⟨h1, h2, h3, h4⟩ := hw
  refine ⟨?_, ?_, ?_, ?_⟩
  · rw [h 0 (by omega), h 1 (by omega), h 2 (by omega), h 3 (by omega), h 4 (by omega), h 5 (by omega), h 6 (by omega)]
    exact h1
  · intro x y hx hy
    rw [h _ (by omega)]
    exact h2 x y hx hy
  · intro f hf hf2
    rw [h _ (by omega)] at hf2
    rw [h _ (by omega), h _ (by omega), h _ (by omega)]
    obtain ⟨q1, q2, q3, q4⟩ := h3 f hf hf2
    refine ⟨q1, q2, q3, fun r hr => ?_⟩
    rw [h _ (by omega)]
    exact q4 r hr
  · intro k hk1 hk2
    rw [h _ (by omega)] at hk2
    rw [h _ (by omega), h _ (by omega), h _ (by omega), h _ (by omega), h _ (by omega)]
    exact h4 k hk1 hk2
theorem rEq_cRel {μ : MU} {c : Nat} {s t : Row} (h : ∀ i, i < 148 → t i = s i) (hs : cRel μ c s) : cRel μ c t := by
  obtain ⟨b1, b2, b3, b4, b5, b6, b7⟩ := hs
  refine ⟨fun i hi => ?_, ?_, ?_, fun i hi => ?_, fun f' hf1 hf2 => ?_, fun f' r' hf1 hf2 => ?_, fun k' hk1 hk2 => ?_⟩
  · rw [h _ (by omega)]; exact b1 i hi
  · rw [h _ (by omega)]; exact b2
  · rw [h _ (by omega)]; exact b3
  · rw [h _ (by omega)]; exact b4 i hi
  · rw [h _ (by omega)] at hf2
    rw [h _ (by omega), h _ (by omega), h _ (by omega)]; exact b5 f' hf1 hf2
  · rw [h _ (by omega), h _ (by omega)]; exact b6 f' r' hf1 hf2
  · rw [h _ (by omega)] at hk2
    rw [h _ (by omega), h _ (by omega), h _ (by omega), h _ (by omega)]; exact b7 k' hk1 hk2
section HIST
variable {E : ME} {μ : MU} {Q : Option MV → MG → MU → Prop}
/-- prepare -/
theorem ct15 (h1 : 0 ≤ μ 49 1 ∧ μ 49 1 ≤ 6) (h2 : 0 ≤ μ 49 2 ∧ μ 49 2 ≤ 6) (h : ∀ μ', frC (rAt μ (μ 49 2).toNat) μ μ' → cSame μ' (rAt μ (μ 49 2).toNat) μ 1 → Q none G0 μ') : Wp E 15 0 [some (.inr (.inr (.inl 49))), some (.inr (.inr (.inl 1)))] [] G0 μ Q := by
  have e1 : (μ 49 1 + μ 49 2).tmod 7 = (μ 49 1 + μ 49 2) % 7 := Int.tmod_eq_emod_of_nonneg (by omega)
  have e2 : ((μ 49 1 + μ 49 2) % 7).toNat = ((μ 49 1).toNat + (μ 49 2).toNat) % 7 := by omega
  have e3 : ((μ 49 1).toNat + (μ 49 2).toNat) % 7 < 7 := Nat.mod_lt _ (by omega)
  have e4 := (gC_ok _ (gC50 _ e3)).1
  simp (disch := first | omega | exact rfl) only [x15_0, x15_1, x15_4, x15_5, x15_8, x15_9, x15_12, x15_13, x15_15, x15_16, x15_17, x15_18, x15_21, isF, isK, isH, mK, nl_i, nl_n, nl_o, nl_r, c1_i, c1_r, mPush, mRv, G0_1, true_and, and_true, and_self, implies_true, List.length_nil, List.length_cons, Nat.reduceAdd, Nat.reduceLeDiff, Nat.zero_le, beq_self_eq_true, Nat.reduceBEq, decide_true, Bool.and_self, reduceCtorEq, ne_eq, not_true_eq_false, not_false_eq_true, false_implies, true_implies, Nat.reduceLT, Nat.reduceEqDiff, or_true, true_or, or_false, false_or, or_self, Int.reduceEq, Int.reduceNe, Int.reduceLT, Int.reduceLE, Int.reduceAdd, Int.reduceSub, Int.reduceMul, Int.reduceNeg, Int.reduceToNat, if_true, if_false, Classical.not_not, Int.cast_ofNat_Int, kd49, kd50, rf49_0, rf50_0, rf50_1, rf50_2, rf50_3, rf50_4, rf50_5, rf50_6, mWr_of, e1, e2, rf50 _ e3, e4]
  repeat (refine And.intro (by omega) ?_)
  refine ct1 (gC50 _ e3) gC1 (by omega) ?_
  intro μ' f1 f2
  simp (disch := first | omega | exact rfl) only [x15_0, x15_1, x15_4, x15_5, x15_8, x15_9, x15_12, x15_13, x15_15, x15_16, x15_17, x15_18, x15_21, isF, isK, isH, mK, nl_i, nl_n, nl_o, nl_r, c1_i, c1_r, mPush, mRv, G0_1, true_and, and_true, and_self, implies_true, List.length_nil, List.length_cons, Nat.reduceAdd, Nat.reduceLeDiff, Nat.zero_le, beq_self_eq_true, Nat.reduceBEq, decide_true, Bool.and_self, reduceCtorEq, ne_eq, not_true_eq_false, not_false_eq_true, false_implies, true_implies, Nat.reduceLT, Nat.reduceEqDiff, or_true, true_or, or_false, false_or, or_self, Int.reduceEq, Int.reduceNe, Int.reduceLT, Int.reduceLE, Int.reduceAdd, Int.reduceSub, Int.reduceMul, Int.reduceNeg, Int.reduceToNat, if_true, if_false, Classical.not_not, Int.cast_ofNat_Int]
  exact h μ' f1 f2
/-- keepPrepared -/
theorem ct16 (h1 : 0 ≤ μ 49 1 ∧ μ 49 1 ≤ 6) (h2 : 0 ≤ μ 49 2 ∧ μ 49 2 ≤ 6) : Wp E 16 0 [some (.inr (.inr (.inl 49)))] [] G0 μ Q = Q none G0 (keepM μ) := by
  have e1 : (μ 49 1 + 1).tmod 7 = (μ 49 1 + 1) % 7 := Int.tmod_eq_emod_of_nonneg (by omega)
  by_cases p1 : μ 49 2 < 6
  · have p2 : ¬ (6 : Int) ≤ μ 49 2 := by omega
    simp (disch := first | omega | exact rfl) only [x16_0, x16_1, x16_4, x16_6, x16_9, x16_10, x16_11, x16_14, x16_15, x16_16, x16_19, x16_22, x16_23, x16_24, x16_27, x16_28, x16_29, x16_31, x16_32, x16_35, isF, isK, isH, mK, nl_i, nl_n, nl_o, nl_r, c1_i, c1_r, mPush, mRv, G0_1, true_and, and_true, and_self, implies_true, List.length_nil, List.length_cons, Nat.reduceAdd, Nat.reduceLeDiff, Nat.zero_le, beq_self_eq_true, Nat.reduceBEq, decide_true, Bool.and_self, reduceCtorEq, ne_eq, not_true_eq_false, not_false_eq_true, false_implies, true_implies, Nat.reduceLT, Nat.reduceEqDiff, or_true, true_or, or_false, false_or, or_self, Int.reduceEq, Int.reduceNe, Int.reduceLT, Int.reduceLE, Int.reduceAdd, Int.reduceSub, Int.reduceMul, Int.reduceNeg, Int.reduceToNat, if_true, if_false, Classical.not_not, Int.cast_ofNat_Int, kd49, kd50, rf49_0, rf50_0, rf50_1, rf50_2, rf50_3, rf50_4, rf50_5, rf50_6, mWr_of, p1, p2]
    simp only [keepM, if_pos p1]
  · have p2 : (6 : Int) ≤ μ 49 2 := by omega
    simp (disch := first | omega | exact rfl) only [x16_0, x16_1, x16_4, x16_6, x16_9, x16_10, x16_11, x16_14, x16_15, x16_16, x16_19, x16_22, x16_23, x16_24, x16_27, x16_28, x16_29, x16_31, x16_32, x16_35, isF, isK, isH, mK, nl_i, nl_n, nl_o, nl_r, c1_i, c1_r, mPush, mRv, G0_1, true_and, and_true, and_self, implies_true, List.length_nil, List.length_cons, Nat.reduceAdd, Nat.reduceLeDiff, Nat.zero_le, beq_self_eq_true, Nat.reduceBEq, decide_true, Bool.and_self, reduceCtorEq, ne_eq, not_true_eq_false, not_false_eq_true, false_implies, true_implies, Nat.reduceLT, Nat.reduceEqDiff, or_true, true_or, or_false, false_or, or_self, Int.reduceEq, Int.reduceNe, Int.reduceLT, Int.reduceLE, Int.reduceAdd, Int.reduceSub, Int.reduceMul, Int.reduceNeg, Int.reduceToNat, if_true, if_false, Classical.not_not, Int.cast_ofNat_Int, kd49, kd50, rf49_0, rf50_0, rf50_1, rf50_2, rf50_3, rf50_4, rf50_5, rf50_6, mWr_of, p1, p2, e1]
    simp only [keepM, if_neg p1]
/-- recorded -/
theorem ct47 (h1 : 0 ≤ μ 49 1 ∧ μ 49 1 ≤ 6) (h2 : 0 ≤ μ 49 2 ∧ μ 49 2 ≤ 6) {v : Int} : Wp E 47 0 [some (.inr (.inr (.inl 0))), some (.inl v)] [] G0 μ Q = Q (some (.inl v)) G0 (if v < 0 ∧ ¬ v = -6 then μ else keepM μ) := by
  by_cases p1 : v < 0 ∧ ¬ v = -6
  · simp (disch := first | omega | exact rfl) only [x47_0, x47_1, x47_4, x47_7, x47_8, x47_11, x47_14, x47_15, isF, isK, isH, mK, nl_i, nl_n, nl_o, nl_r, c1_i, c1_r, mPush, mRv, G0_1, true_and, and_true, and_self, implies_true, List.length_nil, List.length_cons, Nat.reduceAdd, Nat.reduceLeDiff, Nat.zero_le, beq_self_eq_true, Nat.reduceBEq, decide_true, Bool.and_self, reduceCtorEq, ne_eq, not_true_eq_false, not_false_eq_true, false_implies, true_implies, Nat.reduceLT, Nat.reduceEqDiff, or_true, true_or, or_false, false_or, or_self, Int.reduceEq, Int.reduceNe, Int.reduceLT, Int.reduceLE, Int.reduceAdd, Int.reduceSub, Int.reduceMul, Int.reduceNeg, Int.reduceToNat, if_true, if_false, Classical.not_not, Int.cast_ofNat_Int, kd0, rf0_0, rf0_1, rf0_2, rf0_3, rf0_4, rf0_5, rf0_6, rf0_7, rf0_8, kd49, kd50, rf49_0, rf50_0, rf50_1, rf50_2, rf50_3, rf50_4, rf50_5, rf50_6, ct73, if_pos p1]
  · simp (disch := first | omega | exact rfl) only [x47_0, x47_1, x47_4, x47_7, x47_8, x47_11, x47_14, x47_15, isF, isK, isH, mK, nl_i, nl_n, nl_o, nl_r, c1_i, c1_r, mPush, mRv, G0_1, true_and, and_true, and_self, implies_true, List.length_nil, List.length_cons, Nat.reduceAdd, Nat.reduceLeDiff, Nat.zero_le, beq_self_eq_true, Nat.reduceBEq, decide_true, Bool.and_self, reduceCtorEq, ne_eq, not_true_eq_false, not_false_eq_true, false_implies, true_implies, Nat.reduceLT, Nat.reduceEqDiff, or_true, true_or, or_false, false_or, or_self, Int.reduceEq, Int.reduceNe, Int.reduceLT, Int.reduceLE, Int.reduceAdd, Int.reduceSub, Int.reduceMul, Int.reduceNeg, Int.reduceToNat, if_true, if_false, Classical.not_not, Int.cast_ofNat_Int, kd0, rf0_0, rf0_1, rf0_2, rf0_3, rf0_4, rf0_5, rf0_6, rf0_7, rf0_8, kd49, kd50, rf49_0, rf50_0, rf50_1, rf50_2, rf50_3, rf50_4, rf50_5, rf50_6, ct73, if_neg p1, ct16 h1 h2]
end HIST
theorem sh_stepd {A B C : Nat → Int} {j n d : Nat} (hjn : j < n) (hd : 0 < d) (hB : ∀ i, B i = if i = j then A (j + d) else A i) (hC : ∀ i, C i = if j + 1 ≤ i ∧ i < n then B (i + d) else B i) : ∀ i, C i = if j ≤ i ∧ i < n then A (i + d) else A i := by
  intro i
  rw [hC]
  by_cases hij : i = j
  · subst hij
    rw [if_neg (by omega), hB, if_pos rfl, if_pos (by omega)]
  · by_cases hq5 : j + 1 ≤ i ∧ i < n
    · rw [if_pos hq5, hB, if_neg (by omega), if_pos (by omega)]
    · rw [if_neg hq5, hB, if_neg hij, if_neg (by omega)]
section RECS
variable {E : ME} {Q : Option MV → MG → MU → Prop}
theorem zq84a : ∀ (m j : Nat) (μ : MU), j + m = 740 →
    (∀ μ' : MU, (∀ x, ¬ x = 178 → μ' x = μ x) → (∀ i, μ' 178 i = if j ≤ i ∧ i < 740 then μ 178 (i + 148) else μ 178 i) → Wp E 84 40 [some (.inr (.inr (.inl 176))), some (.inl 740)] [] G0 μ' Q) →
    Wp E 84 11 [some (.inr (.inr (.inl 176))), some (.inl j)] [] G0 μ Q := by
  intro m
  induction m with
  | zero =>
    intro j μ hj h
    have e1 : j = 740 := by omega
    subst e1
    simp (disch := first | omega | exact rfl) only [x84_11, x84_12, x84_15, isF, isK, isH, mK, nl_i, nl_n, nl_o, nl_r, c1_i, c1_r, mPush, mRv, G0_1, true_and, and_true, and_self, implies_true, List.length_nil, List.length_cons, Nat.reduceAdd, Nat.reduceLeDiff, Nat.zero_le, beq_self_eq_true, Nat.reduceBEq, decide_true, Bool.and_self, reduceCtorEq, ne_eq, not_true_eq_false, not_false_eq_true, false_implies, true_implies, Nat.reduceLT, Nat.reduceEqDiff, or_true, true_or, or_false, false_or, or_self, Int.reduceEq, Int.reduceNe, Int.reduceLT, Int.reduceLE, Int.reduceAdd, Int.reduceSub, Int.reduceMul, Int.reduceNeg, Int.reduceToNat, if_true, if_false, Classical.not_not, Int.cast_ofNat_Int]
    apply h _ (fun _ _ => rfl)
    intro i; rw [if_neg (by omega)]
  | succ m ih =>
    intro j μ hj h
    have e1 : ¬ (740 : Int) ≤ j := by omega
    have e2 : (j : Int) < 740 := by omega
    have e3 : ((j : Int) + 148).toNat = j + 148 := by omega
    have e4 : (j : Int) + 1 = ((j + 1 : Nat) : Int) := by omega
    simp (disch := first | omega | exact rfl) only [x84_11, x84_12, x84_15, x84_18, x84_19, x84_22, x84_23, x84_24, x84_27, x84_28, x84_31, x84_32, x84_33, x84_34, isF, isK, isH, mK, nl_i, nl_n, nl_o, nl_r, c1_i, c1_r, mPush, mRv, G0_1, true_and, and_true, and_self, implies_true, List.length_nil, List.length_cons, Nat.reduceAdd, Nat.reduceLeDiff, Nat.zero_le, beq_self_eq_true, Nat.reduceBEq, decide_true, Bool.and_self, reduceCtorEq, ne_eq, not_true_eq_false, not_false_eq_true, false_implies, true_implies, Nat.reduceLT, Nat.reduceEqDiff, or_true, true_or, or_false, false_or, or_self, Int.reduceEq, Int.reduceNe, Int.reduceLT, Int.reduceLE, Int.reduceAdd, Int.reduceSub, Int.reduceMul, Int.reduceNeg, Int.reduceToNat, if_true, if_false, Classical.not_not, Int.cast_ofNat_Int, kd176, kd177, kd178, kd179, kd180, kd181, kd182, kd183, kd184, kd185, kd186, kd187, kd188, kd189, kd190, kd191, kd192, kd193, kd194, rf176_1, rf176_2, rf176_4, rf176_5, rf176_6, rf176_8, rf176_9, rf176_10, rf176_11, rf176_12, rf176_13, rf176_14, rf176_16, rf176_17, rf176_18, rf176_19, rf176_20, rf176_23, e1, e2, mWr_of, Int.toNat_natCast, e3]
    repeat (refine And.intro (by omega) ?_)
    rw [x84_37, e4]
    refine ih (j + 1) _ (by omega) ?_
    intro μ' hf g1
    apply h μ'
    · intro x hx
      rw [hf x hx, mUp_ne hx]
    · exact sh_stepd (by omega) (by omega) (fun i => by simp (disch := omega) only [mUp_at]) g1
theorem zq84b {n : Nat} (hn : n ≤ 5) : ∀ (m j : Nat) (μ : MU), j + m = 148 → μ 176 3 = n →
    (∀ μ' : MU, (∀ x, ¬ x = 178 → μ' x = μ x) → (∀ i, μ' 178 i = if 148 * n + j ≤ i ∧ i < 148 * n + 148 then μ 177 (i - 148 * n) else μ 178 i) → Wp E 84 86 [some (.inr (.inr (.inl 176))), some (.inl 148)] [] G0 μ' Q) →
    Wp E 84 52 [some (.inr (.inr (.inl 176))), some (.inl j)] [] G0 μ Q := by
  intro m
  induction m with
  | zero =>
    intro j μ hj hm h
    have e1 : j = 148 := by omega
    subst e1
    simp (disch := first | omega | exact rfl) only [x84_52, x84_53, x84_56, isF, isK, isH, mK, nl_i, nl_n, nl_o, nl_r, c1_i, c1_r, mPush, mRv, G0_1, true_and, and_true, and_self, implies_true, List.length_nil, List.length_cons, Nat.reduceAdd, Nat.reduceLeDiff, Nat.zero_le, beq_self_eq_true, Nat.reduceBEq, decide_true, Bool.and_self, reduceCtorEq, ne_eq, not_true_eq_false, not_false_eq_true, false_implies, true_implies, Nat.reduceLT, Nat.reduceEqDiff, or_true, true_or, or_false, false_or, or_self, Int.reduceEq, Int.reduceNe, Int.reduceLT, Int.reduceLE, Int.reduceAdd, Int.reduceSub, Int.reduceMul, Int.reduceNeg, Int.reduceToNat, if_true, if_false, Classical.not_not, Int.cast_ofNat_Int]
    apply h _ (fun _ _ => rfl)
    intro i; rw [if_neg (by omega)]
  | succ m ih =>
    intro j μ hj hm h
    have e1 : ¬ (148 : Int) ≤ j := by omega
    have e2 : (j : Int) < 148 := by omega
    have e3 : (148 * (n : Int) + j).toNat = 148 * n + j := by omega
    have e4 : (j : Int) + 1 = ((j + 1 : Nat) : Int) := by omega
    simp (disch := first | omega | exact rfl) only [x84_52, x84_53, x84_56, x84_59, x84_60, x84_63, x84_66, x84_67, x84_70, x84_71, x84_72, x84_73, x84_74, x84_77, x84_78, x84_79, x84_80, isF, isK, isH, mK, nl_i, nl_n, nl_o, nl_r, c1_i, c1_r, mPush, mRv, G0_1, true_and, and_true, and_self, implies_true, List.length_nil, List.length_cons, Nat.reduceAdd, Nat.reduceLeDiff, Nat.zero_le, beq_self_eq_true, Nat.reduceBEq, decide_true, Bool.and_self, reduceCtorEq, ne_eq, not_true_eq_false, not_false_eq_true, false_implies, true_implies, Nat.reduceLT, Nat.reduceEqDiff, or_true, true_or, or_false, false_or, or_self, Int.reduceEq, Int.reduceNe, Int.reduceLT, Int.reduceLE, Int.reduceAdd, Int.reduceSub, Int.reduceMul, Int.reduceNeg, Int.reduceToNat, if_true, if_false, Classical.not_not, Int.cast_ofNat_Int, kd176, kd177, kd178, kd179, kd180, kd181, kd182, kd183, kd184, kd185, kd186, kd187, kd188, kd189, kd190, kd191, kd192, kd193, kd194, rf176_1, rf176_2, rf176_4, rf176_5, rf176_6, rf176_8, rf176_9, rf176_10, rf176_11, rf176_12, rf176_13, rf176_14, rf176_16, rf176_17, rf176_18, rf176_19, rf176_20, rf176_23, e1, e2, hm, mWr_of, Int.toNat_natCast, e3]
    repeat (refine And.intro (by omega) ?_)
    rw [x84_83, e4]
    refine ih (j + 1) _ (by omega) ?_ ?_
    · rw [mUp_ne (by omega)]; exact hm
    intro μ' hf g1
    apply h μ'
    · intro x hx
      rw [hf x hx, mUp_ne hx]
    · intro i
      rw [g1, mUp_ne (by omega), mUp_at]
      by_cases hij : i = 148 * n + j
      · subst hij
        rw [if_neg (by omega), if_pos rfl, if_pos (by omega)]
        congr 1; omega
      · rw [if_neg hij]
        by_cases hq5 : 148 * n + (j + 1) ≤ i ∧ i < 148 * n + 148
        · rw [if_pos hq5, if_pos (by omega)]
        · rw [if_neg hq5, if_neg (by omega)]
/-- records -/
theorem ct84 {μ : MU} {n : Nat} (hn : n ≤ 6) (hm : μ 176 3 = n) (h : ∀ μ' : MU, (∀ x, ¬ x = 176 → ¬ x = 178 → μ' x = μ x) → (∀ j, ¬ j = 3 → μ' 176 j = μ 176 j) → (μ' 176 3 = if n < 6 then (n : Int) + 1 else n) → (n < 6 → ∀ i, μ' 178 i = if 148 * n ≤ i ∧ i < 148 * n + 148 then μ 177 (i - 148 * n) else μ 178 i) → (n = 6 → ∀ i, i < 888 → μ' 178 i = if i < 740 then μ 178 (i + 148) else μ 177 (i - 740)) → Q none G0 μ') : Wp E 84 0 [some (.inr (.inr (.inl 176))), none] [] G0 μ Q := by
  by_cases p1 : n = 6
  · subst p1
    have e1 : μ 176 3 = 6 := hm
    simp (disch := first | omega | exact rfl) only [x84_0, x84_1, x84_4, x84_6, x84_9, x84_10, isF, isK, isH, mK, nl_i, nl_n, nl_o, nl_r, c1_i, c1_r, mPush, mRv, G0_1, true_and, and_true, and_self, implies_true, List.length_nil, List.length_cons, Nat.reduceAdd, Nat.reduceLeDiff, Nat.zero_le, beq_self_eq_true, Nat.reduceBEq, decide_true, Bool.and_self, reduceCtorEq, ne_eq, not_true_eq_false, not_false_eq_true, false_implies, true_implies, Nat.reduceLT, Nat.reduceEqDiff, or_true, true_or, or_false, false_or, or_self, Int.reduceEq, Int.reduceNe, Int.reduceLT, Int.reduceLE, Int.reduceAdd, Int.reduceSub, Int.reduceMul, Int.reduceNeg, Int.reduceToNat, if_true, if_false, Classical.not_not, Int.cast_ofNat_Int, kd176, kd177, kd178, kd179, kd180, kd181, kd182, kd183, kd184, kd185, kd186, kd187, kd188, kd189, kd190, kd191, kd192, kd193, kd194, rf176_1, rf176_2, rf176_4, rf176_5, rf176_6, rf176_8, rf176_9, rf176_10, rf176_11, rf176_12, rf176_13, rf176_14, rf176_16, rf176_17, rf176_18, rf176_19, rf176_20, rf176_23, e1]
    refine zq84a 740 0 _ (by omega) ?_
    intro μ1 f1 g1
    have e2 : μ1 176 3 = 6 := by rw [f1 176 (by omega)]; exact e1
    simp (disch := first | omega | exact rfl) only [x84_40, x84_41, x84_42, x84_45, x84_46, x84_47, x84_50, x84_51, isF, isK, isH, mK, nl_i, nl_n, nl_o, nl_r, c1_i, c1_r, mPush, mRv, G0_1, true_and, and_true, and_self, implies_true, List.length_nil, List.length_cons, Nat.reduceAdd, Nat.reduceLeDiff, Nat.zero_le, beq_self_eq_true, Nat.reduceBEq, decide_true, Bool.and_self, reduceCtorEq, ne_eq, not_true_eq_false, not_false_eq_true, false_implies, true_implies, Nat.reduceLT, Nat.reduceEqDiff, or_true, true_or, or_false, false_or, or_self, Int.reduceEq, Int.reduceNe, Int.reduceLT, Int.reduceLE, Int.reduceAdd, Int.reduceSub, Int.reduceMul, Int.reduceNeg, Int.reduceToNat, if_true, if_false, Classical.not_not, Int.cast_ofNat_Int, kd176, kd177, kd178, kd179, kd180, kd181, kd182, kd183, kd184, kd185, kd186, kd187, kd188, kd189, kd190, kd191, kd192, kd193, kd194, rf176_1, rf176_2, rf176_4, rf176_5, rf176_6, rf176_8, rf176_9, rf176_10, rf176_11, rf176_12, rf176_13, rf176_14, rf176_16, rf176_17, rf176_18, rf176_19, rf176_20, rf176_23, e2, mWr_of]
    refine zq84b (n := 5) (by omega) 148 0 _ (by omega) (by rw [mUp_eq]; rfl) ?_
    intro μ2 f2 g2
    have e3 : μ2 176 3 = 5 := by rw [f2 176 (by omega), mUp_eq]
    simp (disch := first | omega | exact rfl) only [x84_86, x84_87, x84_88, x84_91, x84_92, x84_93, x84_96, isF, isK, isH, mK, nl_i, nl_n, nl_o, nl_r, c1_i, c1_r, mPush, mRv, G0_1, true_and, and_true, and_self, implies_true, List.length_nil, List.length_cons, Nat.reduceAdd, Nat.reduceLeDiff, Nat.zero_le, beq_self_eq_true, Nat.reduceBEq, decide_true, Bool.and_self, reduceCtorEq, ne_eq, not_true_eq_false, not_false_eq_true, false_implies, true_implies, Nat.reduceLT, Nat.reduceEqDiff, or_true, true_or, or_false, false_or, or_self, Int.reduceEq, Int.reduceNe, Int.reduceLT, Int.reduceLE, Int.reduceAdd, Int.reduceSub, Int.reduceMul, Int.reduceNeg, Int.reduceToNat, if_true, if_false, Classical.not_not, Int.cast_ofNat_Int, kd176, kd177, kd178, kd179, kd180, kd181, kd182, kd183, kd184, kd185, kd186, kd187, kd188, kd189, kd190, kd191, kd192, kd193, kd194, rf176_1, rf176_2, rf176_4, rf176_5, rf176_6, rf176_8, rf176_9, rf176_10, rf176_11, rf176_12, rf176_13, rf176_14, rf176_16, rf176_17, rf176_18, rf176_19, rf176_20, rf176_23, e3, mWr_of]
    apply h
    · intro x hx1 hx2
      rw [mUp_ne hx1, f2 x hx2, mUp_ne hx1, f1 x hx2]
    · intro j hj
      rw [mUp_nj hj, f2 176 (by omega), mUp_nj hj, f1 176 (by omega)]
    · rw [mUp_eq]; rfl
    · omega
    · intro _ i hi
      rw [mUp_ne (by omega), g2, mUp_ne (by omega), mUp_ne (by omega), g1, f1 177 (by omega)]
      by_cases hq5 : i < 740
      · rw [if_neg (by omega), if_pos (by omega), if_pos hq5]
      · rw [if_pos (by omega), if_neg hq5]
  · have e1 : ¬ (n : Int) = 6 := by omega
    simp (disch := first | omega | exact rfl) only [x84_0, x84_1, x84_4, x84_6, x84_50, x84_51, isF, isK, isH, mK, nl_i, nl_n, nl_o, nl_r, c1_i, c1_r, mPush, mRv, G0_1, true_and, and_true, and_self, implies_true, List.length_nil, List.length_cons, Nat.reduceAdd, Nat.reduceLeDiff, Nat.zero_le, beq_self_eq_true, Nat.reduceBEq, decide_true, Bool.and_self, reduceCtorEq, ne_eq, not_true_eq_false, not_false_eq_true, false_implies, true_implies, Nat.reduceLT, Nat.reduceEqDiff, or_true, true_or, or_false, false_or, or_self, Int.reduceEq, Int.reduceNe, Int.reduceLT, Int.reduceLE, Int.reduceAdd, Int.reduceSub, Int.reduceMul, Int.reduceNeg, Int.reduceToNat, if_true, if_false, Classical.not_not, Int.cast_ofNat_Int, kd176, kd177, kd178, kd179, kd180, kd181, kd182, kd183, kd184, kd185, kd186, kd187, kd188, kd189, kd190, kd191, kd192, kd193, kd194, rf176_1, rf176_2, rf176_4, rf176_5, rf176_6, rf176_8, rf176_9, rf176_10, rf176_11, rf176_12, rf176_13, rf176_14, rf176_16, rf176_17, rf176_18, rf176_19, rf176_20, rf176_23, hm, e1]
    refine zq84b (n := n) (by omega) 148 0 _ (by omega) hm ?_
    intro μ2 f2 g2
    have e3 : μ2 176 3 = n := by rw [f2 176 (by omega)]; exact hm
    simp (disch := first | omega | exact rfl) only [x84_86, x84_87, x84_88, x84_91, x84_92, x84_93, x84_96, isF, isK, isH, mK, nl_i, nl_n, nl_o, nl_r, c1_i, c1_r, mPush, mRv, G0_1, true_and, and_true, and_self, implies_true, List.length_nil, List.length_cons, Nat.reduceAdd, Nat.reduceLeDiff, Nat.zero_le, beq_self_eq_true, Nat.reduceBEq, decide_true, Bool.and_self, reduceCtorEq, ne_eq, not_true_eq_false, not_false_eq_true, false_implies, true_implies, Nat.reduceLT, Nat.reduceEqDiff, or_true, true_or, or_false, false_or, or_self, Int.reduceEq, Int.reduceNe, Int.reduceLT, Int.reduceLE, Int.reduceAdd, Int.reduceSub, Int.reduceMul, Int.reduceNeg, Int.reduceToNat, if_true, if_false, Classical.not_not, Int.cast_ofNat_Int, kd176, kd177, kd178, kd179, kd180, kd181, kd182, kd183, kd184, kd185, kd186, kd187, kd188, kd189, kd190, kd191, kd192, kd193, kd194, rf176_1, rf176_2, rf176_4, rf176_5, rf176_6, rf176_8, rf176_9, rf176_10, rf176_11, rf176_12, rf176_13, rf176_14, rf176_16, rf176_17, rf176_18, rf176_19, rf176_20, rf176_23, e3, mWr_of]
    apply h
    · intro x hx1 hx2
      rw [mUp_ne hx1, f2 x hx2]
    · intro j hj
      rw [mUp_nj hj, f2 176 (by omega)]
    · rw [mUp_eq, if_pos (by omega)]
    · intro _ i
      rw [mUp_ne (by omega), g2]; rfl
    · omega
end RECS
