section SAVE
variable {E : ME} {Q : Option MV → MG → MU → Prop}
/-- the reference's copies into and out of a slot -/
theorem zq140 {p : Nat} (hp : p ≤ 1) : ∀ (m j : Nat) (μ : MU), j + m = 148 →
    (∀ μ' : MU, (∀ x, ¬ x = 179 → μ' x = μ x) → (∀ i, μ' 179 i = if 148 * p + j ≤ i ∧ i < 148 * p + 148 then μ 177 (i - 148 * p) else μ 179 i) → Wp E 140 50 [some (.inr (.inr (.inl 176))), some (.inl p), some (.inl 148)] [] G0 μ' Q) →
    Wp E 140 19 [some (.inr (.inr (.inl 176))), some (.inl p), some (.inl j)] [] G0 μ Q := by
  intro m
  induction m with
  | zero =>
    intro j μ hj h
    have e1 : j = 148 := by omega
    subst e1
    simp (disch := first | omega | exact rfl) only [x140_19, x140_20, x140_23, isF, isK, isH, mK, nl_i, nl_n, nl_o, nl_r, c1_i, c1_r, mPush, mRv, G0_1, true_and, and_true, and_self, implies_true, List.length_nil, List.length_cons, Nat.reduceAdd, Nat.reduceLeDiff, Nat.zero_le, beq_self_eq_true, Nat.reduceBEq, decide_true, Bool.and_self, reduceCtorEq, ne_eq, not_true_eq_false, not_false_eq_true, false_implies, true_implies, Nat.reduceLT, Nat.reduceEqDiff, or_true, true_or, or_false, false_or, or_self, Int.reduceEq, Int.reduceNe, Int.reduceLT, Int.reduceLE, Int.reduceAdd, Int.reduceSub, Int.reduceMul, Int.reduceNeg, Int.reduceToNat, if_true, if_false, Classical.not_not, Int.cast_ofNat_Int]
    apply h _ (fun _ _ => rfl)
    intro i; rw [if_neg (by omega)]
  | succ m ih =>
    intro j μ hj h
    have e1 : ¬ (148 : Int) ≤ j := by omega
    have e2 : (j : Int) < 148 := by omega
    have e3 : (148 * (p : Int) + j).toNat = 148 * p + j := by omega
    have e4 : (j : Int) + 1 = ((j + 1 : Nat) : Int) := by omega
    simp (disch := first | omega | exact rfl) only [x140_19, x140_20, x140_23, x140_26, x140_27, x140_30, x140_33, x140_34, x140_35, x140_36, x140_37, x140_38, x140_41, x140_42, x140_43, x140_44, isF, isK, isH, mK, nl_i, nl_n, nl_o, nl_r, c1_i, c1_r, mPush, mRv, G0_1, true_and, and_true, and_self, implies_true, List.length_nil, List.length_cons, Nat.reduceAdd, Nat.reduceLeDiff, Nat.zero_le, beq_self_eq_true, Nat.reduceBEq, decide_true, Bool.and_self, reduceCtorEq, ne_eq, not_true_eq_false, not_false_eq_true, false_implies, true_implies, Nat.reduceLT, Nat.reduceEqDiff, or_true, true_or, or_false, false_or, or_self, Int.reduceEq, Int.reduceNe, Int.reduceLT, Int.reduceLE, Int.reduceAdd, Int.reduceSub, Int.reduceMul, Int.reduceNeg, Int.reduceToNat, if_true, if_false, Classical.not_not, Int.cast_ofNat_Int, kd176, kd177, kd178, kd179, kd180, kd181, kd182, kd183, kd184, kd185, kd186, kd187, kd188, kd189, kd190, kd191, kd192, kd193, kd194, rf176_1, rf176_2, rf176_4, rf176_5, rf176_6, rf176_8, rf176_9, rf176_10, rf176_11, rf176_12, rf176_13, rf176_14, rf176_16, rf176_17, rf176_18, rf176_19, rf176_20, rf176_23, e1, e2, mWr_of, Int.toNat_natCast, e3]
    repeat (refine And.intro (by omega) ?_)
    rw [x140_47, e4]
    refine ih (j + 1) _ (by omega) ?_
    intro μ' hf g1
    apply h μ'
    · intro x hx
      rw [hf x hx, mUp_ne hx]
    · intro i
      rw [g1, mUp_ne (by omega), mUp_at]
      by_cases hij : i = 148 * p + j
      · subst hij
        rw [if_neg (by omega), if_pos rfl, if_pos (by omega)]
        congr 1; omega
      · rw [if_neg hij]
        by_cases hq5 : 148 * p + (j + 1) ≤ i ∧ i < 148 * p + 148
        · rw [if_pos hq5, if_pos (by omega)]
        · rw [if_neg hq5, if_neg (by omega)]
theorem zq141 {p : Nat} (hp : p ≤ 1) : ∀ (m j : Nat) (μ : MU), j + m = 148 →
    (∀ r : Row, (∀ i, r i = if j ≤ i ∧ i < 148 then μ 179 (148 * p + i) else μ 177 i) → Wp E 141 66 [some (.inr (.inr (.inl 176))), some (.inl p), some (.inl 148)] [] G0 (mRow μ r) Q) →
    Wp E 141 35 [some (.inr (.inr (.inl 176))), some (.inl p), some (.inl j)] [] G0 μ Q := by
  intro m
  induction m with
  | zero =>
    intro j μ hj h
    have e1 : j = 148 := by omega
    subst e1
    simp (disch := first | omega | exact rfl) only [x141_35, x141_36, x141_39, isF, isK, isH, mK, nl_i, nl_n, nl_o, nl_r, c1_i, c1_r, mPush, mRv, G0_1, true_and, and_true, and_self, implies_true, List.length_nil, List.length_cons, Nat.reduceAdd, Nat.reduceLeDiff, Nat.zero_le, beq_self_eq_true, Nat.reduceBEq, decide_true, Bool.and_self, reduceCtorEq, ne_eq, not_true_eq_false, not_false_eq_true, false_implies, true_implies, Nat.reduceLT, Nat.reduceEqDiff, or_true, true_or, or_false, false_or, or_self, Int.reduceEq, Int.reduceNe, Int.reduceLT, Int.reduceLE, Int.reduceAdd, Int.reduceSub, Int.reduceMul, Int.reduceNeg, Int.reduceToNat, if_true, if_false, Classical.not_not, Int.cast_ofNat_Int]
    have := h (μ 177) (fun i => by rw [if_neg (by omega)])
    rw [mRow_self] at this
    exact this
  | succ m ih =>
    intro j μ hj h
    have e1 : ¬ (148 : Int) ≤ j := by omega
    have e2 : (j : Int) < 148 := by omega
    have e3 : (148 * (p : Int) + j).toNat = 148 * p + j := by omega
    have e4 : (j : Int) + 1 = ((j + 1 : Nat) : Int) := by omega
    simp (disch := first | omega | exact rfl) only [x141_35, x141_36, x141_39, x141_42, x141_43, x141_46, x141_47, x141_48, x141_51, x141_54, x141_55, x141_56, x141_57, x141_58, x141_59, x141_60, isF, isK, isH, mK, nl_i, nl_n, nl_o, nl_r, c1_i, c1_r, mPush, mRv, G0_1, true_and, and_true, and_self, implies_true, List.length_nil, List.length_cons, Nat.reduceAdd, Nat.reduceLeDiff, Nat.zero_le, beq_self_eq_true, Nat.reduceBEq, decide_true, Bool.and_self, reduceCtorEq, ne_eq, not_true_eq_false, not_false_eq_true, false_implies, true_implies, Nat.reduceLT, Nat.reduceEqDiff, or_true, true_or, or_false, false_or, or_self, Int.reduceEq, Int.reduceNe, Int.reduceLT, Int.reduceLE, Int.reduceAdd, Int.reduceSub, Int.reduceMul, Int.reduceNeg, Int.reduceToNat, if_true, if_false, Classical.not_not, Int.cast_ofNat_Int, kd176, kd177, kd178, kd179, kd180, kd181, kd182, kd183, kd184, kd185, kd186, kd187, kd188, kd189, kd190, kd191, kd192, kd193, kd194, rf176_1, rf176_2, rf176_4, rf176_5, rf176_6, rf176_8, rf176_9, rf176_10, rf176_11, rf176_12, rf176_13, rf176_14, rf176_16, rf176_17, rf176_18, rf176_19, rf176_20, rf176_23, e1, e2, mWr_of, Int.toNat_natCast, e3, mUp_row]
    repeat (refine And.intro (by omega) ?_)
    rw [x141_63, e4]
    refine ih (j + 1) _ (by omega) ?_
    intro r hr
    rw [mRow_row]
    apply h
    rw [mRow_177, mRow_ne (by omega)] at hr
    intro i
    rw [hr]
    by_cases hij : i = j
    · subst hij
      rw [if_neg (by omega), up_eq, if_pos (by omega)]
    · by_cases hq5 : j + 1 ≤ i ∧ i < 148
      · rw [if_pos hq5, if_pos (by omega)]
      · rw [if_neg hq5, up_ne hij, if_neg (by omega)]
end SAVE
