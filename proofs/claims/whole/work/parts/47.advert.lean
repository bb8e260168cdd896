section ADV
variable {E : ME} {Q : Option MV → MG → MU → Prop}
/-- how many k below m leave a behind 7 -/
def adC (a : Int) : Nat → Int
  | 0 => 0
  | m + 1 => adC a m + (if (m : Int) % 7 = a then 1 else 0)
theorem adC_eq {a : Int} (h0 : 0 ≤ a ∧ a ≤ 6) : ∀ m : Nat, adC a m = ((m : Int) + 6 - a) / 7 := by
  intro m
  induction m with
  | zero => simp only [adC]; omega
  | succ m ih => simp only [adC]; rw [ih]; omega
theorem zq123 {N : Nat} {a : Int} {μ : MU} (h0 : 0 ≤ a ∧ a ≤ 6) (hs : 0 ≤ μ 177 6 ∧ μ 177 6 ≤ 20) (ht : 0 ≤ μ 177 3 ∧ μ 177 3 ≤ 9) (hN : μ 177 6 * μ 177 3 = N) (hN2 : N ≤ 180) (h : Q (some (.inl (adC a N))) G0 μ) : ∀ (m j : Nat), j + m = N →
    Wp E 123 21 [some (.inr (.inr (.inl 176))), some (.inl a), some (.inl (adC a j)), some (.inl j)] [] G0 μ Q := by
  intro m
  induction m with
  | zero =>
    intro j hj
    have e1 : j = N := by omega
    subst e1
    simp (disch := first | omega | exact rfl) only [x123_21, x123_22, x123_23, x123_26, x123_28, x123_29, x123_30, x123_33, x123_34, x123_35, x123_36, x123_61, x123_62, isF, isK, isH, mK, nl_i, nl_n, nl_o, nl_r, c1_i, c1_r, mPush, mRv, G0_1, true_and, and_true, and_self, implies_true, List.length_nil, List.length_cons, Nat.reduceAdd, Nat.reduceLeDiff, Nat.zero_le, beq_self_eq_true, Nat.reduceBEq, decide_true, Bool.and_self, reduceCtorEq, ne_eq, not_true_eq_false, not_false_eq_true, false_implies, true_implies, Nat.reduceLT, Nat.reduceEqDiff, or_true, true_or, or_false, false_or, or_self, Int.reduceEq, Int.reduceNe, Int.reduceLT, Int.reduceLE, Int.reduceAdd, Int.reduceSub, Int.reduceMul, Int.reduceNeg, Int.reduceToNat, if_true, if_false, Classical.not_not, Int.cast_ofNat_Int, kd176, kd177, kd178, kd179, kd180, kd181, kd182, kd183, kd184, kd185, kd186, kd187, kd188, kd189, kd190, kd191, kd192, kd193, kd194, rf176_1, rf176_2, rf176_4, rf176_5, rf176_6, rf176_8, rf176_9, rf176_10, rf176_11, rf176_12, rf176_13, rf176_14, rf176_16, rf176_17, rf176_18, rf176_19, rf176_20, rf176_23, mWr_of, hN, Int.lt_irrefl, Int.le_refl]
    exact h
  | succ m ih =>
    intro j hj
    have e1 : ¬ (N : Int) ≤ j := by omega
    have e2 : (j : Int) < N := by omega
    have e4 : (j : Int) + 1 = ((j + 1 : Nat) : Int) := by omega
    have e5 : (j : Int).tmod 7 = (j : Int) % 7 := Int.tmod_eq_emod_of_nonneg (by omega)
    have e6 := adC_eq h0 j
    by_cases p1 : (j : Int) % 7 = a
    · simp (disch := first | omega | exact rfl) only [x123_0, x123_1, x123_2, x123_5, x123_6, x123_7, x123_9, x123_12, x123_15, x123_16, x123_17, x123_18, x123_19, x123_20, x123_21, x123_22, x123_23, x123_26, x123_28, x123_29, x123_30, x123_33, x123_34, x123_35, x123_36, x123_39, x123_40, x123_41, x123_43, x123_44, x123_45, x123_48, x123_49, x123_52, x123_53, x123_54, x123_55, x123_61, x123_62, isF, isK, isH, mK, nl_i, nl_n, nl_o, nl_r, c1_i, c1_r, mPush, mRv, G0_1, true_and, and_true, and_self, implies_true, List.length_nil, List.length_cons, Nat.reduceAdd, Nat.reduceLeDiff, Nat.zero_le, beq_self_eq_true, Nat.reduceBEq, decide_true, Bool.and_self, reduceCtorEq, ne_eq, not_true_eq_false, not_false_eq_true, false_implies, true_implies, Nat.reduceLT, Nat.reduceEqDiff, or_true, true_or, or_false, false_or, or_self, Int.reduceEq, Int.reduceNe, Int.reduceLT, Int.reduceLE, Int.reduceAdd, Int.reduceSub, Int.reduceMul, Int.reduceNeg, Int.reduceToNat, if_true, if_false, Classical.not_not, Int.cast_ofNat_Int, kd176, kd177, kd178, kd179, kd180, kd181, kd182, kd183, kd184, kd185, kd186, kd187, kd188, kd189, kd190, kd191, kd192, kd193, kd194, rf176_1, rf176_2, rf176_4, rf176_5, rf176_6, rf176_8, rf176_9, rf176_10, rf176_11, rf176_12, rf176_13, rf176_14, rf176_16, rf176_17, rf176_18, rf176_19, rf176_20, rf176_23, mWr_of, hN, e1, e2, e5, p1]
      rw [x123_58, e4]
      have e7 : adC a j + 1 = adC a (j + 1) := by simp only [adC]; rw [if_pos p1]
      rw [e7]
      exact ih (j + 1) (by omega)
    · simp (disch := first | omega | exact rfl) only [x123_0, x123_1, x123_2, x123_5, x123_6, x123_7, x123_9, x123_12, x123_15, x123_16, x123_17, x123_18, x123_19, x123_20, x123_21, x123_22, x123_23, x123_26, x123_28, x123_29, x123_30, x123_33, x123_34, x123_35, x123_36, x123_39, x123_40, x123_41, x123_43, x123_44, x123_45, x123_48, x123_49, x123_52, x123_53, x123_54, x123_55, x123_61, x123_62, isF, isK, isH, mK, nl_i, nl_n, nl_o, nl_r, c1_i, c1_r, mPush, mRv, G0_1, true_and, and_true, and_self, implies_true, List.length_nil, List.length_cons, Nat.reduceAdd, Nat.reduceLeDiff, Nat.zero_le, beq_self_eq_true, Nat.reduceBEq, decide_true, Bool.and_self, reduceCtorEq, ne_eq, not_true_eq_false, not_false_eq_true, false_implies, true_implies, Nat.reduceLT, Nat.reduceEqDiff, or_true, true_or, or_false, false_or, or_self, Int.reduceEq, Int.reduceNe, Int.reduceLT, Int.reduceLE, Int.reduceAdd, Int.reduceSub, Int.reduceMul, Int.reduceNeg, Int.reduceToNat, if_true, if_false, Classical.not_not, Int.cast_ofNat_Int, kd176, kd177, kd178, kd179, kd180, kd181, kd182, kd183, kd184, kd185, kd186, kd187, kd188, kd189, kd190, kd191, kd192, kd193, kd194, rf176_1, rf176_2, rf176_4, rf176_5, rf176_6, rf176_8, rf176_9, rf176_10, rf176_11, rf176_12, rf176_13, rf176_14, rf176_16, rf176_17, rf176_18, rf176_19, rf176_20, rf176_23, mWr_of, hN, e1, e2, e5, p1]
      rw [x123_58, e4]
      have e7 : adC a j + 0 = adC a (j + 1) := by simp only [adC]; rw [if_neg p1]
      rw [e7]
      exact ih (j + 1) (by omega)
end ADV
