section ADV
variable {E : ME} {Q : Option MV → MG → MU → Prop}
/-- how many k below m leave a behind 7 -/
def adC (a : Int) : Nat → Int
  | 0 => 0
  | m + 1 => adC a m + (if (m : Int) % 7 = a then 1 else 0)
theorem adC_eq {a : Int} (h0 : 0 ≤ a ∧ a ≤ 6) : ∀ m : Nat, adC a m = ((m : Int) + 6 - a) / 7 := by
  intro m
  induction m with
  | zero => simp only [adC]; omega
  | succ m ih => simp only [adC]; rw [ih]; omega
theorem zq123 {N : Nat} {a : Int} {μ : MU} (h0 : 0 ≤ a ∧ a ≤ 6) (hs : 0 ≤ μ 177 6 ∧ μ 177 6 ≤ 20) (ht : 0 ≤ μ 177 3 ∧ μ 177 3 ≤ 9) (hN : μ 177 6 * μ 177 3 = N) (hN2 : N ≤ 180) (h : Q (some (.inl (adC a N))) G0 μ) : ∀ (m j : Nat), j + m = N →
    Wp E 123 21 [some (.inr (.inr (.inl 176))), some (.inl a), some (.inl (adC a j)), some (.inl j)] [] G0 μ Q := by
  intro m
  induction m with
  | zero =>
    intro j hj
    have e1 : j = N := by omega
    subst e1
    simp (disch := first | omega | exact rfl) only [x123_21, x123_22, x123_23, x123_26, x123_28, x123_29, x123_30, x123_33, x123_34, x123_35, x123_36, x123_61, x123_62, isF, isK, isH, mK, nl_i, nl_n, nl_o, nl_r, c1_i, c1_r, mPush, mRv, G0_1, true_and, and_true, and_self, implies_true, List.length_nil, List.length_cons, Nat.reduceAdd, Nat.reduceLeDiff, Nat.zero_le, beq_self_eq_true, Nat.reduceBEq, decide_true, Bool.and_self, reduceCtorEq, ne_eq, not_true_eq_false, not_false_eq_true, false_implies, true_implies, Nat.reduceLT, Nat.reduceEqDiff, or_true, true_or, or_false, false_or, or_self, Int.reduceEq, Int.reduceNe, Int.reduceLT, Int.reduceLE, Int.reduceAdd, Int.reduceSub, Int.reduceMul, Int.reduceNeg, Int.reduceToNat, if_true, if_false, Classical.not_not, Int.cast_ofNat_Int, kd176, kd177, kd178, kd179, kd180, kd181, kd182, kd183, kd184, kd185, kd186, kd187, kd188, kd189, kd190, kd191, kd192, kd193, kd194, rf176_1, rf176_2, rf176_4, rf176_5, rf176_6, rf176_8, rf176_9, rf176_10, rf176_11, rf176_12, rf176_13, rf176_14, rf176_16, rf176_17, rf176_18, rf176_19, rf176_20, rf176_23, mWr_of, hN, Int.lt_irrefl, Int.le_refl]
    exact h
  | succ m ih =>
    intro j hj
    have e1 : ¬ (N : Int) ≤ j := by omega
    have e2 : (j : Int) < N := by omega
    have e4 : (j : Int) + 1 = ((j + 1 : Nat) : Int) := by omega
    have e5 : (j : Int).tmod 7 = (j : Int) % 7 := Int.tmod_eq_emod_of_nonneg (by omega)
    have e6 := adC_eq h0 j
    by_cases p1 : (j : Int) % 7 = a
    · simp (disch := first | omega | exact rfl) only [x123_0, x123_1, x123_2, x123_5, x123_6, x123_7, x123_9, x123_12, x123_15, x123_16, x123_17, x123_18, x123_19, x123_20, x123_21, x123_22, x123_23, x123_26, x123_28, x123_29, x123_30, x123_33, x123_34, x123_35, x123_36, x123_39, x123_40, x123_41, x123_43, x123_44, x123_45, x123_48, x123_49, x123_52, x123_53, x123_54, x123_55, x123_61, x123_62, isF, isK, isH, mK, nl_i, nl_n, nl_o, nl_r, c1_i, c1_r, mPush, mRv, G0_1, true_and, and_true, and_self, implies_true, List.length_nil, List.length_cons, Nat.reduceAdd, Nat.reduceLeDiff, Nat.zero_le, beq_self_eq_true, Nat.reduceBEq, decide_true, Bool.and_self, reduceCtorEq, ne_eq, not_true_eq_false, not_false_eq_true, false_implies, true_implies, Nat.reduceLT, Nat.reduceEqDiff, or_true, true_or, or_false, false_or, or_self, Int.reduceEq, Int.reduceNe, Int.reduceLT, Int.reduceLE, Int.reduceAdd, Int.reduceSub, Int.reduceMul, Int.reduceNeg, Int.reduceToNat, if_true, if_false, Classical.not_not, Int.cast_ofNat_Int, kd176, kd177, kd178, kd179, kd180, kd181, kd182, kd183, kd184, kd185, kd186, kd187, kd188, kd189, kd190, kd191, kd192, kd193, kd194, rf176_1, rf176_2, rf176_4, rf176_5, rf176_6, rf176_8, rf176_9, rf176_10, rf176_11, rf176_12, rf176_13, rf176_14, rf176_16, rf176_17, rf176_18, rf176_19, rf176_20, rf176_23, mWr_of, hN, e1, e2, e5, p1]
      rw [x123_58, e4]
      have e7 : adC a j + 1 = adC a (j + 1) := by simp only [adC]; rw [if_pos p1]
      rw [e7]
      exact ih (j + 1) (by omega)
    · simp (disch := first | omega | exact rfl) only [x123_0, x123_1, x123_2, x123_5, x123_6, x123_7, x123_9, x123_12, x123_15, x123_16, x123_17, x123_18, x123_19, x123_20, x123_21, x123_22, x123_23, x123_26, x123_28, x123_29, x123_30, x123_33, x123_34, x123_35, x123_36, x123_39, x123_40, x123_41, x123_43, x123_44, x123_45, x123_48, x123_49, x123_52, x123_53, x123_54, x123_55, x123_61, x123_62, isF, isK, isH, mK, nl_i, nl_n, nl_o, nl_r, c1_i, c1_r, mPush, mRv, G0_1, true_and, and_true, and_self, implies_true, List.length_nil, List.length_cons, Nat.reduceAdd, Nat.reduceLeDiff, Nat.zero_le, beq_self_eq_true, Nat.reduceBEq, decide_true, Bool.and_self, reduceCtorEq, ne_eq, not_true_eq_false, not_false_eq_true, false_implies, true_implies, Nat.reduceLT, Nat.reduceEqDiff, or_true, true_or, or_false, false_or, or_self, Int.reduceEq, Int.reduceNe, Int.reduceLT, Int.reduceLE, Int.reduceAdd, Int.reduceSub, Int.reduceMul, Int.reduceNeg, Int.reduceToNat, if_true, if_false, Classical.not_not, Int.cast_ofNat_Int, kd176, kd177, kd178, kd179, kd180, kd181, kd182, kd183, kd184, kd185, kd186, kd187, kd188, kd189, kd190, kd191, kd192, kd193, kd194, rf176_1, rf176_2, rf176_4, rf176_5, rf176_6, rf176_8, rf176_9, rf176_10, rf176_11, rf176_12, rf176_13, rf176_14, rf176_16, rf176_17, rf176_18, rf176_19, rf176_20, rf176_23, mWr_of, hN, e1, e2, e5, p1]
      rw [x123_58, e4]
      have e7 : adC a j + 0 = adC a (j + 1) := by simp only [adC]; rw [if_neg p1]
      rw [e7]
      exact ih (j + 1) (by omega)
end ADV
theorem op54 {E : ME} {μ : MU} (hI : INV μ) {a : Int} : OPS E 54 [some (.inl a), none] 123 [some (.inl a), none, none] μ := by
  obtain ⟨hw, hc, hh, hl, hp⟩ := id hI
  have e1 : μ 1 7 = μ 177 6 := hc.2.2.1
  have e2 : μ 2 3 = μ 177 3 := hc.1 3 (by omega)
  have hs := hw.1.2.2.2.2.2.2
  have ht := hw.1.2.2.2.1
  have hINV : INV (mUp μ 176 0 0) := by
    refine INV_pad hI (fun x _ _ _ hq4 _ _ => mUp_ne hq4) (mUp_nj (by omega)) ?_
    unfold pRel
    rw [mUp_nj (by omega), mUp_ne (by omega), mUp_ne (by omega), mUp_ne (by omega)]
    exact hp
  unfold OPS
  by_cases p1 : 0 ≤ a ∧ a ≤ 6
  · have hN0 := Int.mul_nonneg hs.1 ht.1
    have hN1 : μ 177 6 * μ 177 3 ≤ 20 * 9 := Int.mul_le_mul hs.2 ht.2 ht.1 (by omega)
    obtain ⟨N, hN⟩ := Int.eq_ofNat_of_zero_le hN0
    have e3 : ((N : Int) + 7 - 1 - a).tdiv 7 = adC a N := by
      rw [Int.tdiv_eq_ediv_of_nonneg (by omega), adC_eq p1]; omega
    have e8 : mWr (adC a N) = adC a N := mWr_of (by rw [adC_eq p1]; omega) (by rw [adC_eq p1]; omega)
    simp (disch := first | omega | exact rfl) only [x54_0, x54_1, x54_2, x54_4, x54_7, x54_10, x54_11, x54_12, x54_13, x54_16, x54_19, x54_20, x54_23, x54_26, x54_27, x54_28, x54_29, x54_30, x54_31, x54_33, x54_34, x54_35, x54_36, x54_37, x54_38, x54_40, x54_41, isF, isK, isH, mK, nl_i, nl_n, nl_o, nl_r, c1_i, c1_r, mPush, mRv, G0_1, true_and, and_true, and_self, implies_true, List.length_nil, List.length_cons, Nat.reduceAdd, Nat.reduceLeDiff, Nat.zero_le, beq_self_eq_true, Nat.reduceBEq, decide_true, Bool.and_self, reduceCtorEq, ne_eq, not_true_eq_false, not_false_eq_true, false_implies, true_implies, Nat.reduceLT, Nat.reduceEqDiff, or_true, true_or, or_false, false_or, or_self, Int.reduceEq, Int.reduceNe, Int.reduceLT, Int.reduceLE, Int.reduceAdd, Int.reduceSub, Int.reduceMul, Int.reduceNeg, Int.reduceToNat, if_true, if_false, Classical.not_not, Int.cast_ofNat_Int, kd0, rf0_0, rf0_1, rf0_2, rf0_3, rf0_4, rf0_5, rf0_6, rf0_7, rf0_8, kd1, rf1_0, kd2, ct74, p1, e1, e2, hN, mWr_of, e3, e8]
    refine ⟨_, rfl, ?_⟩
    simp (disch := first | omega | exact rfl) only [x123_0, x123_1, x123_2, x123_5, x123_6, x123_7, x123_9, x123_12, x123_17, x123_18, x123_19, x123_20, isF, isK, isH, mK, nl_i, nl_n, nl_o, nl_r, c1_i, c1_r, mPush, mRv, G0_1, true_and, and_true, and_self, implies_true, List.length_nil, List.length_cons, Nat.reduceAdd, Nat.reduceLeDiff, Nat.zero_le, beq_self_eq_true, Nat.reduceBEq, decide_true, Bool.and_self, reduceCtorEq, ne_eq, not_true_eq_false, not_false_eq_true, false_implies, true_implies, Nat.reduceLT, Nat.reduceEqDiff, or_true, true_or, or_false, false_or, or_self, Int.reduceEq, Int.reduceNe, Int.reduceLT, Int.reduceLE, Int.reduceAdd, Int.reduceSub, Int.reduceMul, Int.reduceNeg, Int.reduceToNat, if_true, if_false, Classical.not_not, Int.cast_ofNat_Int, kd176, kd177, kd178, kd179, kd180, kd181, kd182, kd183, kd184, kd185, kd186, kd187, kd188, kd189, kd190, kd191, kd192, kd193, kd194, rf176_1, rf176_2, rf176_4, rf176_5, rf176_6, rf176_8, rf176_9, rf176_10, rf176_11, rf176_12, rf176_13, rf176_14, rf176_16, rf176_17, rf176_18, rf176_19, rf176_20, rf176_23, ct77, p1]
    refine zq123 (N := N) p1 (by rw [e177u]; exact hs) (by rw [e177u]; exact ht) (by rw [e177u]; exact hN) (by omega) ?_ N 0 (by omega)
    exact ⟨rfl, rfl, hINV⟩
  · simp (disch := first | omega | exact rfl) only [x54_0, x54_1, x54_2, x54_4, x54_7, x54_10, x54_11, x54_12, x54_13, x54_16, x54_19, x54_20, x54_23, x54_26, x54_27, x54_28, x54_29, x54_30, x54_31, x54_33, x54_34, x54_35, x54_36, x54_37, x54_38, x54_40, x54_41, isF, isK, isH, mK, nl_i, nl_n, nl_o, nl_r, c1_i, c1_r, mPush, mRv, G0_1, true_and, and_true, and_self, implies_true, List.length_nil, List.length_cons, Nat.reduceAdd, Nat.reduceLeDiff, Nat.zero_le, beq_self_eq_true, Nat.reduceBEq, decide_true, Bool.and_self, reduceCtorEq, ne_eq, not_true_eq_false, not_false_eq_true, false_implies, true_implies, Nat.reduceLT, Nat.reduceEqDiff, or_true, true_or, or_false, false_or, or_self, Int.reduceEq, Int.reduceNe, Int.reduceLT, Int.reduceLE, Int.reduceAdd, Int.reduceSub, Int.reduceMul, Int.reduceNeg, Int.reduceToNat, if_true, if_false, Classical.not_not, Int.cast_ofNat_Int, kd0, rf0_0, rf0_1, rf0_2, rf0_3, rf0_4, rf0_5, rf0_6, rf0_7, rf0_8, kd1, ct74, if_neg p1]
    refine ⟨_, rfl, ?_⟩
    simp (disch := first | omega | exact rfl) only [x123_0, x123_1, x123_2, x123_5, x123_6, x123_7, x123_9, x123_12, x123_15, x123_16, x123_17, x123_18, x123_19, x123_20, x123_21, x123_22, x123_23, x123_26, x123_28, x123_29, x123_30, x123_33, x123_34, x123_35, x123_36, x123_39, x123_40, x123_41, x123_43, x123_44, x123_45, x123_48, x123_49, x123_52, x123_53, x123_54, x123_55, x123_61, x123_62, isF, isK, isH, mK, nl_i, nl_n, nl_o, nl_r, c1_i, c1_r, mPush, mRv, G0_1, true_and, and_true, and_self, implies_true, List.length_nil, List.length_cons, Nat.reduceAdd, Nat.reduceLeDiff, Nat.zero_le, beq_self_eq_true, Nat.reduceBEq, decide_true, Bool.and_self, reduceCtorEq, ne_eq, not_true_eq_false, not_false_eq_true, false_implies, true_implies, Nat.reduceLT, Nat.reduceEqDiff, or_true, true_or, or_false, false_or, or_self, Int.reduceEq, Int.reduceNe, Int.reduceLT, Int.reduceLE, Int.reduceAdd, Int.reduceSub, Int.reduceMul, Int.reduceNeg, Int.reduceToNat, if_true, if_false, Classical.not_not, Int.cast_ofNat_Int, kd176, kd177, kd178, kd179, kd180, kd181, kd182, kd183, kd184, kd185, kd186, kd187, kd188, kd189, kd190, kd191, kd192, kd193, kd194, rf176_1, rf176_2, rf176_4, rf176_5, rf176_6, rf176_8, rf176_9, rf176_10, rf176_11, rf176_12, rf176_13, rf176_14, rf176_16, rf176_17, rf176_18, rf176_19, rf176_20, rf176_23, ct77, if_neg p1]
    exact hINV
