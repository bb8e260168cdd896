theorem INV_pad {μ μ' : MU} (hI : INV μ) (hf : ∀ x, ¬ x = 128 → ¬ x = 129 → ¬ x = 130 → ¬ x = 176 → ¬ x = 181 → ¬ x = 194 → μ' x = μ x) (h3 : μ' 176 3 = μ 176 3) (hp : pRel μ') : INV μ' := by
  obtain ⟨hw, hc, hh, hl, _⟩ := hI
  have e177 : μ' 177 = μ 177 := hf 177 (by omega) (by omega) (by omega) (by omega) (by omega) (by omega)
  have e178 : μ' 178 = μ 178 := hf 178 (by omega) (by omega) (by omega) (by omega) (by omega) (by omega)
  have e179 : μ' 179 = μ 179 := hf 179 (by omega) (by omega) (by omega) (by omega) (by omega) (by omega)
  have e49 : μ' 49 = μ 49 := hf 49 (by omega) (by omega) (by omega) (by omega) (by omega) (by omega)
  have e132 : μ' 132 = μ 132 := hf 132 (by omega) (by omega) (by omega) (by omega) (by omega) (by omega)
  have e180 : μ' 180 = μ 180 := hf 180 (by omega) (by omega) (by omega) (by omega) (by omega) (by omega)
  have eh : ∀ j, hRow μ' j = hRow μ j := fun j => by unfold hRow; rw [e178]
  have el : ∀ j, lRow μ' j = lRow μ j := fun j => by unfold lRow; rw [e179]
  have er : ∀ j, rAt μ' j = rAt μ j := fun j => by unfold rAt; rw [e49]
  refine ⟨by rw [e177]; exact hw, ?_, ?_, ?_, hp⟩
  · rw [e177]; exact cRel_fr (fun x hq1 hq2 => hf x (by omega) (by omega) (by omega) (by omega) (by omega) (by omega)) hc
  · unfold hRel
    rw [e49, h3]
    refine ⟨hh.1, hh.2.1, hh.2.2.1, fun j hj hj2 => ?_⟩
    obtain ⟨hq1, hq2⟩ := hh.2.2.2 j hj hj2
    rw [eh, er]
    refine ⟨cRel_fr (fun x hq3 hq4 => ?_) hq1, hq2⟩
    unfold rAt at hq3 hq4
    exact hf x (by omega) (by omega) (by omega) (by omega) (by omega) (by omega)
  · intro i hi
    rw [e132, e180, el]
    obtain ⟨hq1, hq2, hq3⟩ := hl i hi
    exact ⟨hq1, hq2, fun z => ⟨cRel_fr (fun x hq4 hq5 => hf x (by omega) (by omega) (by omega) (by omega) (by omega) (by omega)) (hq3 z).1, (hq3 z).2⟩⟩
section OPW
variable {E : ME} {μ : MU}
theorem op65 (hI : INV μ) : OPS E 65 [none] 128 [none] μ := by
  have h7 := hI.2.2.2.2.2.1
  unfold OPS
  simp (disch := first | omega | exact rfl) only [x65_0, x65_1, x65_4, x65_7, x65_8, x65_9, x65_12, x65_13, x65_16, x65_17, isF, isK, isH, mK, nl_i, nl_n, nl_o, nl_r, c1_i, c1_r, mPush, mRv, G0_1, true_and, and_true, and_self, implies_true, List.length_nil, List.length_cons, Nat.reduceAdd, Nat.reduceLeDiff, Nat.zero_le, beq_self_eq_true, Nat.reduceBEq, decide_true, Bool.and_self, reduceCtorEq, ne_eq, not_true_eq_false, not_false_eq_true, false_implies, true_implies, Nat.reduceLT, Nat.reduceEqDiff, or_true, true_or, or_false, false_or, or_self, Int.reduceEq, Int.reduceNe, Int.reduceLT, Int.reduceLE, Int.reduceAdd, Int.reduceSub, Int.reduceMul, Int.reduceNeg, Int.reduceToNat, if_true, if_false, Classical.not_not, Int.cast_ofNat_Int, kd0, rf0_0, rf0_1, rf0_2, rf0_3, rf0_4, rf0_5, rf0_6, rf0_7, rf0_8, kd128, kd129, kd130, rf128_0, rf128_1, mUp_ne, mUp_eq]
  refine ⟨_, rfl, ?_⟩
  simp (disch := first | omega | exact rfl) only [x128_0, x128_1, x128_2, x128_5, x128_6, x128_9, x128_10, x128_11, x128_12, x128_15, x128_16, isF, isK, isH, mK, nl_i, nl_n, nl_o, nl_r, c1_i, c1_r, mPush, mRv, G0_1, true_and, and_true, and_self, implies_true, List.length_nil, List.length_cons, Nat.reduceAdd, Nat.reduceLeDiff, Nat.zero_le, beq_self_eq_true, Nat.reduceBEq, decide_true, Bool.and_self, reduceCtorEq, ne_eq, not_true_eq_false, not_false_eq_true, false_implies, true_implies, Nat.reduceLT, Nat.reduceEqDiff, or_true, true_or, or_false, false_or, or_self, Int.reduceEq, Int.reduceNe, Int.reduceLT, Int.reduceLE, Int.reduceAdd, Int.reduceSub, Int.reduceMul, Int.reduceNeg, Int.reduceToNat, if_true, if_false, Classical.not_not, Int.cast_ofNat_Int, kd176, kd177, kd178, kd179, kd180, kd181, kd182, kd183, kd184, kd185, kd186, kd187, kd188, kd189, kd190, kd191, kd192, kd193, kd194, rf176_1, rf176_2, rf176_4, rf176_5, rf176_6, rf176_8, rf176_9, rf176_10, rf176_11, rf176_12, rf176_13, rf176_14, rf176_16, rf176_17, rf176_18, rf176_19, rf176_20, rf176_23, mUp_ne, mUp_nj, mUp_eq, h7]
  refine INV_pad hI ?_ ?_ ?_
  · intro x hq1 hq2 hq3 hq4 hq5 hq6
    simp (disch := omega) only [mUp_ne]
  · simp (disch := omega) only [mUp_ne, mUp_nj]
  · refine ⟨?_, ?_, fun i hi hj => ?_⟩
    · simp (disch := omega) only [mUp_ne, mUp_nj, mUp_eq]; omega
    · simp (disch := omega) only [mUp_ne, mUp_nj, mUp_eq]
    · simp (disch := omega) only [mUp_ne, mUp_nj, mUp_eq] at hj
      omega
end OPW
