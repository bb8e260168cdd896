section CHG2
variable {E : ME} {μ : MU} {Q : Option MV → MG → MU → Prop} {c : Nat} {s : Row}
/-- changeWay -/
theorem ct8 (hc : c ∈ gCs) (hs : cRel μ c s) {a b m : Int} (hq : ∀ μ', frC c μ μ' → cRel μ' c (if rWay a b m = 0 then lWay s a b m else s) → Q (some (.inl (if rWay a b m = 0 then s (7 + (4 * a.toNat + b.toNat)) else rWay a b m))) G0 μ') : Wp E 8 0 [some (.inr (.inr (.inl c))), some (.inl a), some (.inl b), some (.inl m), none] [] G0 μ Q := by
  obtain ⟨qc0, qc1, qc2, qc3, qc4, qc5, qc6, qc7, qc8, qc9, qc10, qc11, qc12, qc13, qc14, qc15, qc16, qc17, qc18, qc19, qc20⟩ := gC_ok c hc
  have hno : ∀ v : Int, ¬ v = 0 → rWay a b m = v → Q (some (.inl v)) G0 μ := by
    intro v hv hr
    rw [hr, if_neg hv, if_neg hv] at hq
    exact hq μ (fun _ _ => rfl) hs
  by_cases p1 : 0 ≤ a ∧ a ≤ 3
  · by_cases p2 : 0 ≤ b ∧ b ≤ 3
    · by_cases p3 : a = b
      · subst p3
        simp (disch := first | omega | exact rfl) only [x8_0, x8_1, x8_4, x8_7, x8_8, x8_11, x8_14, x8_15, x8_16, x8_17, x8_18, x8_21, x8_22, x8_23, x8_25, x8_28, x8_31, x8_33, x8_34, x8_35, x8_36, x8_37, x8_40, x8_42, x8_43, x8_46, x8_47, x8_48, x8_49, x8_50, x8_51, x8_52, x8_53, x8_54, x8_57, x8_58, x8_59, x8_60, x8_61, x8_62, x8_63, x8_64, x8_66, isF, isK, isH, mK, nl_i, nl_n, nl_o, nl_r, c1_i, c1_r, mPush, mRv, G0_1, true_and, and_true, and_self, implies_true, List.length_nil, List.length_cons, Nat.reduceAdd, Nat.reduceLeDiff, Nat.zero_le, beq_self_eq_true, Nat.reduceBEq, decide_true, Bool.and_self, reduceCtorEq, ne_eq, not_true_eq_false, not_false_eq_true, false_implies, true_implies, Nat.reduceLT, Nat.reduceEqDiff, or_true, true_or, or_false, false_or, or_self, Int.reduceEq, Int.reduceNe, Int.reduceLT, Int.reduceLE, Int.reduceAdd, Int.reduceSub, Int.reduceMul, Int.reduceNeg, Int.reduceToNat, if_true, if_false, Classical.not_not, Int.cast_ofNat_Int, qc0, qc1, qc2, qc3, qc4, qc5, qc6, qc7, qc8, qc9, qc10, qc11, qc12, qc13, qc14, qc15, qc16, qc17, qc18, qc19, qc20, ct75, p1, p2]
        exact hno _ (by omega) (by unfold rWay; omega)
      · by_cases p4 : 1 ≤ m ∧ m ≤ 99
        · have hr : rWay a b m = 0 := by unfold rWay; omega
          rw [hr, if_pos rfl, if_pos rfl] at hq
          simp (disch := first | omega | exact rfl) only [x8_0, x8_1, x8_4, x8_7, x8_8, x8_11, x8_14, x8_15, x8_16, x8_17, x8_18, x8_21, x8_22, x8_23, x8_25, x8_28, x8_31, x8_33, x8_34, x8_35, x8_36, x8_37, x8_40, x8_42, x8_43, x8_46, x8_47, x8_48, x8_49, x8_50, x8_51, x8_52, x8_53, x8_54, x8_57, x8_58, x8_59, x8_60, x8_61, x8_62, x8_63, x8_64, x8_66, isF, isK, isH, mK, nl_i, nl_n, nl_o, nl_r, c1_i, c1_r, mPush, mRv, G0_1, true_and, and_true, and_self, implies_true, List.length_nil, List.length_cons, Nat.reduceAdd, Nat.reduceLeDiff, Nat.zero_le, beq_self_eq_true, Nat.reduceBEq, decide_true, Bool.and_self, reduceCtorEq, ne_eq, not_true_eq_false, not_false_eq_true, false_implies, true_implies, Nat.reduceLT, Nat.reduceEqDiff, or_true, true_or, or_false, false_or, or_self, Int.reduceEq, Int.reduceNe, Int.reduceLT, Int.reduceLE, Int.reduceAdd, Int.reduceSub, Int.reduceMul, Int.reduceNeg, Int.reduceToNat, if_true, if_false, Classical.not_not, Int.cast_ofNat_Int, qc0, qc1, qc2, qc3, qc4, qc5, qc6, qc7, qc8, qc9, qc10, qc11, qc12, qc13, qc14, qc15, qc16, qc17, qc18, qc19, qc20, ct75, ct74, ct5 hc hs p1 p2, p1, p2, p3, p4, mWr_of]
          repeat (refine And.intro (by omega) ?_)
          apply hq
          · intro x hx
            simp (disch := omega) only [mUp_ne]
          · obtain ⟨b1, b2, b3, b4, b5, b6, b7⟩ := hs
            refine ⟨fun i hi => ?_, ?_, ?_, fun i hi => ?_, fun f' hf1 hf2 => ?_, fun f' r' hf1 hf2 => ?_, fun k' hk1 hk2 => ?_⟩
            · have q := b1 i hi; simp (disch := omega) only [mUp_ne, lWay]; omega
            · simp (disch := omega) only [mUp_ne, lWay]; omega
            · simp (disch := omega) only [mUp_ne, lWay]; omega
            · have q := b4 i hi; simp (disch := omega) only [mUp_at, lWay]; omega
            · have q := b5 f' hf1; simp (disch := omega) only [mUp_ne, lWay] at *; omega
            · have q := b6 f' r' hf1 hf2; simp (disch := omega) only [mUp_ne, lWay] at *; omega
            · have q := b7 k' hk1; simp (disch := omega) only [mUp_ne, lWay] at *; omega
        · simp (disch := first | omega | exact rfl) only [x8_0, x8_1, x8_4, x8_7, x8_8, x8_11, x8_14, x8_15, x8_16, x8_17, x8_18, x8_21, x8_22, x8_23, x8_25, x8_28, x8_31, x8_33, x8_34, x8_35, x8_36, x8_37, x8_40, x8_42, x8_43, x8_46, x8_47, x8_48, x8_49, x8_50, x8_51, x8_52, x8_53, x8_54, x8_57, x8_58, x8_59, x8_60, x8_61, x8_62, x8_63, x8_64, x8_66, isF, isK, isH, mK, nl_i, nl_n, nl_o, nl_r, c1_i, c1_r, mPush, mRv, G0_1, true_and, and_true, and_self, implies_true, List.length_nil, List.length_cons, Nat.reduceAdd, Nat.reduceLeDiff, Nat.zero_le, beq_self_eq_true, Nat.reduceBEq, decide_true, Bool.and_self, reduceCtorEq, ne_eq, not_true_eq_false, not_false_eq_true, false_implies, true_implies, Nat.reduceLT, Nat.reduceEqDiff, or_true, true_or, or_false, false_or, or_self, Int.reduceEq, Int.reduceNe, Int.reduceLT, Int.reduceLE, Int.reduceAdd, Int.reduceSub, Int.reduceMul, Int.reduceNeg, Int.reduceToNat, if_true, if_false, Classical.not_not, Int.cast_ofNat_Int, qc0, qc1, qc2, qc3, qc4, qc5, qc6, qc7, qc8, qc9, qc10, qc11, qc12, qc13, qc14, qc15, qc16, qc17, qc18, qc19, qc20, ct75, ct74, p1, p2, p3, p4]
          exact hno _ (by omega) (by unfold rWay; omega)
    · simp (disch := first | omega | exact rfl) only [x8_0, x8_1, x8_4, x8_7, x8_8, x8_11, x8_14, x8_15, x8_16, x8_17, x8_18, x8_21, x8_22, x8_23, x8_25, x8_28, x8_31, x8_33, x8_34, x8_35, x8_36, x8_37, x8_40, x8_42, x8_43, x8_46, x8_47, x8_48, x8_49, x8_50, x8_51, x8_52, x8_53, x8_54, x8_57, x8_58, x8_59, x8_60, x8_61, x8_62, x8_63, x8_64, x8_66, isF, isK, isH, mK, nl_i, nl_n, nl_o, nl_r, c1_i, c1_r, mPush, mRv, G0_1, true_and, and_true, and_self, implies_true, List.length_nil, List.length_cons, Nat.reduceAdd, Nat.reduceLeDiff, Nat.zero_le, beq_self_eq_true, Nat.reduceBEq, decide_true, Bool.and_self, reduceCtorEq, ne_eq, not_true_eq_false, not_false_eq_true, false_implies, true_implies, Nat.reduceLT, Nat.reduceEqDiff, or_true, true_or, or_false, false_or, or_self, Int.reduceEq, Int.reduceNe, Int.reduceLT, Int.reduceLE, Int.reduceAdd, Int.reduceSub, Int.reduceMul, Int.reduceNeg, Int.reduceToNat, if_true, if_false, Classical.not_not, Int.cast_ofNat_Int, qc0, qc1, qc2, qc3, qc4, qc5, qc6, qc7, qc8, qc9, qc10, qc11, qc12, qc13, qc14, qc15, qc16, qc17, qc18, qc19, qc20, ct75, p1, p2]
      exact hno _ (by omega) (by unfold rWay; omega)
  · simp (disch := first | omega | exact rfl) only [x8_0, x8_1, x8_4, x8_7, x8_8, x8_11, x8_14, x8_15, x8_16, x8_17, x8_18, x8_21, x8_22, x8_23, x8_25, x8_28, x8_31, x8_33, x8_34, x8_35, x8_36, x8_37, x8_40, x8_42, x8_43, x8_46, x8_47, x8_48, x8_49, x8_50, x8_51, x8_52, x8_53, x8_54, x8_57, x8_58, x8_59, x8_60, x8_61, x8_62, x8_63, x8_64, x8_66, isF, isK, isH, mK, nl_i, nl_n, nl_o, nl_r, c1_i, c1_r, mPush, mRv, G0_1, true_and, and_true, and_self, implies_true, List.length_nil, List.length_cons, Nat.reduceAdd, Nat.reduceLeDiff, Nat.zero_le, beq_self_eq_true, Nat.reduceBEq, decide_true, Bool.and_self, reduceCtorEq, ne_eq, not_true_eq_false, not_false_eq_true, false_implies, true_implies, Nat.reduceLT, Nat.reduceEqDiff, or_true, true_or, or_false, false_or, or_self, Int.reduceEq, Int.reduceNe, Int.reduceLT, Int.reduceLE, Int.reduceAdd, Int.reduceSub, Int.reduceMul, Int.reduceNeg, Int.reduceToNat, if_true, if_false, Classical.not_not, Int.cast_ofNat_Int, qc0, qc1, qc2, qc3, qc4, qc5, qc6, qc7, qc8, qc9, qc10, qc11, qc12, qc13, qc14, qc15, qc16, qc17, qc18, qc19, qc20, ct75, p1]
    exact hno _ (by omega) (by unfold rWay; omega)
/-- addShow -/
theorem ct10 (hc : c ∈ gCs) (hw : wf s) (hs : cRel μ c s) {f h m t : Int} (hq : ∀ μ', frC c μ μ' → cRel μ' c (if rShow s f h m t = 0 then lShow s f h m t else s) → Q (some (.inl (if rShow s f h m t = 0 then s 6 else rShow s f h m t))) G0 μ') : Wp E 10 0 [some (.inr (.inr (.inl c))), some (.inl f), some (.inl h), some (.inl m), some (.inl t)] [] G0 μ Q := by
  obtain ⟨qc0, qc1, qc2, qc3, qc4, qc5, qc6, qc7, qc8, qc9, qc10, qc11, qc12, qc13, qc14, qc15, qc16, qc17, qc18, qc19, qc20⟩ := gC_ok c hc
  have w6 := hw.1.2.2.2.2.2.2
  have e1 := hs.2.2.1
  have hno : ∀ v : Int, ¬ v = 0 → rShow s f h m t = v → Q (some (.inl v)) G0 μ := by
    intro v hv hr
    rw [hr, if_neg hv, if_neg hv] at hq
    exact hq μ (fun _ _ => rfl) hs
  by_cases p1 : 0 ≤ f ∧ f < s 5
  · by_cases p2 : 0 ≤ h ∧ h ≤ 3
    · by_cases p3 : 0 ≤ m ∧ m ≤ 1439
      · by_cases p4 : 0 ≤ t ∧ t ≤ 999
        · by_cases p5 : s 6 < 20
          · have hr : rShow s f h m t = 0 := by unfold rShow; omega
            rw [hr, if_pos rfl, if_pos rfl] at hq
            have p6 : ¬ (20 : Int) ≤ s 6 := by omega
            have p7 : 0 ≤ s 6 := by omega
            simp (disch := first | omega | exact rfl) only [x10_0, x10_1, x10_2, x10_5, x10_8, x10_9, x10_12, x10_15, x10_16, x10_17, x10_18, x10_19, x10_22, x10_25, x10_28, x10_30, x10_31, x10_34, x10_37, x10_40, x10_42, x10_43, x10_44, x10_47, x10_49, x10_52, x10_54, x10_55, x10_56, x10_59, x10_60, x10_63, x10_64, x10_65, x10_66, x10_69, x10_70, x10_73, x10_74, x10_75, x10_76, x10_79, x10_80, x10_83, x10_84, x10_85, x10_86, x10_89, x10_90, x10_93, x10_95, x10_96, x10_97, x10_98, x10_101, x10_102, x10_103, x10_106, x10_107, x10_110, x10_111, x10_112, isF, isK, isH, mK, nl_i, nl_n, nl_o, nl_r, c1_i, c1_r, mPush, mRv, G0_1, true_and, and_true, and_self, implies_true, List.length_nil, List.length_cons, Nat.reduceAdd, Nat.reduceLeDiff, Nat.zero_le, beq_self_eq_true, Nat.reduceBEq, decide_true, Bool.and_self, reduceCtorEq, ne_eq, not_true_eq_false, not_false_eq_true, false_implies, true_implies, Nat.reduceLT, Nat.reduceEqDiff, or_true, true_or, or_false, false_or, or_self, Int.reduceEq, Int.reduceNe, Int.reduceLT, Int.reduceLE, Int.reduceAdd, Int.reduceSub, Int.reduceMul, Int.reduceNeg, Int.reduceToNat, if_true, if_false, Classical.not_not, Int.cast_ofNat_Int, qc0, qc1, qc2, qc3, qc4, qc5, qc6, qc7, qc8, qc9, qc10, qc11, qc12, qc13, qc14, qc15, qc16, qc17, qc18, qc19, qc20, ct2 hc hw hs, ct74, ct75, p1, p2, p3, p4, p5, p6, p7, e1, mUp_ne, mUp_eq, mWr_of, Int.add_sub_cancel]
            repeat (refine And.intro (by omega) ?_)
            apply hq
            · intro x hx
              simp (disch := omega) only [mUp_ne]
            · obtain ⟨b1, b2, b3, b4, b5, b6, b7⟩ := hs
              refine ⟨fun i hi => ?_, ?_, ?_, fun i hi => ?_, fun f' hf1 hf2 => ?_, fun f' r' hf1 hf2 => ?_, fun k' hk1 hk2 => ?_⟩
              · have q := b1 i hi; simp (disch := omega) only [mUp_ne, mUp_nj, mUp_at, lShow] at *; omega
              · simp (disch := omega) only [mUp_ne, mUp_nj, mUp_at, lShow]; omega
              · simp (disch := omega) only [mUp_ne, mUp_nj, mUp_eq, lShow, if_true]
              · have q := b4 i hi; simp (disch := omega) only [mUp_ne, mUp_nj, mUp_at, lShow] at *; omega
              · have q := b5 f' hf1; simp (disch := omega) only [mUp_ne, mUp_nj, mUp_at, lShow] at *; omega
              · have q := b6 f' r' hf1 hf2; simp (disch := omega) only [mUp_ne, mUp_nj, mUp_at, lShow] at *; omega
              · have q := b7 k' hk1; simp (disch := omega) only [mUp_ne, mUp_nj, mUp_at, lShow] at *; omega
          · have p6 : (20 : Int) ≤ s 6 := by omega
            simp (disch := first | omega | exact rfl) only [x10_0, x10_1, x10_2, x10_5, x10_8, x10_9, x10_12, x10_15, x10_16, x10_17, x10_18, x10_19, x10_22, x10_25, x10_28, x10_30, x10_31, x10_34, x10_37, x10_40, x10_42, x10_43, x10_44, x10_47, x10_49, x10_52, x10_54, x10_55, x10_56, x10_59, x10_60, x10_63, x10_64, x10_65, x10_66, x10_69, x10_70, x10_73, x10_74, x10_75, x10_76, x10_79, x10_80, x10_83, x10_84, x10_85, x10_86, x10_89, x10_90, x10_93, x10_95, x10_96, x10_97, x10_98, x10_101, x10_102, x10_103, x10_106, x10_107, x10_110, x10_111, x10_112, isF, isK, isH, mK, nl_i, nl_n, nl_o, nl_r, c1_i, c1_r, mPush, mRv, G0_1, true_and, and_true, and_self, implies_true, List.length_nil, List.length_cons, Nat.reduceAdd, Nat.reduceLeDiff, Nat.zero_le, beq_self_eq_true, Nat.reduceBEq, decide_true, Bool.and_self, reduceCtorEq, ne_eq, not_true_eq_false, not_false_eq_true, false_implies, true_implies, Nat.reduceLT, Nat.reduceEqDiff, or_true, true_or, or_false, false_or, or_self, Int.reduceEq, Int.reduceNe, Int.reduceLT, Int.reduceLE, Int.reduceAdd, Int.reduceSub, Int.reduceMul, Int.reduceNeg, Int.reduceToNat, if_true, if_false, Classical.not_not, Int.cast_ofNat_Int, qc0, qc1, qc2, qc3, qc4, qc5, qc6, qc7, qc8, qc9, qc10, qc11, qc12, qc13, qc14, qc15, qc16, qc17, qc18, qc19, qc20, ct2 hc hw hs, ct74, ct75, p1, p2, p3, p4, p5, p6, e1]
            exact hno _ (by omega) (by unfold rShow; omega)
        · simp (disch := first | omega | exact rfl) only [x10_0, x10_1, x10_2, x10_5, x10_8, x10_9, x10_12, x10_15, x10_16, x10_17, x10_18, x10_19, x10_22, x10_25, x10_28, x10_30, x10_31, x10_34, x10_37, x10_40, x10_42, x10_43, x10_44, x10_47, x10_49, x10_52, x10_54, x10_55, x10_56, x10_59, x10_60, x10_63, x10_64, x10_65, x10_66, x10_69, x10_70, x10_73, x10_74, x10_75, x10_76, x10_79, x10_80, x10_83, x10_84, x10_85, x10_86, x10_89, x10_90, x10_93, x10_95, x10_96, x10_97, x10_98, x10_101, x10_102, x10_103, x10_106, x10_107, x10_110, x10_111, x10_112, isF, isK, isH, mK, nl_i, nl_n, nl_o, nl_r, c1_i, c1_r, mPush, mRv, G0_1, true_and, and_true, and_self, implies_true, List.length_nil, List.length_cons, Nat.reduceAdd, Nat.reduceLeDiff, Nat.zero_le, beq_self_eq_true, Nat.reduceBEq, decide_true, Bool.and_self, reduceCtorEq, ne_eq, not_true_eq_false, not_false_eq_true, false_implies, true_implies, Nat.reduceLT, Nat.reduceEqDiff, or_true, true_or, or_false, false_or, or_self, Int.reduceEq, Int.reduceNe, Int.reduceLT, Int.reduceLE, Int.reduceAdd, Int.reduceSub, Int.reduceMul, Int.reduceNeg, Int.reduceToNat, if_true, if_false, Classical.not_not, Int.cast_ofNat_Int, qc0, qc1, qc2, qc3, qc4, qc5, qc6, qc7, qc8, qc9, qc10, qc11, qc12, qc13, qc14, qc15, qc16, qc17, qc18, qc19, qc20, ct2 hc hw hs, ct74, ct75, p1, p2, p3, p4]
          exact hno _ (by omega) (by unfold rShow; omega)
      · simp (disch := first | omega | exact rfl) only [x10_0, x10_1, x10_2, x10_5, x10_8, x10_9, x10_12, x10_15, x10_16, x10_17, x10_18, x10_19, x10_22, x10_25, x10_28, x10_30, x10_31, x10_34, x10_37, x10_40, x10_42, x10_43, x10_44, x10_47, x10_49, x10_52, x10_54, x10_55, x10_56, x10_59, x10_60, x10_63, x10_64, x10_65, x10_66, x10_69, x10_70, x10_73, x10_74, x10_75, x10_76, x10_79, x10_80, x10_83, x10_84, x10_85, x10_86, x10_89, x10_90, x10_93, x10_95, x10_96, x10_97, x10_98, x10_101, x10_102, x10_103, x10_106, x10_107, x10_110, x10_111, x10_112, isF, isK, isH, mK, nl_i, nl_n, nl_o, nl_r, c1_i, c1_r, mPush, mRv, G0_1, true_and, and_true, and_self, implies_true, List.length_nil, List.length_cons, Nat.reduceAdd, Nat.reduceLeDiff, Nat.zero_le, beq_self_eq_true, Nat.reduceBEq, decide_true, Bool.and_self, reduceCtorEq, ne_eq, not_true_eq_false, not_false_eq_true, false_implies, true_implies, Nat.reduceLT, Nat.reduceEqDiff, or_true, true_or, or_false, false_or, or_self, Int.reduceEq, Int.reduceNe, Int.reduceLT, Int.reduceLE, Int.reduceAdd, Int.reduceSub, Int.reduceMul, Int.reduceNeg, Int.reduceToNat, if_true, if_false, Classical.not_not, Int.cast_ofNat_Int, qc0, qc1, qc2, qc3, qc4, qc5, qc6, qc7, qc8, qc9, qc10, qc11, qc12, qc13, qc14, qc15, qc16, qc17, qc18, qc19, qc20, ct2 hc hw hs, ct74, ct75, p1, p2, p3]
        exact hno _ (by omega) (by unfold rShow; omega)
    · simp (disch := first | omega | exact rfl) only [x10_0, x10_1, x10_2, x10_5, x10_8, x10_9, x10_12, x10_15, x10_16, x10_17, x10_18, x10_19, x10_22, x10_25, x10_28, x10_30, x10_31, x10_34, x10_37, x10_40, x10_42, x10_43, x10_44, x10_47, x10_49, x10_52, x10_54, x10_55, x10_56, x10_59, x10_60, x10_63, x10_64, x10_65, x10_66, x10_69, x10_70, x10_73, x10_74, x10_75, x10_76, x10_79, x10_80, x10_83, x10_84, x10_85, x10_86, x10_89, x10_90, x10_93, x10_95, x10_96, x10_97, x10_98, x10_101, x10_102, x10_103, x10_106, x10_107, x10_110, x10_111, x10_112, isF, isK, isH, mK, nl_i, nl_n, nl_o, nl_r, c1_i, c1_r, mPush, mRv, G0_1, true_and, and_true, and_self, implies_true, List.length_nil, List.length_cons, Nat.reduceAdd, Nat.reduceLeDiff, Nat.zero_le, beq_self_eq_true, Nat.reduceBEq, decide_true, Bool.and_self, reduceCtorEq, ne_eq, not_true_eq_false, not_false_eq_true, false_implies, true_implies, Nat.reduceLT, Nat.reduceEqDiff, or_true, true_or, or_false, false_or, or_self, Int.reduceEq, Int.reduceNe, Int.reduceLT, Int.reduceLE, Int.reduceAdd, Int.reduceSub, Int.reduceMul, Int.reduceNeg, Int.reduceToNat, if_true, if_false, Classical.not_not, Int.cast_ofNat_Int, qc0, qc1, qc2, qc3, qc4, qc5, qc6, qc7, qc8, qc9, qc10, qc11, qc12, qc13, qc14, qc15, qc16, qc17, qc18, qc19, qc20, ct2 hc hw hs, ct75, p1, p2]
      exact hno _ (by omega) (by unfold rShow; omega)
  · simp (disch := first | omega | exact rfl) only [x10_0, x10_1, x10_2, x10_5, x10_8, x10_9, x10_12, x10_15, x10_16, x10_17, x10_18, x10_19, x10_22, x10_25, x10_28, x10_30, x10_31, x10_34, x10_37, x10_40, x10_42, x10_43, x10_44, x10_47, x10_49, x10_52, x10_54, x10_55, x10_56, x10_59, x10_60, x10_63, x10_64, x10_65, x10_66, x10_69, x10_70, x10_73, x10_74, x10_75, x10_76, x10_79, x10_80, x10_83, x10_84, x10_85, x10_86, x10_89, x10_90, x10_93, x10_95, x10_96, x10_97, x10_98, x10_101, x10_102, x10_103, x10_106, x10_107, x10_110, x10_111, x10_112, isF, isK, isH, mK, nl_i, nl_n, nl_o, nl_r, c1_i, c1_r, mPush, mRv, G0_1, true_and, and_true, and_self, implies_true, List.length_nil, List.length_cons, Nat.reduceAdd, Nat.reduceLeDiff, Nat.zero_le, beq_self_eq_true, Nat.reduceBEq, decide_true, Bool.and_self, reduceCtorEq, ne_eq, not_true_eq_false, not_false_eq_true, false_implies, true_implies, Nat.reduceLT, Nat.reduceEqDiff, or_true, true_or, or_false, false_or, or_self, Int.reduceEq, Int.reduceNe, Int.reduceLT, Int.reduceLE, Int.reduceAdd, Int.reduceSub, Int.reduceMul, Int.reduceNeg, Int.reduceToNat, if_true, if_false, Classical.not_not, Int.cast_ofNat_Int, qc0, qc1, qc2, qc3, qc4, qc5, qc6, qc7, qc8, qc9, qc10, qc11, qc12, qc13, qc14, qc15, qc16, qc17, qc18, qc19, qc20, ct2 hc hw hs, p1]
    exact hno _ (by omega) (by unfold rShow; omega)
end CHG2
section CHG3
variable {E : ME} {μ : MU} {Q : Option MV → MG → MU → Prop} {c : Nat} {s : Row}
theorem lTear_rel {i : Nat} {f r v w : Int} (hs : cRel μ c s) (hr : isR s f r) (h5 : s 5 ≤ 5) (h6 : s (23 + 9 * f.toNat) ≤ 6) (hi : i = (6 * f.toNat + r.toNat)) (hv : v = if w = 0 then -6 else w - 1) : cRel (mUp μ (c + 6) i v) c (lTear s f r w) := by
  obtain ⟨b1, b2, b3, b4, b5, b6, b7⟩ := hs
  obtain ⟨⟨r1, r2⟩, r3, r4⟩ := hr
  refine ⟨fun i hi => ?_, ?_, ?_, fun i hi => ?_, fun f' hf1 hf2 => ?_, fun f' r' hf1 hf2 => ?_, fun k' hk1 hk2 => ?_⟩
  · have q := b1 i hi; simp (disch := omega) only [mUp_ne, lTear, up_ne]; omega
  · simp (disch := omega) only [mUp_ne, lTear, up_ne]; omega
  · simp (disch := omega) only [mUp_ne, lTear, up_ne]; omega
  · have q := b4 i hi; simp (disch := omega) only [mUp_ne, lTear, up_ne]; omega
  · have q := b5 f' hf1; simp (disch := omega) only [mUp_ne, lTear, up_ne] at *; omega
  · have q := b6 f' r' hf1 hf2
    have u5 : lTear s f r w 5 = s 5 := up_ne (by omega)
    rw [u5]
    by_cases e : f' = f.toNat ∧ r' = r.toNat
    · obtain ⟨rfl, rfl⟩ := e
      have u6 : lTear s f r w (26 + 9 * f.toNat + r.toNat) = w := up_eq
      rw [u6, hi, mUp_eq, hv]; omega
    · have u6 : lTear s f r w (26 + 9 * f' + r') = s (26 + 9 * f' + r') := up_ne (by omega)
      rw [u6, mUp_nj (by omega)]; exact q
  · have q := b7 k' hk1; simp (disch := omega) only [mUp_ne, lTear, up_ne] at *; omega
/-- tearReel, glueReel -/
theorem ct12 (hc : c ∈ gCs) (hw : wf s) (hs : cRel μ c s) {f r m : Int} (hq : ∀ μ', frC c μ μ' → cRel μ' c (if rTear s f r m = 0 then lTear s f r (m + 1) else s) → Q (some (.inl (if rTear s f r m = 0 then tornOf s f r else rTear s f r m))) G0 μ') : Wp E 12 0 [some (.inr (.inr (.inl c))), some (.inl f), some (.inl r), some (.inl m), none] [] G0 μ Q := by
  obtain ⟨qc0, qc1, qc2, qc3, qc4, qc5, qc6, qc7, qc8, qc9, qc10, qc11, qc12, qc13, qc14, qc15, qc16, qc17, qc18, qc19, qc20⟩ := gC_ok c hc
  have hno : ∀ v : Int, ¬ v = 0 → rTear s f r m = v → Q (some (.inl v)) G0 μ := by
    intro v hv hr
    rw [hr, if_neg hv, if_neg hv] at hq
    exact hq μ (fun _ _ => rfl) hs
  by_cases p1 : isR s f r
  · have w5 := hw.1.2.2.2.2.2.1
    have w1 := hw.2.2.1 f.toNat (by omega) (by omega)
    have w2 := w1.1
    have e1 := hs.2.2.2.2.2.1 f.toNat r.toNat (by omega) (by omega)
    have hi : (f * 6 + r).toNat = 6 * f.toNat + r.toNat := by omega
    have p1' := p1
    by_cases p2 : 0 ≤ m ∧ m ≤ 1439
    · have hr : rTear s f r m = 0 := by unfold rTear; rw [if_neg (by simp [p1]), if_pos p2]
      rw [hr, if_pos rfl, if_pos rfl] at hq
      simp (disch := first | omega | exact rfl) only [x12_0, x12_1, x12_2, x12_3, x12_6, x12_9, x12_10, x12_11, x12_12, x12_13, x12_16, x12_19, x12_22, x12_24, x12_25, x12_26, x12_29, x12_30, x12_32, x12_33, x12_34, x12_35, x12_36, x12_38, x12_39, x12_42, x12_43, x12_45, x12_46, x12_47, x12_48, x12_49, x12_50, x12_52, isF, isK, isH, mK, nl_i, nl_n, nl_o, nl_r, c1_i, c1_r, mPush, mRv, G0_1, true_and, and_true, and_self, implies_true, List.length_nil, List.length_cons, Nat.reduceAdd, Nat.reduceLeDiff, Nat.zero_le, beq_self_eq_true, Nat.reduceBEq, decide_true, Bool.and_self, reduceCtorEq, ne_eq, not_true_eq_false, not_false_eq_true, false_implies, true_implies, Nat.reduceLT, Nat.reduceEqDiff, or_true, true_or, or_false, false_or, or_self, Int.reduceEq, Int.reduceNe, Int.reduceLT, Int.reduceLE, Int.reduceAdd, Int.reduceSub, Int.reduceMul, Int.reduceNeg, Int.reduceToNat, if_true, if_false, Classical.not_not, Int.cast_ofNat_Int, qc0, qc1, qc2, qc3, qc4, qc5, qc6, qc7, qc8, qc9, qc10, qc11, qc12, qc13, qc14, qc15, qc16, qc17, qc18, qc19, qc20, ct3 hc hw hs, ct74, if_pos p1, p2, mWr_of, hi]
      repeat (refine And.intro (by omega) ?_)
      have e2 : tornOf s f r = μ (c + 6) (6 * f.toNat + r.toNat) := by rw [e1]; unfold tornOf; omega
      rw [← e2]
      apply hq
      · intro x hx
        simp (disch := omega) only [mUp_ne]
      · exact lTear_rel hs p1 (by omega) (by omega) rfl (by omega)
    · simp (disch := first | omega | exact rfl) only [x12_0, x12_1, x12_2, x12_3, x12_6, x12_9, x12_10, x12_11, x12_12, x12_13, x12_16, x12_19, x12_22, x12_24, x12_25, x12_26, x12_29, x12_30, x12_32, x12_33, x12_34, x12_35, x12_36, x12_38, x12_39, x12_42, x12_43, x12_45, x12_46, x12_47, x12_48, x12_49, x12_50, x12_52, isF, isK, isH, mK, nl_i, nl_n, nl_o, nl_r, c1_i, c1_r, mPush, mRv, G0_1, true_and, and_true, and_self, implies_true, List.length_nil, List.length_cons, Nat.reduceAdd, Nat.reduceLeDiff, Nat.zero_le, beq_self_eq_true, Nat.reduceBEq, decide_true, Bool.and_self, reduceCtorEq, ne_eq, not_true_eq_false, not_false_eq_true, false_implies, true_implies, Nat.reduceLT, Nat.reduceEqDiff, or_true, true_or, or_false, false_or, or_self, Int.reduceEq, Int.reduceNe, Int.reduceLT, Int.reduceLE, Int.reduceAdd, Int.reduceSub, Int.reduceMul, Int.reduceNeg, Int.reduceToNat, if_true, if_false, Classical.not_not, Int.cast_ofNat_Int, qc0, qc1, qc2, qc3, qc4, qc5, qc6, qc7, qc8, qc9, qc10, qc11, qc12, qc13, qc14, qc15, qc16, qc17, qc18, qc19, qc20, ct3 hc hw hs, ct74, if_pos p1, p2]
      exact hno _ (by omega) (by unfold rTear; rw [if_neg (by simp [p1]), if_neg p2])
  · simp (disch := first | omega | exact rfl) only [x12_0, x12_1, x12_2, x12_3, x12_6, x12_9, x12_10, x12_11, x12_12, x12_13, x12_16, x12_19, x12_22, x12_24, x12_25, x12_26, x12_29, x12_30, x12_32, x12_33, x12_34, x12_35, x12_36, x12_38, x12_39, x12_42, x12_43, x12_45, x12_46, x12_47, x12_48, x12_49, x12_50, x12_52, isF, isK, isH, mK, nl_i, nl_n, nl_o, nl_r, c1_i, c1_r, mPush, mRv, G0_1, true_and, and_true, and_self, implies_true, List.length_nil, List.length_cons, Nat.reduceAdd, Nat.reduceLeDiff, Nat.zero_le, beq_self_eq_true, Nat.reduceBEq, decide_true, Bool.and_self, reduceCtorEq, ne_eq, not_true_eq_false, not_false_eq_true, false_implies, true_implies, Nat.reduceLT, Nat.reduceEqDiff, or_true, true_or, or_false, false_or, or_self, Int.reduceEq, Int.reduceNe, Int.reduceLT, Int.reduceLE, Int.reduceAdd, Int.reduceSub, Int.reduceMul, Int.reduceNeg, Int.reduceToNat, if_true, if_false, Classical.not_not, Int.cast_ofNat_Int, qc0, qc1, qc2, qc3, qc4, qc5, qc6, qc7, qc8, qc9, qc10, qc11, qc12, qc13, qc14, qc15, qc16, qc17, qc18, qc19, qc20, ct3 hc hw hs, if_neg p1]
    exact hno _ (by omega) (by unfold rTear; rw [if_pos p1])
theorem ct13 (hc : c ∈ gCs) (hw : wf s) (hs : cRel μ c s) {f r : Int} (hq : ∀ μ', frC c μ μ' → cRel μ' c (if isR s f r ∧ ¬ tornOf s f r = -6 then lTear s f r 0 else s) → Q (some (.inl (if ¬ isR s f r then -1 else if tornOf s f r = -6 then -5 else tornOf s f r))) G0 μ') : Wp E 13 0 [some (.inr (.inr (.inl c))), some (.inl f), some (.inl r), none] [] G0 μ Q := by
  obtain ⟨qc0, qc1, qc2, qc3, qc4, qc5, qc6, qc7, qc8, qc9, qc10, qc11, qc12, qc13, qc14, qc15, qc16, qc17, qc18, qc19, qc20⟩ := gC_ok c hc
  by_cases p1 : isR s f r
  · have w5 := hw.1.2.2.2.2.2.1
    have w1 := hw.2.2.1 f.toNat (by omega) (by omega)
    have w2 := w1.1
    have e1 := hs.2.2.2.2.2.1 f.toNat r.toNat (by omega) (by omega)
    have hi : (f * 6 + r).toNat = 6 * f.toNat + r.toNat := by omega
    have e2 : μ (c + 6) (6 * f.toNat + r.toNat) = tornOf s f r := by rw [e1]; unfold tornOf; omega
    by_cases p2 : tornOf s f r = -6
    · rw [if_neg (fun z => z.2 p2), if_neg (fun z => z p1), if_pos p2] at hq
      simp (disch := first | omega | exact rfl) only [x13_0, x13_1, x13_2, x13_3, x13_6, x13_9, x13_10, x13_11, x13_12, x13_15, x13_16, x13_18, x13_19, x13_20, x13_21, x13_22, x13_23, x13_24, x13_26, x13_29, x13_31, x13_32, x13_33, x13_36, x13_37, x13_39, x13_40, x13_41, x13_42, x13_44, x13_45, x13_46, isF, isK, isH, mK, nl_i, nl_n, nl_o, nl_r, c1_i, c1_r, mPush, mRv, G0_1, true_and, and_true, and_self, implies_true, List.length_nil, List.length_cons, Nat.reduceAdd, Nat.reduceLeDiff, Nat.zero_le, beq_self_eq_true, Nat.reduceBEq, decide_true, Bool.and_self, reduceCtorEq, ne_eq, not_true_eq_false, not_false_eq_true, false_implies, true_implies, Nat.reduceLT, Nat.reduceEqDiff, or_true, true_or, or_false, false_or, or_self, Int.reduceEq, Int.reduceNe, Int.reduceLT, Int.reduceLE, Int.reduceAdd, Int.reduceSub, Int.reduceMul, Int.reduceNeg, Int.reduceToNat, if_true, if_false, Classical.not_not, Int.cast_ofNat_Int, qc0, qc1, qc2, qc3, qc4, qc5, qc6, qc7, qc8, qc9, qc10, qc11, qc12, qc13, qc14, qc15, qc16, qc17, qc18, qc19, qc20, ct3 hc hw hs, if_pos p1, mWr_of, hi, e2, p2]
      repeat (refine And.intro (by omega) ?_)
      exact hq μ (fun _ _ => rfl) hs
    · rw [if_pos ⟨p1, p2⟩, if_neg (fun z => z p1), if_neg p2] at hq
      simp (disch := first | omega | exact rfl) only [x13_0, x13_1, x13_2, x13_3, x13_6, x13_9, x13_10, x13_11, x13_12, x13_15, x13_16, x13_18, x13_19, x13_20, x13_21, x13_22, x13_23, x13_24, x13_26, x13_29, x13_31, x13_32, x13_33, x13_36, x13_37, x13_39, x13_40, x13_41, x13_42, x13_44, x13_45, x13_46, isF, isK, isH, mK, nl_i, nl_n, nl_o, nl_r, c1_i, c1_r, mPush, mRv, G0_1, true_and, and_true, and_self, implies_true, List.length_nil, List.length_cons, Nat.reduceAdd, Nat.reduceLeDiff, Nat.zero_le, beq_self_eq_true, Nat.reduceBEq, decide_true, Bool.and_self, reduceCtorEq, ne_eq, not_true_eq_false, not_false_eq_true, false_implies, true_implies, Nat.reduceLT, Nat.reduceEqDiff, or_true, true_or, or_false, false_or, or_self, Int.reduceEq, Int.reduceNe, Int.reduceLT, Int.reduceLE, Int.reduceAdd, Int.reduceSub, Int.reduceMul, Int.reduceNeg, Int.reduceToNat, if_true, if_false, Classical.not_not, Int.cast_ofNat_Int, qc0, qc1, qc2, qc3, qc4, qc5, qc6, qc7, qc8, qc9, qc10, qc11, qc12, qc13, qc14, qc15, qc16, qc17, qc18, qc19, qc20, ct3 hc hw hs, if_pos p1, mWr_of, hi, e2, p2]
      repeat (refine And.intro (by omega) ?_)
      apply hq
      · intro x hx
        simp (disch := omega) only [mUp_ne]
      · exact lTear_rel hs p1 (by omega) (by omega) rfl (by omega)
  · rw [if_neg (fun z => p1 z.1), if_pos p1] at hq
    simp (disch := first | omega | exact rfl) only [x13_0, x13_1, x13_2, x13_3, x13_6, x13_9, x13_10, x13_11, x13_12, x13_15, x13_16, x13_18, x13_19, x13_20, x13_21, x13_22, x13_23, x13_24, x13_26, x13_29, x13_31, x13_32, x13_33, x13_36, x13_37, x13_39, x13_40, x13_41, x13_42, x13_44, x13_45, x13_46, isF, isK, isH, mK, nl_i, nl_n, nl_o, nl_r, c1_i, c1_r, mPush, mRv, G0_1, true_and, and_true, and_self, implies_true, List.length_nil, List.length_cons, Nat.reduceAdd, Nat.reduceLeDiff, Nat.zero_le, beq_self_eq_true, Nat.reduceBEq, decide_true, Bool.and_self, reduceCtorEq, ne_eq, not_true_eq_false, not_false_eq_true, false_implies, true_implies, Nat.reduceLT, Nat.reduceEqDiff, or_true, true_or, or_false, false_or, or_self, Int.reduceEq, Int.reduceNe, Int.reduceLT, Int.reduceLE, Int.reduceAdd, Int.reduceSub, Int.reduceMul, Int.reduceNeg, Int.reduceToNat, if_true, if_false, Classical.not_not, Int.cast_ofNat_Int, qc0, qc1, qc2, qc3, qc4, qc5, qc6, qc7, qc8, qc9, qc10, qc11, qc12, qc13, qc14, qc15, qc16, qc17, qc18, qc19, qc20, ct3 hc hw hs, if_neg p1]
    exact hq μ (fun _ _ => rfl) hs
end CHG3
