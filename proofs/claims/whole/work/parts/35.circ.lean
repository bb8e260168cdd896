/-! THE CIRCUIT'S CHANGES -/
section CHG
variable {E : ME} {μ : MU} {Q : Option MV → MG → MU → Prop} {c : Nat} {s : Row}
abbrev frC (c : Nat) (μ μ' : MU) : Prop := ∀ x, (x < c ∨ c + 10 < x) → μ' x = μ x
/-- changeSetting -/
theorem ct6 (hc : c ∈ gCs) (hs : cRel μ c s) {a v : Int} (hq : ∀ μ', frC c μ μ' → cRel μ' c (if okSet a v then up s a.toNat v else s) → Q (some (.inl (if okSet a v then s a.toNat else -2))) G0 μ') : Wp E 6 0 [some (.inr (.inr (.inl c))), some (.inl a), some (.inl v), none] [] G0 μ Q := by
  obtain ⟨qc0, qc1, qc2, qc3, qc4, qc5, qc6, qc7, qc8, qc9, qc10, qc11, qc12, qc13, qc14, qc15, qc16, qc17, qc18, qc19, qc20⟩ := gC_ok c hc
  by_cases p1 : 0 ≤ a ∧ a ≤ 4
  · have hv : (a = 0 ∧ mk_int E 3 a.toNat = 1 ∧ mk_int E 4 a.toNat = 60) ∨ (a = 1 ∧ mk_int E 3 a.toNat = 0 ∧ mk_int E 4 a.toNat = 60) ∨ (a = 2 ∧ mk_int E 3 a.toNat = 0 ∧ mk_int E 4 a.toNat = 60) ∨ (a = 3 ∧ mk_int E 3 a.toNat = 0 ∧ mk_int E 4 a.toNat = 9) ∨ (a = 4 ∧ mk_int E 3 a.toNat = 0 ∧ mk_int E 4 a.toNat = 99) := by
      have : a = 0 ∨ a = 1 ∨ a = 2 ∨ a = 3 ∨ a = 4 := by omega
      rcases this with rfl | rfl | rfl | rfl | rfl
      · exact .inl ⟨rfl, rfl, rfl⟩
      · exact .inr (.inl ⟨rfl, rfl, rfl⟩)
      · exact .inr (.inr (.inl ⟨rfl, rfl, rfl⟩))
      · exact .inr (.inr (.inr (.inl ⟨rfl, rfl, rfl⟩)))
      · exact .inr (.inr (.inr (.inr ⟨rfl, rfl, rfl⟩)))
    have p3 : a < 5 := by omega
    have hl3 : mk_len E 3 = 5 := rfl
    have hl4 : mk_len E 4 = 5 := rfl
    by_cases p2 : mk_int E 3 a.toNat ≤ v ∧ v ≤ mk_int E 4 a.toNat
    · have hk : okSet a v := by unfold okSet; omega
      simp only [if_pos hk] at hq
      simp (disch := first | omega | exact rfl) only [x6_0, x6_1, x6_2, x6_3, x6_6, x6_9, x6_10, x6_13, x6_14, x6_14K, x6_15, x6_18, x6_19, x6_19K, x6_20, x6_23, x6_26, x6_28, x6_29, x6_30, x6_33, x6_34, x6_34K, x6_35, x6_36, x6_37, x6_40, x6_41, x6_42, x6_43, x6_44, x6_14K (c := 3) rfl, x6_19K (c := 4) rfl, isF, isK, isH, mK, nl_i, nl_n, nl_o, nl_r, c1_i, c1_r, mPush, mRv, G0_1, true_and, and_true, and_self, implies_true, List.length_nil, List.length_cons, Nat.reduceAdd, Nat.reduceLeDiff, Nat.zero_le, beq_self_eq_true, Nat.reduceBEq, decide_true, Bool.and_self, reduceCtorEq, ne_eq, not_true_eq_false, not_false_eq_true, false_implies, true_implies, Nat.reduceLT, Nat.reduceEqDiff, or_true, true_or, or_false, false_or, or_self, Int.reduceEq, Int.reduceNe, Int.reduceLT, Int.reduceLE, Int.reduceAdd, Int.reduceSub, Int.reduceMul, Int.reduceNeg, Int.reduceToNat, if_true, if_false, Classical.not_not, Int.cast_ofNat_Int, qc0, qc1, qc2, qc3, qc4, qc5, qc6, qc7, qc8, qc9, qc10, qc11, qc12, qc13, qc14, qc15, qc16, qc17, qc18, qc19, qc20, ct74, p1, p2, p3, hl3, hl4]
      repeat (refine And.intro (by omega) ?_)
      rw [hs.1 a.toNat (by omega)]
      apply hq
      · intro x hx; exact mUp_ne (by omega)
      · obtain ⟨b1, b2, b3, b4, b5, b6, b7⟩ := hs
        have hu : ∀ i, 5 ≤ i → up s a.toNat v i = s i := fun i hi => up_ne (by omega)
        refine ⟨fun i hi => ?_, ?_, ?_, fun i hi => ?_, fun f' hf1 hf2 => ?_, fun f' r' hf1 hf2 => ?_, fun k' hk1 hk2 => ?_⟩
        · have := b1 i hi; simp only [mUp_at, up]; omega
        · rw [hu _ (by omega), mUp_ne (by omega)]; exact b2
        · rw [hu _ (by omega), mUp_ne (by omega)]; exact b3
        · rw [hu _ (by omega), mUp_ne (by omega)]; exact b4 i hi
        · rw [hu _ (by omega)] at hf2
          rw [hu _ (by omega), hu _ (by omega), hu _ (by omega), mUp_ne (by omega), mUp_ne (by omega), mUp_ne (by omega)]; exact b5 f' hf1 hf2
        · rw [hu _ (by omega), hu _ (by omega), mUp_ne (by omega)]; exact b6 f' r' hf1 hf2
        · rw [hu _ (by omega)] at hk2
          rw [hu _ (by omega), hu _ (by omega), hu _ (by omega), hu _ (by omega), mUp_ne (by omega), mUp_ne (by omega), mUp_ne (by omega), mUp_ne (by omega)]; exact b7 k' hk1 hk2
    · have hk : ¬ okSet a v := by unfold okSet; omega
      simp only [if_neg hk] at hq
      simp (disch := first | omega | exact rfl) only [x6_0, x6_1, x6_2, x6_3, x6_6, x6_9, x6_10, x6_13, x6_14, x6_14K, x6_15, x6_18, x6_19, x6_19K, x6_20, x6_23, x6_26, x6_28, x6_29, x6_30, x6_33, x6_34, x6_34K, x6_35, x6_36, x6_37, x6_40, x6_41, x6_42, x6_43, x6_44, x6_14K (c := 3) rfl, x6_19K (c := 4) rfl, isF, isK, isH, mK, nl_i, nl_n, nl_o, nl_r, c1_i, c1_r, mPush, mRv, G0_1, true_and, and_true, and_self, implies_true, List.length_nil, List.length_cons, Nat.reduceAdd, Nat.reduceLeDiff, Nat.zero_le, beq_self_eq_true, Nat.reduceBEq, decide_true, Bool.and_self, reduceCtorEq, ne_eq, not_true_eq_false, not_false_eq_true, false_implies, true_implies, Nat.reduceLT, Nat.reduceEqDiff, or_true, true_or, or_false, false_or, or_self, Int.reduceEq, Int.reduceNe, Int.reduceLT, Int.reduceLE, Int.reduceAdd, Int.reduceSub, Int.reduceMul, Int.reduceNeg, Int.reduceToNat, if_true, if_false, Classical.not_not, Int.cast_ofNat_Int, qc0, qc1, qc2, qc3, qc4, qc5, qc6, qc7, qc8, qc9, qc10, qc11, qc12, qc13, qc14, qc15, qc16, qc17, qc18, qc19, qc20, ct74, p1, p2, p3, hl3, hl4]
      repeat (refine And.intro (by omega) ?_)
      exact hq μ (fun _ _ => rfl) hs
  · have hk : ¬ okSet a v := by unfold okSet; omega
    simp only [if_neg hk] at hq
    simp (disch := first | omega | exact rfl) only [x6_0, x6_1, x6_2, x6_3, x6_6, x6_9, x6_10, x6_13, x6_14, x6_14K, x6_15, x6_18, x6_19, x6_19K, x6_20, x6_23, x6_26, x6_28, x6_29, x6_30, x6_33, x6_34, x6_34K, x6_35, x6_36, x6_37, x6_40, x6_41, x6_42, x6_43, x6_44, x6_14K (c := 3) rfl, x6_19K (c := 4) rfl, isF, isK, isH, mK, nl_i, nl_n, nl_o, nl_r, c1_i, c1_r, mPush, mRv, G0_1, true_and, and_true, and_self, implies_true, List.length_nil, List.length_cons, Nat.reduceAdd, Nat.reduceLeDiff, Nat.zero_le, beq_self_eq_true, Nat.reduceBEq, decide_true, Bool.and_self, reduceCtorEq, ne_eq, not_true_eq_false, not_false_eq_true, false_implies, true_implies, Nat.reduceLT, Nat.reduceEqDiff, or_true, true_or, or_false, false_or, or_self, Int.reduceEq, Int.reduceNe, Int.reduceLT, Int.reduceLE, Int.reduceAdd, Int.reduceSub, Int.reduceMul, Int.reduceNeg, Int.reduceToNat, if_true, if_false, Classical.not_not, Int.cast_ofNat_Int, qc0, qc1, qc2, qc3, qc4, qc5, qc6, qc7, qc8, qc9, qc10, qc11, qc12, qc13, qc14, qc15, qc16, qc17, qc18, qc19, qc20, ct74, p1]
    exact hq μ (fun _ _ => rfl) hs
/-- addFilm -/
theorem ct7 (hc : c ∈ gCs) (hw : wf s) (hs : cRel μ c s) {r h t : Int} (hq : ∀ μ', frC c μ μ' → cRel μ' c (if rFilm s r h t = 0 then lFilm s r h t else s) → Q (some (.inl (if rFilm s r h t = 0 then s 5 else rFilm s r h t))) G0 μ') : Wp E 7 0 [some (.inr (.inr (.inl c))), some (.inl r), some (.inl h), some (.inl t)] [] G0 μ Q := by
  obtain ⟨qc0, qc1, qc2, qc3, qc4, qc5, qc6, qc7, qc8, qc9, qc10, qc11, qc12, qc13, qc14, qc15, qc16, qc17, qc18, qc19, qc20⟩ := gC_ok c hc
  have w5 := hw.1.2.2.2.2.2.1
  have e1 := hs.2.1
  have hno : ∀ v : Int, ¬ v = 0 → rFilm s r h t = v → Q (some (.inl v)) G0 μ := by
    intro v hv hr
    rw [hr, if_neg hv, if_neg hv] at hq
    exact hq μ (fun _ _ => rfl) hs
  by_cases p1 : 1 ≤ r ∧ r ≤ 6
  · by_cases p2 : 0 ≤ t ∧ t ≤ 100
    · by_cases p3 : 0 ≤ h ∧ h ≤ 3
      · by_cases p4 : s 5 < 5
        · have hr : rFilm s r h t = 0 := by unfold rFilm; omega
          rw [hr, if_pos rfl, if_pos rfl] at hq
          have p5 : ¬ (5 : Int) ≤ s 5 := by omega
          have p6 : 0 ≤ s 5 := by omega
          simp (disch := first | omega | exact rfl) only [x7_0, x7_1, x7_2, x7_4, x7_7, x7_10, x7_11, x7_12, x7_14, x7_17, x7_20, x7_22, x7_23, x7_24, x7_27, x7_30, x7_31, x7_32, x7_33, x7_36, x7_37, x7_40, x7_42, x7_43, x7_44, x7_47, x7_48, x7_51, x7_52, x7_53, x7_54, x7_57, x7_58, x7_61, x7_62, x7_63, x7_64, x7_67, x7_68, x7_71, x7_72, x7_73, x7_74, x7_75, x7_78, x7_79, x7_80, x7_83, x7_84, x7_87, x7_88, x7_89, isF, isK, isH, mK, nl_i, nl_n, nl_o, nl_r, c1_i, c1_r, mPush, mRv, G0_1, true_and, and_true, and_self, implies_true, List.length_nil, List.length_cons, Nat.reduceAdd, Nat.reduceLeDiff, Nat.zero_le, beq_self_eq_true, Nat.reduceBEq, decide_true, Bool.and_self, reduceCtorEq, ne_eq, not_true_eq_false, not_false_eq_true, false_implies, true_implies, Nat.reduceLT, Nat.reduceEqDiff, or_true, true_or, or_false, false_or, or_self, Int.reduceEq, Int.reduceNe, Int.reduceLT, Int.reduceLE, Int.reduceAdd, Int.reduceSub, Int.reduceMul, Int.reduceNeg, Int.reduceToNat, if_true, if_false, Classical.not_not, Int.cast_ofNat_Int, qc0, qc1, qc2, qc3, qc4, qc5, qc6, qc7, qc8, qc9, qc10, qc11, qc12, qc13, qc14, qc15, qc16, qc17, qc18, qc19, qc20, ct74, ct75, p1, p2, p3, p4, p5, p6, e1, mUp_ne, mUp_eq, mWr_of, Int.add_sub_cancel]
          repeat (refine And.intro (by omega) ?_)
          apply hq
          · intro x hx
            simp (disch := omega) only [mUp_ne]
          · obtain ⟨b1, b2, b3, b4, b5, b6, b7⟩ := hs
            refine ⟨fun i hi => ?_, ?_, ?_, fun i hi => ?_, fun f' hf1 hf2 => ?_, fun f' r' hf1 hf2 => ?_, fun k' hk1 hk2 => ?_⟩
            · have b := b1 i hi; simp (disch := omega) only [mUp_ne, mUp_nj, mUp_at, lFilm] at *; omega
            · simp (disch := omega) only [mUp_ne, mUp_nj, mUp_eq, lFilm, if_true]
            · simp (disch := omega) only [mUp_ne, mUp_nj, mUp_at, lFilm]; omega
            · have b := b4 i hi; simp (disch := omega) only [mUp_ne, mUp_nj, mUp_at, lFilm] at *; omega
            · have b := b5 f' hf1; simp (disch := omega) only [mUp_ne, mUp_nj, mUp_at, lFilm] at *; omega
            · have b := b6 f' r' hf1 hf2; simp (disch := omega) only [mUp_ne, mUp_nj, mUp_at, lFilm] at *; omega
            · have b := b7 k' hk1; simp (disch := omega) only [mUp_ne, mUp_nj, mUp_at, lFilm] at *; omega
        · have p5 : (5 : Int) ≤ s 5 := by omega
          simp (disch := first | omega | exact rfl) only [x7_0, x7_1, x7_2, x7_4, x7_7, x7_10, x7_11, x7_12, x7_14, x7_17, x7_20, x7_22, x7_23, x7_24, x7_27, x7_30, x7_31, x7_32, x7_33, x7_36, x7_37, x7_40, x7_42, x7_43, x7_44, x7_47, x7_48, x7_51, x7_52, x7_53, x7_54, x7_57, x7_58, x7_61, x7_62, x7_63, x7_64, x7_67, x7_68, x7_71, x7_72, x7_73, x7_74, x7_75, x7_78, x7_79, x7_80, x7_83, x7_84, x7_87, x7_88, x7_89, isF, isK, isH, mK, nl_i, nl_n, nl_o, nl_r, c1_i, c1_r, mPush, mRv, G0_1, true_and, and_true, and_self, implies_true, List.length_nil, List.length_cons, Nat.reduceAdd, Nat.reduceLeDiff, Nat.zero_le, beq_self_eq_true, Nat.reduceBEq, decide_true, Bool.and_self, reduceCtorEq, ne_eq, not_true_eq_false, not_false_eq_true, false_implies, true_implies, Nat.reduceLT, Nat.reduceEqDiff, or_true, true_or, or_false, false_or, or_self, Int.reduceEq, Int.reduceNe, Int.reduceLT, Int.reduceLE, Int.reduceAdd, Int.reduceSub, Int.reduceMul, Int.reduceNeg, Int.reduceToNat, if_true, if_false, Classical.not_not, Int.cast_ofNat_Int, qc0, qc1, qc2, qc3, qc4, qc5, qc6, qc7, qc8, qc9, qc10, qc11, qc12, qc13, qc14, qc15, qc16, qc17, qc18, qc19, qc20, ct74, ct75, p1, p2, p3, p4, p5, e1, mWr_of]
          exact hno _ (by omega) (by unfold rFilm; omega)
      · simp (disch := first | omega | exact rfl) only [x7_0, x7_1, x7_2, x7_4, x7_7, x7_10, x7_11, x7_12, x7_14, x7_17, x7_20, x7_22, x7_23, x7_24, x7_27, x7_30, x7_31, x7_32, x7_33, x7_36, x7_37, x7_40, x7_42, x7_43, x7_44, x7_47, x7_48, x7_51, x7_52, x7_53, x7_54, x7_57, x7_58, x7_61, x7_62, x7_63, x7_64, x7_67, x7_68, x7_71, x7_72, x7_73, x7_74, x7_75, x7_78, x7_79, x7_80, x7_83, x7_84, x7_87, x7_88, x7_89, isF, isK, isH, mK, nl_i, nl_n, nl_o, nl_r, c1_i, c1_r, mPush, mRv, G0_1, true_and, and_true, and_self, implies_true, List.length_nil, List.length_cons, Nat.reduceAdd, Nat.reduceLeDiff, Nat.zero_le, beq_self_eq_true, Nat.reduceBEq, decide_true, Bool.and_self, reduceCtorEq, ne_eq, not_true_eq_false, not_false_eq_true, false_implies, true_implies, Nat.reduceLT, Nat.reduceEqDiff, or_true, true_or, or_false, false_or, or_self, Int.reduceEq, Int.reduceNe, Int.reduceLT, Int.reduceLE, Int.reduceAdd, Int.reduceSub, Int.reduceMul, Int.reduceNeg, Int.reduceToNat, if_true, if_false, Classical.not_not, Int.cast_ofNat_Int, qc0, qc1, qc2, qc3, qc4, qc5, qc6, qc7, qc8, qc9, qc10, qc11, qc12, qc13, qc14, qc15, qc16, qc17, qc18, qc19, qc20, ct74, ct75, p1, p2, p3]
        exact hno _ (by omega) (by unfold rFilm; omega)
    · simp (disch := first | omega | exact rfl) only [x7_0, x7_1, x7_2, x7_4, x7_7, x7_10, x7_11, x7_12, x7_14, x7_17, x7_20, x7_22, x7_23, x7_24, x7_27, x7_30, x7_31, x7_32, x7_33, x7_36, x7_37, x7_40, x7_42, x7_43, x7_44, x7_47, x7_48, x7_51, x7_52, x7_53, x7_54, x7_57, x7_58, x7_61, x7_62, x7_63, x7_64, x7_67, x7_68, x7_71, x7_72, x7_73, x7_74, x7_75, x7_78, x7_79, x7_80, x7_83, x7_84, x7_87, x7_88, x7_89, isF, isK, isH, mK, nl_i, nl_n, nl_o, nl_r, c1_i, c1_r, mPush, mRv, G0_1, true_and, and_true, and_self, implies_true, List.length_nil, List.length_cons, Nat.reduceAdd, Nat.reduceLeDiff, Nat.zero_le, beq_self_eq_true, Nat.reduceBEq, decide_true, Bool.and_self, reduceCtorEq, ne_eq, not_true_eq_false, not_false_eq_true, false_implies, true_implies, Nat.reduceLT, Nat.reduceEqDiff, or_true, true_or, or_false, false_or, or_self, Int.reduceEq, Int.reduceNe, Int.reduceLT, Int.reduceLE, Int.reduceAdd, Int.reduceSub, Int.reduceMul, Int.reduceNeg, Int.reduceToNat, if_true, if_false, Classical.not_not, Int.cast_ofNat_Int, qc0, qc1, qc2, qc3, qc4, qc5, qc6, qc7, qc8, qc9, qc10, qc11, qc12, qc13, qc14, qc15, qc16, qc17, qc18, qc19, qc20, ct74, ct75, p1, p2]
      exact hno _ (by omega) (by unfold rFilm; omega)
  · simp (disch := first | omega | exact rfl) only [x7_0, x7_1, x7_2, x7_4, x7_7, x7_10, x7_11, x7_12, x7_14, x7_17, x7_20, x7_22, x7_23, x7_24, x7_27, x7_30, x7_31, x7_32, x7_33, x7_36, x7_37, x7_40, x7_42, x7_43, x7_44, x7_47, x7_48, x7_51, x7_52, x7_53, x7_54, x7_57, x7_58, x7_61, x7_62, x7_63, x7_64, x7_67, x7_68, x7_71, x7_72, x7_73, x7_74, x7_75, x7_78, x7_79, x7_80, x7_83, x7_84, x7_87, x7_88, x7_89, isF, isK, isH, mK, nl_i, nl_n, nl_o, nl_r, c1_i, c1_r, mPush, mRv, G0_1, true_and, and_true, and_self, implies_true, List.length_nil, List.length_cons, Nat.reduceAdd, Nat.reduceLeDiff, Nat.zero_le, beq_self_eq_true, Nat.reduceBEq, decide_true, Bool.and_self, reduceCtorEq, ne_eq, not_true_eq_false, not_false_eq_true, false_implies, true_implies, Nat.reduceLT, Nat.reduceEqDiff, or_true, true_or, or_false, false_or, or_self, Int.reduceEq, Int.reduceNe, Int.reduceLT, Int.reduceLE, Int.reduceAdd, Int.reduceSub, Int.reduceMul, Int.reduceNeg, Int.reduceToNat, if_true, if_false, Classical.not_not, Int.cast_ofNat_Int, qc0, qc1, qc2, qc3, qc4, qc5, qc6, qc7, qc8, qc9, qc10, qc11, qc12, qc13, qc14, qc15, qc16, qc17, qc18, qc19, qc20, ct74, ct75, p1]
    exact hno _ (by omega) (by unfold rFilm; omega)
end CHG
