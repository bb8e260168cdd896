section FRER
variable {E : ME} {Q : Option MV → MG → MU → Prop} {S : Row}
theorem wf_cut {S S' : Row} {N : Nat} (hw : wf S) (hN : S 6 = N) (h : ∀ i, ¬ (68 + 4 * N ≤ i ∧ i < 72 + 4 * N) → S' i = S i) : wf S' := by
  obtain ⟨h1, h2, h3, h4⟩ := hw
  refine ⟨?_, ?_, ?_, ?_⟩
  · rw [h 0 (by omega), h 1 (by omega), h 2 (by omega), h 3 (by omega), h 4 (by omega), h 5 (by omega), h 6 (by omega)]; exact h1
  · intro a b ha hb
    rw [h _ (by omega)]; exact h2 a b ha hb
  · intro f hf hf2
    rw [h 5 (by omega)] at hf2
    rw [h _ (by omega), h _ (by omega), h _ (by omega)]
    obtain ⟨k1, k2, k3, k4⟩ := h3 f hf hf2
    exact ⟨k1, k2, k3, fun r hr => by rw [h _ (by omega)]; exact k4 r hr⟩
  · intro k hk hk2
    rw [h 6 (by omega)] at hk2
    rw [h _ (by omega), h 5 (by omega), h _ (by omega), h _ (by omega), h _ (by omega)]
    exact h4 k hk hk2
theorem cRel_cut {S S' : Row} {μ : MU} {c N : Nat} (hc : cRel μ c S) (hN : S 6 = N) (h : ∀ i, ¬ (68 + 4 * N ≤ i ∧ i < 72 + 4 * N) → S' i = S i) : cRel μ c S' := by
  obtain ⟨h1, h2, h3, h4, h5, h6, h7⟩ := hc
  refine ⟨fun i hi => by rw [h i (by omega)]; exact h1 i hi, by rw [h 5 (by omega)]; exact h2, by rw [h 6 (by omega)]; exact h3, fun i hi => by rw [h _ (by omega)]; exact h4 i hi, ?_, ?_, ?_⟩
  · intro f hf hf2
    rw [h 5 (by omega)] at hf2
    rw [h _ (by omega), h _ (by omega), h _ (by omega)]; exact h5 f hf hf2
  · intro f r hf hr
    rw [h 5 (by omega), h _ (by omega)]; exact h6 f r hf hr
  · intro k hk hk2
    rw [h 6 (by omega)] at hk2
    rw [h _ (by omega), h _ (by omega), h _ (by omega), h _ (by omega)]; exact h7 k hk hk2
theorem INV_row2 {μ : MU} {r : Row} (hI : INV μ) (hw : wf r) (hc : cRel μ 1 r) : INV (mRow μ r) := by
  obtain ⟨_, _, hh, hl, hp⟩ := hI
  have e : ∀ x, ¬ x = 177 → mRow μ r x = μ x := fun x h => mRow_ne h
  refine ⟨by rw [mRow_177]; exact hw, by rw [mRow_177]; exact cRel_fr (fun x p1 p2 => e x (by omega)) hc, ?_, ?_, ?_⟩
  · unfold hRel
    rw [e 49 (by omega), e 176 (by omega)]
    refine ⟨hh.1, hh.2.1, hh.2.2.1, fun j hj hj2 => ?_⟩
    obtain ⟨hq1, hq2⟩ := hh.2.2.2 j hj hj2
    have e1 : hRow (mRow μ r) j = hRow μ j := by unfold hRow; rw [e 178 (by omega)]
    have e2 : rAt (mRow μ r) j = rAt μ j := by unfold rAt; rw [e 49 (by omega)]
    rw [e1, e2]
    have e3 : rAt μ j + 10 ≤ 127 := by
      have : ((μ 49 1).toNat + j) % 7 < 7 := Nat.mod_lt _ (by omega)
      unfold rAt; omega
    exact ⟨cRel_fr (fun x p1 p2 => e x (by omega)) hq1, hq2⟩
  · intro i hi
    rw [e 132 (by omega), e 180 (by omega)]
    obtain ⟨k1, k2, k3⟩ := hl i hi
    have e1 : lRow (mRow μ r) i = lRow μ i := by unfold lRow; rw [e 179 (by omega)]
    rw [e1]
    exact ⟨k1, k2, fun z => ⟨cRel_fr (fun x p1 p2 => e x (by omega)) (k3 z).1, (k3 z).2⟩⟩
  · unfold pRel
    rw [e 128 (by omega), e 176 (by omega), e 129 (by omega), e 181 (by omega)]
    exact hp
def FRm (μ : MU) (N i : Nat) : Prop := (μ 184 N = 0 ∧ μ 185 N = 0) ∧ ∀ j, j < i → μ 184 j ≤ μ 192 j ∧ on (μ 185 j) ≤ μ 193 j
theorem zq124 {μ : MU} {N : Nat} (hN20 : N ≤ 20) (h1 : FRm μ N N → Q (some (.inl 1)) G0 μ) (h0 : ¬ FRm μ N N → Q (some (.inl 0)) G0 μ) : ∀ (m i : Nat), i + m = N → ∀ v : Int, ((v = 1 ∧ FRm μ N i) ∨ (v = 0 ∧ ¬ FRm μ N i)) →
    Wp E 124 36 [some (.inr (.inr (.inl 176))), some (.inl N), some (.inl v), some (.inl i)] [] G0 μ Q := by
  intro m
  induction m with
  | zero =>
    intro i hi v hv
    have e : i = N := by omega
    subst e
    simp (disch := first | omega | exact rfl) only [x124_36, x124_37, x124_38, x124_90, x124_91, isF, isK, isH, mK, nl_i, nl_n, nl_o, nl_r, c1_i, c1_r, mPush, mRv, G0_1, true_and, and_true, and_self, implies_true, List.length_nil, List.length_cons, Nat.reduceAdd, Nat.reduceLeDiff, Nat.zero_le, beq_self_eq_true, Nat.reduceBEq, decide_true, Bool.and_self, reduceCtorEq, ne_eq, not_true_eq_false, not_false_eq_true, false_implies, true_implies, Nat.reduceLT, Nat.reduceEqDiff, or_true, true_or, or_false, false_or, or_self, Int.reduceEq, Int.reduceNe, Int.reduceLT, Int.reduceLE, Int.reduceAdd, Int.reduceSub, Int.reduceMul, Int.reduceNeg, Int.reduceToNat, if_true, if_false, Classical.not_not, Int.cast_ofNat_Int, Int.le_refl, Int.lt_irrefl]
    rcases hv with ⟨z1, z2⟩ | ⟨z1, z2⟩
    · rw [z1]; exact ⟨Or.inr rfl, h1 z2⟩
    · rw [z1]; exact ⟨Or.inl rfl, h0 z2⟩
  | succ m ih =>
    intro i hi v hv
    have e1 : ¬ (N : Int) ≤ i := by omega
    have e2 : (i : Int) < N := by omega
    have e3 : (i : Int) < 21 := by omega
    have e4 : (0 : Int) ≤ i := by omega
    have eI : (i : Int) + 1 = ((i + 1 : Nat) : Int) := by omega
    rcases hv with ⟨z1, z2⟩ | ⟨z1, z2⟩
    · subst z1
      by_cases y1 : μ 184 i ≤ μ 192 i
      · have y1' : ¬ μ 192 i < μ 184 i := by omega
        by_cases y2 : on (μ 185 i) ≤ μ 193 i
        · have y2' : ¬ μ 193 i < on (μ 185 i) := by omega
          simp (disch := first | omega | exact rfl) only [x124_0, x124_1, x124_4, x124_6, x124_7, x124_8, x124_9, x124_10, x124_11, x124_14, x124_15, x124_16, x124_19, x124_20, x124_23, x124_24, x124_25, x124_28, x124_29, x124_32, x124_36, x124_37, x124_38, x124_41, x124_42, x124_45, x124_46, x124_49, x124_50, x124_51, x124_52, x124_55, x124_56, x124_57, x124_60, x124_61, x124_64, x124_65, x124_66, x124_69, x124_70, x124_73, x124_74, x124_75, x124_78, x124_79, x124_82, x124_83, x124_84, x124_91, isF, isK, isH, mK, nl_i, nl_n, nl_o, nl_r, c1_i, c1_r, mPush, mRv, G0_1, true_and, and_true, and_self, implies_true, List.length_nil, List.length_cons, Nat.reduceAdd, Nat.reduceLeDiff, Nat.zero_le, beq_self_eq_true, Nat.reduceBEq, decide_true, Bool.and_self, reduceCtorEq, ne_eq, not_true_eq_false, not_false_eq_true, false_implies, true_implies, Nat.reduceLT, Nat.reduceEqDiff, or_true, true_or, or_false, false_or, or_self, Int.reduceEq, Int.reduceNe, Int.reduceLT, Int.reduceLE, Int.reduceAdd, Int.reduceSub, Int.reduceMul, Int.reduceNeg, Int.reduceToNat, if_true, if_false, Classical.not_not, Int.cast_ofNat_Int, kd176, kd177, kd178, kd179, kd180, kd181, kd182, kd183, kd184, kd185, kd186, kd187, kd188, kd189, kd190, kd191, kd192, kd193, kd194, rf176_1, rf176_2, rf176_4, rf176_5, rf176_6, rf176_8, rf176_9, rf176_10, rf176_11, rf176_12, rf176_13, rf176_14, rf176_16, rf176_17, rf176_18, rf176_19, rf176_20, rf176_23, ct90, Int.toNat_natCast, e1, e2, e3, e4, y1, y1', y2, y2', mWr_of]
          rw [x124_87, eI]
          refine ih (i + 1) (by omega) 1 (Or.inl ⟨rfl, z2.1, fun j hj => ?_⟩)
          by_cases w : j = i
          · subst w; exact ⟨y1, y2⟩
          · exact z2.2 j (by omega)
        · have y2' : μ 193 i < on (μ 185 i) := by omega
          simp (disch := first | omega | exact rfl) only [x124_0, x124_1, x124_4, x124_6, x124_7, x124_8, x124_9, x124_10, x124_11, x124_14, x124_15, x124_16, x124_19, x124_20, x124_23, x124_24, x124_25, x124_28, x124_29, x124_32, x124_36, x124_37, x124_38, x124_41, x124_42, x124_45, x124_46, x124_49, x124_50, x124_51, x124_52, x124_55, x124_56, x124_57, x124_60, x124_61, x124_64, x124_65, x124_66, x124_69, x124_70, x124_73, x124_74, x124_75, x124_78, x124_79, x124_82, x124_83, x124_84, x124_91, isF, isK, isH, mK, nl_i, nl_n, nl_o, nl_r, c1_i, c1_r, mPush, mRv, G0_1, true_and, and_true, and_self, implies_true, List.length_nil, List.length_cons, Nat.reduceAdd, Nat.reduceLeDiff, Nat.zero_le, beq_self_eq_true, Nat.reduceBEq, decide_true, Bool.and_self, reduceCtorEq, ne_eq, not_true_eq_false, not_false_eq_true, false_implies, true_implies, Nat.reduceLT, Nat.reduceEqDiff, or_true, true_or, or_false, false_or, or_self, Int.reduceEq, Int.reduceNe, Int.reduceLT, Int.reduceLE, Int.reduceAdd, Int.reduceSub, Int.reduceMul, Int.reduceNeg, Int.reduceToNat, if_true, if_false, Classical.not_not, Int.cast_ofNat_Int, kd176, kd177, kd178, kd179, kd180, kd181, kd182, kd183, kd184, kd185, kd186, kd187, kd188, kd189, kd190, kd191, kd192, kd193, kd194, rf176_1, rf176_2, rf176_4, rf176_5, rf176_6, rf176_8, rf176_9, rf176_10, rf176_11, rf176_12, rf176_13, rf176_14, rf176_16, rf176_17, rf176_18, rf176_19, rf176_20, rf176_23, ct90, Int.toNat_natCast, e1, e2, e3, e4, y1, y1', y2, y2', mWr_of]
          rw [x124_87, eI]
          exact ih (i + 1) (by omega) 0 (Or.inr ⟨rfl, fun w => y2 (w.2 i (by omega)).2⟩)
      · have y1' : μ 192 i < μ 184 i := by omega
        simp (disch := first | omega | exact rfl) only [x124_0, x124_1, x124_4, x124_6, x124_7, x124_8, x124_9, x124_10, x124_11, x124_14, x124_15, x124_16, x124_19, x124_20, x124_23, x124_24, x124_25, x124_28, x124_29, x124_32, x124_36, x124_37, x124_38, x124_41, x124_42, x124_45, x124_46, x124_49, x124_50, x124_51, x124_52, x124_55, x124_56, x124_57, x124_60, x124_61, x124_64, x124_65, x124_66, x124_69, x124_70, x124_73, x124_74, x124_75, x124_78, x124_79, x124_82, x124_83, x124_84, x124_91, isF, isK, isH, mK, nl_i, nl_n, nl_o, nl_r, c1_i, c1_r, mPush, mRv, G0_1, true_and, and_true, and_self, implies_true, List.length_nil, List.length_cons, Nat.reduceAdd, Nat.reduceLeDiff, Nat.zero_le, beq_self_eq_true, Nat.reduceBEq, decide_true, Bool.and_self, reduceCtorEq, ne_eq, not_true_eq_false, not_false_eq_true, false_implies, true_implies, Nat.reduceLT, Nat.reduceEqDiff, or_true, true_or, or_false, false_or, or_self, Int.reduceEq, Int.reduceNe, Int.reduceLT, Int.reduceLE, Int.reduceAdd, Int.reduceSub, Int.reduceMul, Int.reduceNeg, Int.reduceToNat, if_true, if_false, Classical.not_not, Int.cast_ofNat_Int, kd176, kd177, kd178, kd179, kd180, kd181, kd182, kd183, kd184, kd185, kd186, kd187, kd188, kd189, kd190, kd191, kd192, kd193, kd194, rf176_1, rf176_2, rf176_4, rf176_5, rf176_6, rf176_8, rf176_9, rf176_10, rf176_11, rf176_12, rf176_13, rf176_14, rf176_16, rf176_17, rf176_18, rf176_19, rf176_20, rf176_23, ct90, Int.toNat_natCast, e1, e2, e3, e4, y1, y1', mWr_of]
        rw [x124_87, eI]
        exact ih (i + 1) (by omega) 0 (Or.inr ⟨rfl, fun w => y1 (w.2 i (by omega)).1⟩)
    · subst z1
      simp (disch := first | omega | exact rfl) only [x124_36, x124_37, x124_38, x124_41, x124_42, x124_82, x124_83, x124_84, isF, isK, isH, mK, nl_i, nl_n, nl_o, nl_r, c1_i, c1_r, mPush, mRv, G0_1, true_and, and_true, and_self, implies_true, List.length_nil, List.length_cons, Nat.reduceAdd, Nat.reduceLeDiff, Nat.zero_le, beq_self_eq_true, Nat.reduceBEq, decide_true, Bool.and_self, reduceCtorEq, ne_eq, not_true_eq_false, not_false_eq_true, false_implies, true_implies, Nat.reduceLT, Nat.reduceEqDiff, or_true, true_or, or_false, false_or, or_self, Int.reduceEq, Int.reduceNe, Int.reduceLT, Int.reduceLE, Int.reduceAdd, Int.reduceSub, Int.reduceMul, Int.reduceNeg, Int.reduceToNat, if_true, if_false, Classical.not_not, Int.cast_ofNat_Int, e1, e2, mWr_of]
      rw [x124_87, eI]
      exact ih (i + 1) (by omega) 0 (Or.inr ⟨rfl, fun w => z2 ⟨w.1, fun j hj => w.2 j (by omega)⟩⟩)
theorem ct124 {μ : MU} {N : Nat} (hN : μ 177 6 = ((N + 1 : Nat) : Int)) (hN20 : N ≤ 20) (h1 : FRm μ N N → Q (some (.inl 1)) G0 μ) (h0 : ¬ FRm μ N N → Q (some (.inl 0)) G0 μ) : Wp E 124 0 [some (.inr (.inr (.inl 176))), none, none, none] [] G0 μ Q := by
  have e1 : ((N + 1 : Nat) : Int) - 1 = N := by omega
  have e3 : (N : Int) < 21 := by omega
  have e4 : (0 : Int) ≤ N := by omega
  by_cases y1 : μ 184 N = 0
  · by_cases y2 : μ 185 N = 0
    · simp (disch := first | omega | exact rfl) only [x124_0, x124_1, x124_4, x124_6, x124_7, x124_8, x124_9, x124_10, x124_11, x124_14, x124_15, x124_16, x124_19, x124_20, x124_23, x124_24, x124_25, x124_28, x124_29, x124_32, x124_33, x124_34, x124_35, x124_37, x124_38, x124_41, x124_42, x124_45, x124_46, x124_49, x124_50, x124_51, x124_52, x124_55, x124_56, x124_57, x124_60, x124_61, x124_64, x124_65, x124_66, x124_69, x124_70, x124_73, x124_74, x124_75, x124_78, x124_79, x124_82, x124_83, x124_84, x124_87, x124_90, x124_91, isF, isK, isH, mK, nl_i, nl_n, nl_o, nl_r, c1_i, c1_r, mPush, mRv, G0_1, true_and, and_true, and_self, implies_true, List.length_nil, List.length_cons, Nat.reduceAdd, Nat.reduceLeDiff, Nat.zero_le, beq_self_eq_true, Nat.reduceBEq, decide_true, Bool.and_self, reduceCtorEq, ne_eq, not_true_eq_false, not_false_eq_true, false_implies, true_implies, Nat.reduceLT, Nat.reduceEqDiff, or_true, true_or, or_false, false_or, or_self, Int.reduceEq, Int.reduceNe, Int.reduceLT, Int.reduceLE, Int.reduceAdd, Int.reduceSub, Int.reduceMul, Int.reduceNeg, Int.reduceToNat, if_true, if_false, Classical.not_not, Int.cast_ofNat_Int, kd176, kd177, kd178, kd179, kd180, kd181, kd182, kd183, kd184, kd185, kd186, kd187, kd188, kd189, kd190, kd191, kd192, kd193, kd194, rf176_1, rf176_2, rf176_4, rf176_5, rf176_6, rf176_8, rf176_9, rf176_10, rf176_11, rf176_12, rf176_13, rf176_14, rf176_16, rf176_17, rf176_18, rf176_19, rf176_20, rf176_23, hN, e1, e3, e4, Int.toNat_natCast, mWr_of, y1, y2]
      exact zq124 hN20 h1 h0 N 0 (by omega) 1 (Or.inl ⟨rfl, ⟨y1, y2⟩, fun j hj => by omega⟩)
    · simp (disch := first | omega | exact rfl) only [x124_0, x124_1, x124_4, x124_6, x124_7, x124_8, x124_9, x124_10, x124_11, x124_14, x124_15, x124_16, x124_19, x124_20, x124_23, x124_24, x124_25, x124_28, x124_29, x124_32, x124_33, x124_34, x124_35, x124_37, x124_38, x124_41, x124_42, x124_45, x124_46, x124_49, x124_50, x124_51, x124_52, x124_55, x124_56, x124_57, x124_60, x124_61, x124_64, x124_65, x124_66, x124_69, x124_70, x124_73, x124_74, x124_75, x124_78, x124_79, x124_82, x124_83, x124_84, x124_87, x124_90, x124_91, isF, isK, isH, mK, nl_i, nl_n, nl_o, nl_r, c1_i, c1_r, mPush, mRv, G0_1, true_and, and_true, and_self, implies_true, List.length_nil, List.length_cons, Nat.reduceAdd, Nat.reduceLeDiff, Nat.zero_le, beq_self_eq_true, Nat.reduceBEq, decide_true, Bool.and_self, reduceCtorEq, ne_eq, not_true_eq_false, not_false_eq_true, false_implies, true_implies, Nat.reduceLT, Nat.reduceEqDiff, or_true, true_or, or_false, false_or, or_self, Int.reduceEq, Int.reduceNe, Int.reduceLT, Int.reduceLE, Int.reduceAdd, Int.reduceSub, Int.reduceMul, Int.reduceNeg, Int.reduceToNat, if_true, if_false, Classical.not_not, Int.cast_ofNat_Int, kd176, kd177, kd178, kd179, kd180, kd181, kd182, kd183, kd184, kd185, kd186, kd187, kd188, kd189, kd190, kd191, kd192, kd193, kd194, rf176_1, rf176_2, rf176_4, rf176_5, rf176_6, rf176_8, rf176_9, rf176_10, rf176_11, rf176_12, rf176_13, rf176_14, rf176_16, rf176_17, rf176_18, rf176_19, rf176_20, rf176_23, hN, e1, e3, e4, Int.toNat_natCast, mWr_of, y1, y2]
      exact zq124 hN20 h1 h0 N 0 (by omega) 0 (Or.inr ⟨rfl, fun z => y2 z.1.2⟩)
  · simp (disch := first | omega | exact rfl) only [x124_0, x124_1, x124_4, x124_6, x124_7, x124_8, x124_9, x124_10, x124_11, x124_14, x124_15, x124_16, x124_19, x124_20, x124_23, x124_24, x124_25, x124_28, x124_29, x124_32, x124_33, x124_34, x124_35, x124_37, x124_38, x124_41, x124_42, x124_45, x124_46, x124_49, x124_50, x124_51, x124_52, x124_55, x124_56, x124_57, x124_60, x124_61, x124_64, x124_65, x124_66, x124_69, x124_70, x124_73, x124_74, x124_75, x124_78, x124_79, x124_82, x124_83, x124_84, x124_87, x124_90, x124_91, isF, isK, isH, mK, nl_i, nl_n, nl_o, nl_r, c1_i, c1_r, mPush, mRv, G0_1, true_and, and_true, and_self, implies_true, List.length_nil, List.length_cons, Nat.reduceAdd, Nat.reduceLeDiff, Nat.zero_le, beq_self_eq_true, Nat.reduceBEq, decide_true, Bool.and_self, reduceCtorEq, ne_eq, not_true_eq_false, not_false_eq_true, false_implies, true_implies, Nat.reduceLT, Nat.reduceEqDiff, or_true, true_or, or_false, false_or, or_self, Int.reduceEq, Int.reduceNe, Int.reduceLT, Int.reduceLE, Int.reduceAdd, Int.reduceSub, Int.reduceMul, Int.reduceNeg, Int.reduceToNat, if_true, if_false, Classical.not_not, Int.cast_ofNat_Int, kd176, kd177, kd178, kd179, kd180, kd181, kd182, kd183, kd184, kd185, kd186, kd187, kd188, kd189, kd190, kd191, kd192, kd193, kd194, rf176_1, rf176_2, rf176_4, rf176_5, rf176_6, rf176_8, rf176_9, rf176_10, rf176_11, rf176_12, rf176_13, rf176_14, rf176_16, rf176_17, rf176_18, rf176_19, rf176_20, rf176_23, hN, e1, e3, e4, Int.toNat_natCast, mWr_of, y1]
    exact zq124 hN20 h1 h0 N 0 (by omega) 0 (Or.inr ⟨rfl, fun z => y1 z.1.1⟩)
theorem zq125a {μ0 : MU} {N : Nat} {ls : MLs} {l1 l2 l3 : Option MV} (hN : μ0 177 6 = N) (hN20 : N ≤ 20) (hQ : ∀ (μ : MU), (∀ x, ¬ x = 192 → ¬ x = 193 → μ x = μ0 x) → (∀ i, i < N → μ 192 i = μ0 184 i ∧ μ 193 i = on (μ0 185 i)) → Wp E 125 80 (some (.inr (.inr (.inl 176))) :: l1 :: l2 :: l3 :: some (.inl 0) :: some (.inl N) :: ls) [] G0 μ Q) : ∀ (m i : Nat), i + m = N → ∀ μ : MU, (∀ x, ¬ x = 192 → ¬ x = 193 → μ x = μ0 x) → (∀ j, j < i → μ 192 j = μ0 184 j ∧ μ 193 j = on (μ0 185 j)) →
    Wp E 125 31 (some (.inr (.inr (.inl 176))) :: l1 :: l2 :: l3 :: some (.inl 0) :: some (.inl i) :: ls) [] G0 μ Q := by
  intro m
  induction m with
  | zero =>
    intro i hi μ h1 h2
    have e : i = N := by omega
    subst e
    have e6 : μ 177 6 = i := by rw [h1 177 (by omega) (by omega)]; exact hN
    simp (disch := first | omega | exact rfl) only [x125_31, x125_33, x125_34, x125_37, x125_39, x125_40, isF, isK, isH, mK, nl_i, nl_n, nl_o, nl_r, c1_i, c1_r, mPush, mRv, G0_1, true_and, and_true, and_self, implies_true, List.length_nil, List.length_cons, Nat.reduceAdd, Nat.reduceLeDiff, Nat.zero_le, beq_self_eq_true, Nat.reduceBEq, decide_true, Bool.and_self, reduceCtorEq, ne_eq, not_true_eq_false, not_false_eq_true, false_implies, true_implies, Nat.reduceLT, Nat.reduceEqDiff, or_true, true_or, or_false, false_or, or_self, Int.reduceEq, Int.reduceNe, Int.reduceLT, Int.reduceLE, Int.reduceAdd, Int.reduceSub, Int.reduceMul, Int.reduceNeg, Int.reduceToNat, if_true, if_false, Classical.not_not, Int.cast_ofNat_Int, kd176, kd177, kd178, kd179, kd180, kd181, kd182, kd183, kd184, kd185, kd186, kd187, kd188, kd189, kd190, kd191, kd192, kd193, kd194, rf176_1, rf176_2, rf176_4, rf176_5, rf176_6, rf176_8, rf176_9, rf176_10, rf176_11, rf176_12, rf176_13, rf176_14, rf176_16, rf176_17, rf176_18, rf176_19, rf176_20, rf176_23, e6, Int.le_refl, Int.lt_irrefl]
    exact hQ μ h1 h2
  | succ m ih =>
    intro i hi μ h1 h2
    have e6 : μ 177 6 = N := by rw [h1 177 (by omega) (by omega)]; exact hN
    have e1 : ¬ (N : Int) ≤ i := by omega
    have e2 : (i : Int) < N := by omega
    have e3 : (i : Int) < 21 := by omega
    have e4 : (0 : Int) ≤ i := by omega
    have eI : (i : Int) + 1 = ((i + 1 : Nat) : Int) := by omega
    simp (disch := first | omega | exact rfl) only [x125_31, x125_33, x125_34, x125_37, x125_39, x125_40, x125_43, x125_44, x125_47, x125_49, x125_50, x125_53, x125_55, x125_56, x125_57, x125_58, x125_61, x125_63, x125_64, x125_67, x125_69, x125_70, x125_73, x125_74, isF, isK, isH, mK, nl_i, nl_n, nl_o, nl_r, c1_i, c1_r, mPush, mRv, G0_1, true_and, and_true, and_self, implies_true, List.length_nil, List.length_cons, Nat.reduceAdd, Nat.reduceLeDiff, Nat.zero_le, beq_self_eq_true, Nat.reduceBEq, decide_true, Bool.and_self, reduceCtorEq, ne_eq, not_true_eq_false, not_false_eq_true, false_implies, true_implies, Nat.reduceLT, Nat.reduceEqDiff, or_true, true_or, or_false, false_or, or_self, Int.reduceEq, Int.reduceNe, Int.reduceLT, Int.reduceLE, Int.reduceAdd, Int.reduceSub, Int.reduceMul, Int.reduceNeg, Int.reduceToNat, if_true, if_false, Classical.not_not, Int.cast_ofNat_Int, kd176, kd177, kd178, kd179, kd180, kd181, kd182, kd183, kd184, kd185, kd186, kd187, kd188, kd189, kd190, kd191, kd192, kd193, kd194, rf176_1, rf176_2, rf176_4, rf176_5, rf176_6, rf176_8, rf176_9, rf176_10, rf176_11, rf176_12, rf176_13, rf176_14, rf176_16, rf176_17, rf176_18, rf176_19, rf176_20, rf176_23, e6, e1, e2, e3, e4, Int.toNat_natCast, ct90, mWr_of, mUp_ne]
    rw [x125_77, eI]
    refine ih (i + 1) (by omega) _ ?_ ?_
    · intro x z1 z2
      rw [mUp_ne z2, mUp_ne z1]; exact h1 x z1 z2
    · intro j hj
      rw [mUp_ne (by omega), mUp_at, mUp_at, h1 184 (by omega) (by omega), h1 185 (by omega) (by omega)]
      by_cases q : j = i
      · rw [if_pos q, if_pos q, q]; exact ⟨rfl, rfl⟩
      · rw [if_neg q, if_neg q, mUp_ne (by omega)]; exact h2 j (by omega)
end FRER
