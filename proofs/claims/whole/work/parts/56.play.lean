section PLAY
variable {E : ME} {Q : Option MV → MG → MU → Prop} {μ : MU} {b c : Nat} {S : Row}
def RC (μ : MU) (b : Nat) (S : Row) (f : Nat) (P : MU) : Prop := μ b 4 = S (23 + 9 * f) ∧ ∀ r : Nat, r < 6 → μ (b + 1) r = P 0 r ∧ μ (b + 2) r = P 1 r ∧ μ (b + 3) r = if ¬ S (26 + 9 * f + r) = 0 ∧ P 2 r = 0 then S (26 + 9 * f + r) - 1 else -6
def RQ (μ : MU) (b : Nat) (P : MU) : Prop := μ b 5 = P 5 0 ∧ μ b 6 = P 5 1 ∧ μ b 7 = P 5 2 ∧ μ b 8 = P 5 3
theorem ct151 {a : Nat} {v : Int} (hk : mKd G0 a = (10, 6)) (h : ∀ μ' : MU, (∀ x, ¬ x = a → μ' x = μ x) → (∀ i : Nat, i < 6 → μ' a i = v) → Q none G0 μ') : Wp E 151 0 [some (.inr (.inr (.inl a))), some (.inl v), none, none] [] G0 μ Q := by
  simp (disch := first | omega | exact rfl) only [x151_0, x151_1, x151_2, x151_3, x151_3K, x151_4, x151_5, x151_6, x151_7, x151_10, x151_11, x151_12, x151_13, x151_14, x151_20, isF, isK, isH, mK, nl_i, nl_n, nl_o, nl_r, c1_i, c1_r, mPush, mRv, G0_1, true_and, and_true, and_self, implies_true, List.length_nil, List.length_cons, Nat.reduceAdd, Nat.reduceLeDiff, Nat.zero_le, beq_self_eq_true, Nat.reduceBEq, decide_true, Bool.and_self, reduceCtorEq, ne_eq, not_true_eq_false, not_false_eq_true, false_implies, true_implies, Nat.reduceLT, Nat.reduceEqDiff, or_true, true_or, or_false, false_or, or_self, Int.reduceEq, Int.reduceNe, Int.reduceLT, Int.reduceLE, Int.reduceAdd, Int.reduceSub, Int.reduceMul, Int.reduceNeg, Int.reduceToNat, if_true, if_false, Classical.not_not, Int.cast_ofNat_Int, hk, mWr_of]
  iterate 6 (rw [x151_17]; simp (disch := first | omega | exact rfl) only [x151_0, x151_1, x151_2, x151_3, x151_3K, x151_4, x151_5, x151_6, x151_7, x151_10, x151_11, x151_12, x151_13, x151_14, x151_20, isF, isK, isH, mK, nl_i, nl_n, nl_o, nl_r, c1_i, c1_r, mPush, mRv, G0_1, true_and, and_true, and_self, implies_true, List.length_nil, List.length_cons, Nat.reduceAdd, Nat.reduceLeDiff, Nat.zero_le, beq_self_eq_true, Nat.reduceBEq, decide_true, Bool.and_self, reduceCtorEq, ne_eq, not_true_eq_false, not_false_eq_true, false_implies, true_implies, Nat.reduceLT, Nat.reduceEqDiff, or_true, true_or, or_false, false_or, or_self, Int.reduceEq, Int.reduceNe, Int.reduceLT, Int.reduceLE, Int.reduceAdd, Int.reduceSub, Int.reduceMul, Int.reduceNeg, Int.reduceToNat, if_true, if_false, Classical.not_not, Int.cast_ofNat_Int, hk, mWr_of])
  refine h _ ?_ ?_
  · intro x hx
    simp (disch := omega) only [mUp_ne]
  · intro i hi
    have hi2 : i = 0 ∨ i = 1 ∨ i = 2 ∨ i = 3 ∨ i = 4 ∨ i = 5 := by omega
    rcases hi2 with z | z | z | z | z | z <;> subst z <;> simp (disch := omega) only [mUp_nj, mUp_eq]
theorem ct35 (hc : c ∈ gCs) (hb : b ∈ gRs) (hs : cRel μ c S) {f : Nat} (hf : f < 5) (hf2 : (f : Int) < S 5) (h : ∀ μ' : MU, (∀ x, ¬ (b ≤ x ∧ x ≤ b + 3) → μ' x = μ x) → RC μ' b S f (fBeg S f) → Q none G0 μ') : Wp E 35 0 [some (.inr (.inr (.inl b))), some (.inr (.inr (.inl c))), some (.inl f)] [] G0 μ Q := by
  obtain ⟨qc0, qc1, qc2, qc3, qc4, qc5, qc6, qc7, qc8, qc9, qc10, qc11, qc12, qc13, qc14, qc15, qc16, qc17, qc18, qc19, qc20⟩ := gC_ok c hc
  obtain ⟨qb0, qb1, qb2, qb3, qb4, qb5, qb6, qb7, qb8⟩ := gR_ok b hb
  have hcb := gCR c hc b hb
  have e1 := (hs.2.2.2.2.1 f hf hf2).1
  have e2 := (hs.2.2.2.2.1 f hf hf2).2.1
  have hf3 : (f : Int) < 5 := by omega
  simp (disch := first | omega | exact rfl) only [x35_0, x35_1, x35_2, x35_5, x35_6, x35_7, x35_10, x35_11, x35_14, x35_15, x35_18, x35_19, x35_20, isF, isK, isH, mK, nl_i, nl_n, nl_o, nl_r, c1_i, c1_r, mPush, mRv, G0_1, true_and, and_true, and_self, implies_true, List.length_nil, List.length_cons, Nat.reduceAdd, Nat.reduceLeDiff, Nat.zero_le, beq_self_eq_true, Nat.reduceBEq, decide_true, Bool.and_self, reduceCtorEq, ne_eq, not_true_eq_false, not_false_eq_true, false_implies, true_implies, Nat.reduceLT, Nat.reduceEqDiff, or_true, true_or, or_false, false_or, or_self, Int.reduceEq, Int.reduceNe, Int.reduceLT, Int.reduceLE, Int.reduceAdd, Int.reduceSub, Int.reduceMul, Int.reduceNeg, Int.reduceToNat, if_true, if_false, Classical.not_not, Int.cast_ofNat_Int, qc0, qc1, qc2, qc3, qc4, qc5, qc6, qc7, qc8, qc9, qc10, qc11, qc12, qc13, qc14, qc15, qc16, qc17, qc18, qc19, qc20, qb0, qb1, qb2, qb3, qb4, qb5, qb6, qb7, qb8, mWr_of, mUp_ne, Int.toNat_natCast, e1, e2]
  refine ⟨by omega, by omega, ?_⟩
  refine ct151 (by assumption) (fun μ1 h1 h2 => ?_)
  simp (disch := first | omega | exact rfl) only [x35_23, x35_24, x35_27, x35_28, isF, isK, isH, mK, nl_i, nl_n, nl_o, nl_r, c1_i, c1_r, mPush, mRv, G0_1, true_and, and_true, and_self, implies_true, List.length_nil, List.length_cons, Nat.reduceAdd, Nat.reduceLeDiff, Nat.zero_le, beq_self_eq_true, Nat.reduceBEq, decide_true, Bool.and_self, reduceCtorEq, ne_eq, not_true_eq_false, not_false_eq_true, false_implies, true_implies, Nat.reduceLT, Nat.reduceEqDiff, or_true, true_or, or_false, false_or, or_self, Int.reduceEq, Int.reduceNe, Int.reduceLT, Int.reduceLE, Int.reduceAdd, Int.reduceSub, Int.reduceMul, Int.reduceNeg, Int.reduceToNat, if_true, if_false, Classical.not_not, Int.cast_ofNat_Int, qc0, qc1, qc2, qc3, qc4, qc5, qc6, qc7, qc8, qc9, qc10, qc11, qc12, qc13, qc14, qc15, qc16, qc17, qc18, qc19, qc20, qb0, qb1, qb2, qb3, qb4, qb5, qb6, qb7, qb8, mWr_of]
  refine ct151 (by assumption) (fun μ2 h3 h4 => ?_)
  simp (disch := first | omega | exact rfl) only [x35_0, x35_1, x35_2, x35_5, x35_6, x35_7, x35_10, x35_11, x35_14, x35_15, x35_18, x35_19, x35_20, x35_23, x35_24, x35_27, x35_28, x35_31, x35_32, x35_35, x35_36, x35_38, x35_39, x35_40, x35_43, x35_44, x35_46, x35_49, isF, isK, isH, mK, nl_i, nl_n, nl_o, nl_r, c1_i, c1_r, mPush, mRv, G0_1, true_and, and_true, and_self, implies_true, List.length_nil, List.length_cons, Nat.reduceAdd, Nat.reduceLeDiff, Nat.zero_le, beq_self_eq_true, Nat.reduceBEq, decide_true, Bool.and_self, reduceCtorEq, ne_eq, not_true_eq_false, not_false_eq_true, false_implies, true_implies, Nat.reduceLT, Nat.reduceEqDiff, or_true, true_or, or_false, false_or, or_self, Int.reduceEq, Int.reduceNe, Int.reduceLT, Int.reduceLE, Int.reduceAdd, Int.reduceSub, Int.reduceMul, Int.reduceNeg, Int.reduceToNat, if_true, if_false, Classical.not_not, Int.cast_ofNat_Int, qc0, qc1, qc2, qc3, qc4, qc5, qc6, qc7, qc8, qc9, qc10, qc11, qc12, qc13, qc14, qc15, qc16, qc17, qc18, qc19, qc20, qb0, qb1, qb2, qb3, qb4, qb5, qb6, qb7, qb8, mWr_of]
  repeat (refine And.intro (by omega) ?_)
  have g1 : ∀ x, ¬ (b ≤ x ∧ x ≤ b + 2) → μ2 x = μ x := by
    intro x hx
    rw [h3 x (by omega), h1 x (by omega), mUp_ne (by omega)]
  refine h _ ?_ ⟨?_, ?_⟩
  · intro x hx
    rw [mCpy_ne (by omega)]; exact g1 x (by omega)
  · rw [mCpy_ne (by omega), h3 b (by omega), h1 b (by omega), mUp_eq]
  · intro r hr
    refine ⟨?_, ?_, ?_⟩
    · rw [mCpy_ne (by omega), h3 _ (by omega), h2 r hr]; rfl
    · rw [mCpy_ne (by omega), h4 r hr]; rfl
    · have e3 := hs.2.2.2.2.2.1 f r hf hr
      have e4 : (mCpy μ2 (c + 6) ((f : Int) * 6).toNat (b + 3) 0 6) (b + 3) r = μ2 (c + 6) (6 * f + r) := by
        rw [mCpy_at, if_pos (by omega)]
        have : ((f : Int) * 6).toNat + (r - 0) = 6 * f + r := by omega
        rw [this]
      show (mCpy μ2 (c + 6) ((f : Int) * 6).toNat (b + 3) 0 6) (b + 3) r = _
      rw [e4, g1 _ (by omega), e3]
      show _ = if ¬ S (26 + 9 * f + r) = 0 ∧ (0 : Int) = 0 then S (26 + 9 * f + r) - 1 else -6
      by_cases q : S (26 + 9 * f + r) = 0
      · rw [if_neg (fun z => z.2 q), if_neg (fun z => z.1 q)]
      · rw [if_pos ⟨hf2, q⟩, if_pos ⟨q, rfl⟩]
theorem ct38 (hc : c ∈ gCs) (hb : b ∈ gRs) {r : Nat} {t : Int} (hr : r < 6) : Wp E 38 0 [some (.inr (.inr (.inl b))), some (.inr (.inr (.inl c))), some (.inl r), some (.inl t)] [] G0 μ Q = Q (some (.inl (if μ (b + 3) r = -6 ∨ t < μ (b + 3) r then 0 else μ (c + 1) 2))) G0 (if μ (b + 3) r = -6 ∨ t < μ (b + 3) r then μ else mUp μ (b + 3) r (-6)) := by
  obtain ⟨qc0, qc1, qc2, qc3, qc4, qc5, qc6, qc7, qc8, qc9, qc10, qc11, qc12, qc13, qc14, qc15, qc16, qc17, qc18, qc19, qc20⟩ := gC_ok c hc
  obtain ⟨qb0, qb1, qb2, qb3, qb4, qb5, qb6, qb7, qb8⟩ := gR_ok b hb
  have hcb := gCR c hc b hb
  have hr3 : (r : Int) < 6 := by omega
  have hr0 : (0 : Int) ≤ r := by omega
  by_cases p1 : μ (b + 3) r = -6
  · simp (disch := first | omega | exact rfl) only [x38_0, x38_1, x38_4, x38_5, x38_6, x38_8, x38_11, x38_12, x38_15, x38_16, x38_17, x38_18, x38_21, x38_22, x38_23, x38_24, x38_27, x38_28, x38_30, x38_31, x38_32, x38_35, x38_36, x38_37, isF, isK, isH, mK, nl_i, nl_n, nl_o, nl_r, c1_i, c1_r, mPush, mRv, G0_1, true_and, and_true, and_self, implies_true, List.length_nil, List.length_cons, Nat.reduceAdd, Nat.reduceLeDiff, Nat.zero_le, beq_self_eq_true, Nat.reduceBEq, decide_true, Bool.and_self, reduceCtorEq, ne_eq, not_true_eq_false, not_false_eq_true, false_implies, true_implies, Nat.reduceLT, Nat.reduceEqDiff, or_true, true_or, or_false, false_or, or_self, Int.reduceEq, Int.reduceNe, Int.reduceLT, Int.reduceLE, Int.reduceAdd, Int.reduceSub, Int.reduceMul, Int.reduceNeg, Int.reduceToNat, if_true, if_false, Classical.not_not, Int.cast_ofNat_Int, qc0, qc1, qc2, qc3, qc4, qc5, qc6, qc7, qc8, qc9, qc10, qc11, qc12, qc13, qc14, qc15, qc16, qc17, qc18, qc19, qc20, qb0, qb1, qb2, qb3, qb4, qb5, qb6, qb7, qb8, Int.toNat_natCast, p1, hr3, hr0]
  · by_cases p2 : t < μ (b + 3) r
    · have p3 : ¬ μ (b + 3) r ≤ t := by omega
      simp (disch := first | omega | exact rfl) only [x38_0, x38_1, x38_4, x38_5, x38_6, x38_8, x38_11, x38_12, x38_15, x38_16, x38_17, x38_18, x38_21, x38_22, x38_23, x38_24, x38_27, x38_28, x38_30, x38_31, x38_32, x38_35, x38_36, x38_37, isF, isK, isH, mK, nl_i, nl_n, nl_o, nl_r, c1_i, c1_r, mPush, mRv, G0_1, true_and, and_true, and_self, implies_true, List.length_nil, List.length_cons, Nat.reduceAdd, Nat.reduceLeDiff, Nat.zero_le, beq_self_eq_true, Nat.reduceBEq, decide_true, Bool.and_self, reduceCtorEq, ne_eq, not_true_eq_false, not_false_eq_true, false_implies, true_implies, Nat.reduceLT, Nat.reduceEqDiff, or_true, true_or, or_false, false_or, or_self, Int.reduceEq, Int.reduceNe, Int.reduceLT, Int.reduceLE, Int.reduceAdd, Int.reduceSub, Int.reduceMul, Int.reduceNeg, Int.reduceToNat, if_true, if_false, Classical.not_not, Int.cast_ofNat_Int, qc0, qc1, qc2, qc3, qc4, qc5, qc6, qc7, qc8, qc9, qc10, qc11, qc12, qc13, qc14, qc15, qc16, qc17, qc18, qc19, qc20, qb0, qb1, qb2, qb3, qb4, qb5, qb6, qb7, qb8, Int.toNat_natCast, p1, p2, p3, hr3, hr0]
    · have p3 : μ (b + 3) r ≤ t := by omega
      have e : (mUp μ (b + 3) r (-6)) (c + 1) 2 = μ (c + 1) 2 := by rw [mUp_ne (by omega)]
      simp (disch := first | omega | exact rfl) only [x38_0, x38_1, x38_4, x38_5, x38_6, x38_8, x38_11, x38_12, x38_15, x38_16, x38_17, x38_18, x38_21, x38_22, x38_23, x38_24, x38_27, x38_28, x38_30, x38_31, x38_32, x38_35, x38_36, x38_37, isF, isK, isH, mK, nl_i, nl_n, nl_o, nl_r, c1_i, c1_r, mPush, mRv, G0_1, true_and, and_true, and_self, implies_true, List.length_nil, List.length_cons, Nat.reduceAdd, Nat.reduceLeDiff, Nat.zero_le, beq_self_eq_true, Nat.reduceBEq, decide_true, Bool.and_self, reduceCtorEq, ne_eq, not_true_eq_false, not_false_eq_true, false_implies, true_implies, Nat.reduceLT, Nat.reduceEqDiff, or_true, true_or, or_false, false_or, or_self, Int.reduceEq, Int.reduceNe, Int.reduceLT, Int.reduceLE, Int.reduceAdd, Int.reduceSub, Int.reduceMul, Int.reduceNeg, Int.reduceToNat, if_true, if_false, Classical.not_not, Int.cast_ofNat_Int, qc0, qc1, qc2, qc3, qc4, qc5, qc6, qc7, qc8, qc9, qc10, qc11, qc12, qc13, qc14, qc15, qc16, qc17, qc18, qc19, qc20, qb0, qb1, qb2, qb3, qb4, qb5, qb6, qb7, qb8, Int.toNat_natCast, p1, p2, p3, hr3, hr0, e]
end PLAY
