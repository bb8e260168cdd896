theorem gC_no : ∀ c ∈ gCs, c + 10 < 12 ∨ 48 < c := by decide
section ORDC
variable {E : ME} {Q : Option MV → MG → MU → Prop} {S : Row} {c : Nat}
theorem zq29i (hc : c ∈ gCs) {μ0 : MU} (hs : cRel μ0 c S) (hw : wfR S) {N m p : Nat} (hN : S 6 = N) (hN20 : N ≤ 20) (hm : m < N) {o : Nat → Nat} (hO : ∀ k, k < m → o k < m)
    (hQ : ∀ μ : MU, (∀ x, ¬ x = 13 → μ x = μ0 x) → (∀ k, k < p → μ 13 k = o k) → (∀ k, p < k → k ≤ m → μ 13 k = o (k - 1)) → Wp E 29 58 [some (.inr (.inr (.inl 12))), some (.inr (.inr (.inl c))), some (.inl m), some (.inl p)] [] G0 μ Q) :
    ∀ b : Nat, b ≤ m → pIn (sT S) o (sT S m) b = p → ∀ μ : MU, (∀ x, ¬ x = 13 → μ x = μ0 x) → (∀ k, k < b → μ 13 k = o k) → (∀ k, b < k → k ≤ m → μ 13 k = o (k - 1)) →
    Wp E 29 12 [some (.inr (.inr (.inl 12))), some (.inr (.inr (.inl c))), some (.inl m), some (.inl b)] [] G0 μ Q := by
  obtain ⟨qc0, qc1, qc2, qc3, qc4, qc5, qc6, qc7, qc8, qc9, qc10, qc11, qc12, qc13, qc14, qc15, qc16, qc17, qc18, qc19, qc20⟩ := gC_ok c hc
  intro b
  have hcl := gC_no c hc
  induction b with
  | zero =>
    intro _ hp μ h1 h2 h3
    simp only [pIn] at hp
    subst hp
    simp (disch := first | omega | exact rfl) only [x29_12, x29_13, isF, isK, isH, mK, nl_i, nl_n, nl_o, nl_r, c1_i, c1_r, mPush, mRv, G0_1, true_and, and_true, and_self, implies_true, List.length_nil, List.length_cons, Nat.reduceAdd, Nat.reduceLeDiff, Nat.zero_le, beq_self_eq_true, Nat.reduceBEq, decide_true, Bool.and_self, reduceCtorEq, ne_eq, not_true_eq_false, not_false_eq_true, false_implies, true_implies, Nat.reduceLT, Nat.reduceEqDiff, or_true, true_or, or_false, false_or, or_self, Int.reduceEq, Int.reduceNe, Int.reduceLT, Int.reduceLE, Int.reduceAdd, Int.reduceSub, Int.reduceMul, Int.reduceNeg, Int.reduceToNat, if_true, if_false, Classical.not_not, Int.cast_ofNat_Int]
    exact hQ μ h1 h2 h3
  | succ b ih =>
    intro hb hp μ h1 h2 h3
    have eo := h2 b (by omega)
    have hob := hO b (by omega)
    have eT : ∀ k : Nat, k < N → μ (c + 9) k = sT S k := by
      intro k hk
      rw [h1 (c + 9) (by omega)]
      exact (hs.2.2.2.2.2.2 k (by omega) (by omega)).2.2.1
    have e1 := eT (o b) (by omega)
    have e2 := eT m hm
    have eb : (((b + 1 : Nat) : Int)) - 1 = (b : Int) := by omega
    have eb0 : ¬ ((b + 1 : Nat) : Int) ≤ 0 := by omega
    have eb1 : (0 : Int) < ((b + 1 : Nat) : Int) := by omega
    have eb2 : (0 : Int) ≤ b := by omega
    have eb3 : (b : Int) < 20 := by omega
    have eb4 : (0 : Int) ≤ ((b + 1 : Nat) : Int) := by omega
    have eb5 : ((b + 1 : Nat) : Int) < 20 := by omega
    have em : (0 : Int) ≤ m := by omega
    have em2 : (m : Int) < 20 := by omega
    have eo2 : (0 : Int) ≤ o b := by omega
    have eo3 : (o b : Int) < 20 := by omega
    have eb6 : ((b + 1 : Nat) : Int) + -1 = (b : Int) := by omega
    simp only [pIn] at hp
    by_cases q : sT S m < sT S (o b)
    · rw [if_pos q] at hp
      have q2 : ¬ sT S (o b) ≤ sT S m := by omega
      simp (disch := first | omega | exact rfl) only [x29_0, x29_1, x29_2, x29_3, x29_4, x29_7, x29_10, x29_11, x29_12, x29_13, x29_16, x29_17, x29_20, x29_21, x29_24, x29_25, x29_26, x29_27, x29_28, x29_29, x29_30, x29_33, x29_34, x29_35, x29_38, x29_39, x29_42, x29_43, x29_44, x29_47, x29_48, x29_49, x29_50, x29_51, x29_52, x29_59, x29_62, x29_63, x29_64, x29_65, x29_68, x29_71, isF, isK, isH, mK, nl_i, nl_n, nl_o, nl_r, c1_i, c1_r, mPush, mRv, G0_1, true_and, and_true, and_self, implies_true, List.length_nil, List.length_cons, Nat.reduceAdd, Nat.reduceLeDiff, Nat.zero_le, beq_self_eq_true, Nat.reduceBEq, decide_true, Bool.and_self, reduceCtorEq, ne_eq, not_true_eq_false, not_false_eq_true, false_implies, true_implies, Nat.reduceLT, Nat.reduceEqDiff, or_true, true_or, or_false, false_or, or_self, Int.reduceEq, Int.reduceNe, Int.reduceLT, Int.reduceLE, Int.reduceAdd, Int.reduceSub, Int.reduceMul, Int.reduceNeg, Int.reduceToNat, if_true, if_false, Classical.not_not, Int.cast_ofNat_Int, kd12, kd13, kd14, kd15, kd16, kd17, kd18, kd19, kd20, kd21, kd22, kd23, rf12_0, rf12_1, rf12_2, rf12_3, rf12_4, rf12_5, rf12_6, rf12_7, rf12_8, rf12_9, rf12_10, rf23_0, rf23_1, rf23_2, rf23_3, rf23_4, qc0, qc1, qc2, qc3, qc4, qc5, qc6, qc7, qc8, qc9, qc10, qc11, qc12, qc13, qc14, qc15, qc16, qc17, qc18, qc19, qc20, mWr_of, Int.toNat_natCast, eo, e1, e2, eb, eb0, eb1, eb2, eb3, eb4, eb5, em, em2, eo2, eo3, q, q2, eb6]
      rw [x29_55]
      refine ih (by omega) hp _ ?_ ?_ ?_
      · intro x hx; rw [mUp_ne hx]; exact h1 x hx
      · intro k hk
        rw [mUp_nj (by omega)]; exact h2 k (by omega)
      · intro k hk hk2
        rw [mUp_at]
        by_cases z : k = b + 1
        · rw [if_pos z, z, Nat.add_sub_cancel]
        · rw [if_neg z]; exact h3 k (by omega) hk2
    · rw [if_neg q] at hp
      have q2 : sT S (o b) ≤ sT S m := by omega
      subst hp
      simp (disch := first | omega | exact rfl) only [x29_0, x29_1, x29_2, x29_3, x29_4, x29_7, x29_10, x29_11, x29_12, x29_13, x29_16, x29_17, x29_20, x29_21, x29_24, x29_25, x29_26, x29_27, x29_28, x29_29, x29_30, x29_33, x29_34, x29_35, x29_38, x29_39, x29_42, x29_43, x29_44, x29_47, x29_48, x29_49, x29_50, x29_51, x29_52, x29_59, x29_62, x29_63, x29_64, x29_65, x29_68, x29_71, isF, isK, isH, mK, nl_i, nl_n, nl_o, nl_r, c1_i, c1_r, mPush, mRv, G0_1, true_and, and_true, and_self, implies_true, List.length_nil, List.length_cons, Nat.reduceAdd, Nat.reduceLeDiff, Nat.zero_le, beq_self_eq_true, Nat.reduceBEq, decide_true, Bool.and_self, reduceCtorEq, ne_eq, not_true_eq_false, not_false_eq_true, false_implies, true_implies, Nat.reduceLT, Nat.reduceEqDiff, or_true, true_or, or_false, false_or, or_self, Int.reduceEq, Int.reduceNe, Int.reduceLT, Int.reduceLE, Int.reduceAdd, Int.reduceSub, Int.reduceMul, Int.reduceNeg, Int.reduceToNat, if_true, if_false, Classical.not_not, Int.cast_ofNat_Int, kd12, kd13, kd14, kd15, kd16, kd17, kd18, kd19, kd20, kd21, kd22, kd23, rf12_0, rf12_1, rf12_2, rf12_3, rf12_4, rf12_5, rf12_6, rf12_7, rf12_8, rf12_9, rf12_10, rf23_0, rf23_1, rf23_2, rf23_3, rf23_4, qc0, qc1, qc2, qc3, qc4, qc5, qc6, qc7, qc8, qc9, qc10, qc11, qc12, qc13, qc14, qc15, qc16, qc17, qc18, qc19, qc20, mWr_of, Int.toNat_natCast, eo, e1, e2, eb, eb0, eb1, eb2, eb3, eb4, eb5, em, em2, eo2, eo3, q, q2, eb6]
      exact hQ μ h1 h2 h3
theorem zq29o (hc : c ∈ gCs) {μ0 : MU} (hs : cRel μ0 c S) (hw : wfR S) {N : Nat} (hN : S 6 = N) (hN20 : N ≤ 20)
    (hQ : ∀ μ : MU, (∀ x, ¬ x = 13 → μ x = μ0 x) → (∀ k, k < N → μ 13 k = ord (sT S) N k) → Q none G0 μ) :
    ∀ (i m : Nat), m + i = N → ∀ (μ : MU) (o3 : Option MV), mNl (some o3) = true → (∀ x, ¬ x = 13 → μ x = μ0 x) → (∀ k, k < m → μ 13 k = ord (sT S) m k) →
    Wp E 29 2 [some (.inr (.inr (.inl 12))), some (.inr (.inr (.inl c))), some (.inl m), o3] [] G0 μ Q := by
  obtain ⟨qc0, qc1, qc2, qc3, qc4, qc5, qc6, qc7, qc8, qc9, qc10, qc11, qc12, qc13, qc14, qc15, qc16, qc17, qc18, qc19, qc20⟩ := gC_ok c hc
  have hcl := gC_no c hc
  intro i
  induction i with
  | zero =>
    intro m hm μ o3 n3 h1 h2
    have em : m = N := by omega
    subst em
    have e7 : μ c 7 = m := by rw [h1 c (by omega)]; exact hs.2.2.1.trans hN
    simp (disch := first | omega | exact rfl) only [x29_2, x29_3, x29_4, x29_7, x29_71, isF, isK, isH, mK, nl_i, nl_n, nl_o, nl_r, c1_i, c1_r, mPush, mRv, G0_1, true_and, and_true, and_self, implies_true, List.length_nil, List.length_cons, Nat.reduceAdd, Nat.reduceLeDiff, Nat.zero_le, beq_self_eq_true, Nat.reduceBEq, decide_true, Bool.and_self, reduceCtorEq, ne_eq, not_true_eq_false, not_false_eq_true, false_implies, true_implies, Nat.reduceLT, Nat.reduceEqDiff, or_true, true_or, or_false, false_or, or_self, Int.reduceEq, Int.reduceNe, Int.reduceLT, Int.reduceLE, Int.reduceAdd, Int.reduceSub, Int.reduceMul, Int.reduceNeg, Int.reduceToNat, if_true, if_false, Classical.not_not, Int.cast_ofNat_Int, qc0, qc1, qc2, qc3, qc4, qc5, qc6, qc7, qc8, qc9, qc10, qc11, qc12, qc13, qc14, qc15, qc16, qc17, qc18, qc19, qc20, e7, Int.le_refl, Int.lt_irrefl]
    exact hQ μ h1 h2
  | succ i ih =>
    intro m hm μ o3 n3 h1 h2
    have e7 : μ c 7 = N := by rw [h1 c (by omega)]; exact hs.2.2.1.trans hN
    have em : ¬ (N : Int) ≤ m := by omega
    have em2 : (m : Int) < N := by omega
    have eI : (m : Int) + 1 = ((m + 1 : Nat) : Int) := by omega
    have hO := isO_ord (T := sT S) m
    simp (disch := first | omega | exact rfl) only [x29_2, x29_3, x29_4, x29_7, x29_10, x29_11, isF, isK, isH, mK, nl_i, nl_n, nl_o, nl_r, c1_i, c1_r, mPush, mRv, G0_1, true_and, and_true, and_self, implies_true, List.length_nil, List.length_cons, Nat.reduceAdd, Nat.reduceLeDiff, Nat.zero_le, beq_self_eq_true, Nat.reduceBEq, decide_true, Bool.and_self, reduceCtorEq, ne_eq, not_true_eq_false, not_false_eq_true, false_implies, true_implies, Nat.reduceLT, Nat.reduceEqDiff, or_true, true_or, or_false, false_or, or_self, Int.reduceEq, Int.reduceNe, Int.reduceLT, Int.reduceLE, Int.reduceAdd, Int.reduceSub, Int.reduceMul, Int.reduceNeg, Int.reduceToNat, if_true, if_false, Classical.not_not, Int.cast_ofNat_Int, qc0, qc1, qc2, qc3, qc4, qc5, qc6, qc7, qc8, qc9, qc10, qc11, qc12, qc13, qc14, qc15, qc16, qc17, qc18, qc19, qc20, e7, em, em2, n3]
    refine zq29i hc hs hw hN hN20 (by omega) (fun k hk => (hO.1 k hk).1) ?_ m (Nat.le_refl _) rfl μ h1 h2 (fun k hk hk2 => by omega)
    have hp := pIn_le (T := sT S) (o := ord (sT S) m) (q := sT S m) m
    intro μ1 k1 k2 k3
    have ep : (0 : Int) ≤ pIn (sT S) (ord (sT S) m) (sT S m) m := by omega
    have ep2 : (pIn (sT S) (ord (sT S) m) (sT S m) m : Int) < 20 := by omega
    simp (disch := first | omega | exact rfl) only [x29_58, x29_59, x29_62, x29_63, x29_64, x29_65, isF, isK, isH, mK, nl_i, nl_n, nl_o, nl_r, c1_i, c1_r, mPush, mRv, G0_1, true_and, and_true, and_self, implies_true, List.length_nil, List.length_cons, Nat.reduceAdd, Nat.reduceLeDiff, Nat.zero_le, beq_self_eq_true, Nat.reduceBEq, decide_true, Bool.and_self, reduceCtorEq, ne_eq, not_true_eq_false, not_false_eq_true, false_implies, true_implies, Nat.reduceLT, Nat.reduceEqDiff, or_true, true_or, or_false, false_or, or_self, Int.reduceEq, Int.reduceNe, Int.reduceLT, Int.reduceLE, Int.reduceAdd, Int.reduceSub, Int.reduceMul, Int.reduceNeg, Int.reduceToNat, if_true, if_false, Classical.not_not, Int.cast_ofNat_Int, kd12, kd13, kd14, kd15, kd16, kd17, kd18, kd19, kd20, kd21, kd22, kd23, rf12_0, rf12_1, rf12_2, rf12_3, rf12_4, rf12_5, rf12_6, rf12_7, rf12_8, rf12_9, rf12_10, rf23_0, rf23_1, rf23_2, rf23_3, rf23_4, mWr_of, ep, ep2, Int.toNat_natCast]
    rw [x29_68, eI]
    refine ih (m + 1) (by omega) _ _ rfl ?_ ?_
    · intro x hx; rw [mUp_ne hx]; exact k1 x hx
    · intro k hk
      show _ = ((ins (ord (sT S) m) (pIn (sT S) (ord (sT S) m) (sT S m) m) m k : Nat) : Int)
      rw [mUp_at]
      unfold ins
      by_cases z1 : k = pIn (sT S) (ord (sT S) m) (sT S m) m
      · rw [if_pos z1, if_neg (by omega), if_pos z1]
      · by_cases z2 : k < pIn (sT S) (ord (sT S) m) (sT S m) m
        · rw [if_neg z1, if_pos z2]; exact k2 k z2
        · rw [if_neg z1, if_neg z2, if_neg z1]; exact k3 k (by omega) (by omega)
theorem ct29 (hc : c ∈ gCs) {μ : MU} (hs : cRel μ c S) (hw : wfR S) {N : Nat} (hN : S 6 = N) (hN20 : N ≤ 20)
    (hQ : ∀ μ' : MU, (∀ x, ¬ x = 13 → μ' x = μ x) → (∀ k, k < N → μ' 13 k = ord (sT S) N k) → Q none G0 μ') :
    Wp E 29 0 [some (.inr (.inr (.inl 12))), some (.inr (.inr (.inl c))), none, none] [] G0 μ Q := by
  simp (disch := first | omega | exact rfl) only [x29_0, x29_1, isF, isK, isH, mK, nl_i, nl_n, nl_o, nl_r, c1_i, c1_r, mPush, mRv, G0_1, true_and, and_true, and_self, implies_true, List.length_nil, List.length_cons, Nat.reduceAdd, Nat.reduceLeDiff, Nat.zero_le, beq_self_eq_true, Nat.reduceBEq, decide_true, Bool.and_self, reduceCtorEq, ne_eq, not_true_eq_false, not_false_eq_true, false_implies, true_implies, Nat.reduceLT, Nat.reduceEqDiff, or_true, true_or, or_false, false_or, or_self, Int.reduceEq, Int.reduceNe, Int.reduceLT, Int.reduceLE, Int.reduceAdd, Int.reduceSub, Int.reduceMul, Int.reduceNeg, Int.reduceToNat, if_true, if_false, Classical.not_not, Int.cast_ofNat_Int]
  exact zq29o hc hs hw hN hN20 hQ N 0 (by omega) μ _ rfl (fun _ _ => rfl) (fun k hk => by omega)
end ORDC
