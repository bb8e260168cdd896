section RUNS
variable {E : ME} {Q : Option MV → MG → MU → Prop} {S : Row}
/-- the minutes of the shows -/
def sT (S : Row) : Nat → Int := fun s => S (70 + 4 * s)
theorem zq86 {μ : MU} (hS : RS μ S) (hw : wfR S) {N k : Nat} (hN : S 6 = N) (hk : k < N) (h : Q (some (.inl (cnt (sT S) k N))) G0 μ) : ∀ (m j : Nat), j + m = N → ∀ o4 : Option MV, mNl (some o4) = true →
    Wp E 86 4 [some (.inr (.inr (.inl 176))), some (.inl k), some (.inl (cnt (sT S) k j)), some (.inl j), o4] [] G0 μ Q := by
  intro m
  have hN2 := hw.1.2.2.2.2.2.2
  have e6 : μ 177 6 = N := by rw [hS.1 6 (by omega)]; exact hN
  induction m with
  | zero =>
    intro j hj o4 n4
    have ej : j = N := by omega
    subst ej
    simp (disch := first | omega | exact rfl) only [x86_0, x86_1, x86_2, x86_3, x86_4, x86_5, x86_6, x86_9, x86_11, x86_12, x86_15, x86_16, x86_24, x86_27, x86_28, x86_30, x86_31, x86_33, x86_36, x86_38, x86_41, x86_42, x86_43, x86_46, x86_47, x86_50, x86_51, x86_52, x86_53, x86_59, x86_60, isF, isK, isH, mK, nl_i, nl_n, nl_o, nl_r, c1_i, c1_r, mPush, mRv, G0_1, true_and, and_true, and_self, implies_true, List.length_nil, List.length_cons, Nat.reduceAdd, Nat.reduceLeDiff, Nat.zero_le, beq_self_eq_true, Nat.reduceBEq, decide_true, Bool.and_self, reduceCtorEq, ne_eq, not_true_eq_false, not_false_eq_true, false_implies, true_implies, Nat.reduceLT, Nat.reduceEqDiff, or_true, true_or, or_false, false_or, or_self, Int.reduceEq, Int.reduceNe, Int.reduceLT, Int.reduceLE, Int.reduceAdd, Int.reduceSub, Int.reduceMul, Int.reduceNeg, Int.reduceToNat, if_true, if_false, Classical.not_not, Int.cast_ofNat_Int, kd176, kd177, kd178, kd179, kd180, kd181, kd182, kd183, kd184, kd185, kd186, kd187, kd188, kd189, kd190, kd191, kd192, kd193, kd194, rf176_1, rf176_2, rf176_4, rf176_5, rf176_6, rf176_8, rf176_9, rf176_10, rf176_11, rf176_12, rf176_13, rf176_14, rf176_16, rf176_17, rf176_18, rf176_19, rf176_20, rf176_23, e6, Int.lt_irrefl, Int.le_refl]
    exact h
  | succ m ih =>
    intro j hj o4 n4
    have ej : ¬ (N : Int) ≤ j := by omega
    have ej2 : (j : Int) < N := by omega
    have h1 := hw.2.2.2 k (by omega) (by omega)
    have h2 := hw.2.2.2 j (by omega) (by omega)
    have hc := cnt_le (T := sT S) (a := k) j
    have eK : μ 177 (68 + 4 * k + 2) = sT S k := by
      unfold sT
      rw [hS.1 _ (by omega)]; congr 1; omega
    have eJ : μ 177 (68 + 4 * j + 2) = sT S j := by
      unfold sT
      rw [hS.1 _ (by omega)]; congr 1; omega
    have b1 : 0 ≤ sT S k ∧ sT S k ≤ 1439 := h1.2.2.1
    have b2 : 0 ≤ sT S j ∧ sT S j ≤ 1439 := h2.2.2.1
    have eI : (j : Int) + 1 = ((j + 1 : Nat) : Int) := by omega
    have ek : (0 : Int) ≤ k := by omega
    have ek2 : (k : Int) < 21 := by omega
    have ej3 : (0 : Int) ≤ j := by omega
    have ej4 : (j : Int) < 21 := by omega
    have key : ∀ v : Int, ((v = 1 ∧ (sT S j < sT S k ∨ (sT S j = sT S k ∧ j < k))) ∨ (v = 0 ∧ ¬ (sT S j < sT S k ∨ (sT S j = sT S k ∧ j < k)))) → ((cnt (sT S) k j : Nat) : Int) + v = ((cnt (sT S) k (j + 1) : Nat) : Int) := by
      intro v hv
      simp only [cnt]
      rcases hv with ⟨z1, z2⟩ | ⟨z1, z2⟩
      · rw [if_pos z2, z1]; omega
      · rw [if_neg z2, z1]; omega
    by_cases q1 : sT S j < sT S k
    · have p1 : 0 < sT S k - sT S j := by omega
      have p2 : ¬ sT S k - sT S j ≤ 0 := by omega
      simp (disch := first | omega | exact rfl) only [x86_0, x86_1, x86_2, x86_3, x86_4, x86_5, x86_6, x86_9, x86_11, x86_12, x86_15, x86_16, x86_17, x86_18, x86_21, x86_22, x86_23, x86_24, x86_27, x86_28, x86_30, x86_31, x86_33, x86_36, x86_38, x86_41, x86_42, x86_43, x86_46, x86_47, x86_50, x86_51, x86_52, x86_53, x86_59, x86_60, isF, isK, isH, mK, nl_i, nl_n, nl_o, nl_r, c1_i, c1_r, mPush, mRv, G0_1, true_and, and_true, and_self, implies_true, List.length_nil, List.length_cons, Nat.reduceAdd, Nat.reduceLeDiff, Nat.zero_le, beq_self_eq_true, Nat.reduceBEq, decide_true, Bool.and_self, reduceCtorEq, ne_eq, not_true_eq_false, not_false_eq_true, false_implies, true_implies, Nat.reduceLT, Nat.reduceEqDiff, or_true, true_or, or_false, false_or, or_self, Int.reduceEq, Int.reduceNe, Int.reduceLT, Int.reduceLE, Int.reduceAdd, Int.reduceSub, Int.reduceMul, Int.reduceNeg, Int.reduceToNat, if_true, if_false, Classical.not_not, Int.cast_ofNat_Int, kd176, kd177, kd178, kd179, kd180, kd181, kd182, kd183, kd184, kd185, kd186, kd187, kd188, kd189, kd190, kd191, kd192, kd193, kd194, rf176_1, rf176_2, rf176_4, rf176_5, rf176_6, rf176_8, rf176_9, rf176_10, rf176_11, rf176_12, rf176_13, rf176_14, rf176_16, rf176_17, rf176_18, rf176_19, rf176_20, rf176_23, mWr_of, Int.toNat_natCast, e6, ej, ej2, ct79, eK, eJ, p1, p2, ek, ek2, ej3, ej4, n4]
      rw [x86_56, eI, key 1 (Or.inl ⟨rfl, Or.inl q1⟩)]
      exact ih (j + 1) (by omega) _ rfl
    · by_cases q2 : sT S j = sT S k
      · have p1 : sT S k - sT S j = 0 := by omega
        by_cases q3 : j < k
        · have p3 : ¬ (k : Int) ≤ j := by omega
          have p4 : (j : Int) < k := by omega
          simp (disch := first | omega | exact rfl) only [x86_0, x86_1, x86_2, x86_3, x86_4, x86_5, x86_6, x86_9, x86_11, x86_12, x86_15, x86_16, x86_17, x86_18, x86_21, x86_22, x86_23, x86_24, x86_27, x86_28, x86_30, x86_31, x86_33, x86_36, x86_38, x86_41, x86_42, x86_43, x86_46, x86_47, x86_50, x86_51, x86_52, x86_53, x86_59, x86_60, isF, isK, isH, mK, nl_i, nl_n, nl_o, nl_r, c1_i, c1_r, mPush, mRv, G0_1, true_and, and_true, and_self, implies_true, List.length_nil, List.length_cons, Nat.reduceAdd, Nat.reduceLeDiff, Nat.zero_le, beq_self_eq_true, Nat.reduceBEq, decide_true, Bool.and_self, reduceCtorEq, ne_eq, not_true_eq_false, not_false_eq_true, false_implies, true_implies, Nat.reduceLT, Nat.reduceEqDiff, or_true, true_or, or_false, false_or, or_self, Int.reduceEq, Int.reduceNe, Int.reduceLT, Int.reduceLE, Int.reduceAdd, Int.reduceSub, Int.reduceMul, Int.reduceNeg, Int.reduceToNat, if_true, if_false, Classical.not_not, Int.cast_ofNat_Int, kd176, kd177, kd178, kd179, kd180, kd181, kd182, kd183, kd184, kd185, kd186, kd187, kd188, kd189, kd190, kd191, kd192, kd193, kd194, rf176_1, rf176_2, rf176_4, rf176_5, rf176_6, rf176_8, rf176_9, rf176_10, rf176_11, rf176_12, rf176_13, rf176_14, rf176_16, rf176_17, rf176_18, rf176_19, rf176_20, rf176_23, mWr_of, Int.toNat_natCast, e6, ej, ej2, ct79, eK, eJ, p1, p3, p4, ek, ek2, ej3, ej4, n4, Int.lt_irrefl, Int.le_refl]
          rw [x86_56, eI, key 1 (Or.inl ⟨rfl, Or.inr ⟨q2, q3⟩⟩)]
          exact ih (j + 1) (by omega) _ rfl
        · have p3 : (k : Int) ≤ j := by omega
          have p4 : ¬ (j : Int) < k := by omega
          simp (disch := first | omega | exact rfl) only [x86_0, x86_1, x86_2, x86_3, x86_4, x86_5, x86_6, x86_9, x86_11, x86_12, x86_15, x86_16, x86_17, x86_18, x86_21, x86_22, x86_23, x86_24, x86_27, x86_28, x86_30, x86_31, x86_33, x86_36, x86_38, x86_41, x86_42, x86_43, x86_46, x86_47, x86_50, x86_51, x86_52, x86_53, x86_59, x86_60, isF, isK, isH, mK, nl_i, nl_n, nl_o, nl_r, c1_i, c1_r, mPush, mRv, G0_1, true_and, and_true, and_self, implies_true, List.length_nil, List.length_cons, Nat.reduceAdd, Nat.reduceLeDiff, Nat.zero_le, beq_self_eq_true, Nat.reduceBEq, decide_true, Bool.and_self, reduceCtorEq, ne_eq, not_true_eq_false, not_false_eq_true, false_implies, true_implies, Nat.reduceLT, Nat.reduceEqDiff, or_true, true_or, or_false, false_or, or_self, Int.reduceEq, Int.reduceNe, Int.reduceLT, Int.reduceLE, Int.reduceAdd, Int.reduceSub, Int.reduceMul, Int.reduceNeg, Int.reduceToNat, if_true, if_false, Classical.not_not, Int.cast_ofNat_Int, kd176, kd177, kd178, kd179, kd180, kd181, kd182, kd183, kd184, kd185, kd186, kd187, kd188, kd189, kd190, kd191, kd192, kd193, kd194, rf176_1, rf176_2, rf176_4, rf176_5, rf176_6, rf176_8, rf176_9, rf176_10, rf176_11, rf176_12, rf176_13, rf176_14, rf176_16, rf176_17, rf176_18, rf176_19, rf176_20, rf176_23, mWr_of, Int.toNat_natCast, e6, ej, ej2, ct79, eK, eJ, p1, p3, p4, ek, ek2, ej3, ej4, n4, Int.lt_irrefl, Int.le_refl]
          rw [x86_56, eI, key 0 (Or.inr ⟨rfl, by omega⟩)]
          exact ih (j + 1) (by omega) _ rfl
      · have p1 : ¬ sT S k - sT S j = 0 := by omega
        have p2 : sT S k - sT S j ≤ 0 := by omega
        have p3 : ¬ 0 < sT S k - sT S j := by omega
        simp (disch := first | omega | exact rfl) only [x86_0, x86_1, x86_2, x86_3, x86_4, x86_5, x86_6, x86_9, x86_11, x86_12, x86_15, x86_16, x86_17, x86_18, x86_21, x86_22, x86_23, x86_24, x86_27, x86_28, x86_30, x86_31, x86_33, x86_36, x86_38, x86_41, x86_42, x86_43, x86_46, x86_47, x86_50, x86_51, x86_52, x86_53, x86_59, x86_60, isF, isK, isH, mK, nl_i, nl_n, nl_o, nl_r, c1_i, c1_r, mPush, mRv, G0_1, true_and, and_true, and_self, implies_true, List.length_nil, List.length_cons, Nat.reduceAdd, Nat.reduceLeDiff, Nat.zero_le, beq_self_eq_true, Nat.reduceBEq, decide_true, Bool.and_self, reduceCtorEq, ne_eq, not_true_eq_false, not_false_eq_true, false_implies, true_implies, Nat.reduceLT, Nat.reduceEqDiff, or_true, true_or, or_false, false_or, or_self, Int.reduceEq, Int.reduceNe, Int.reduceLT, Int.reduceLE, Int.reduceAdd, Int.reduceSub, Int.reduceMul, Int.reduceNeg, Int.reduceToNat, if_true, if_false, Classical.not_not, Int.cast_ofNat_Int, kd176, kd177, kd178, kd179, kd180, kd181, kd182, kd183, kd184, kd185, kd186, kd187, kd188, kd189, kd190, kd191, kd192, kd193, kd194, rf176_1, rf176_2, rf176_4, rf176_5, rf176_6, rf176_8, rf176_9, rf176_10, rf176_11, rf176_12, rf176_13, rf176_14, rf176_16, rf176_17, rf176_18, rf176_19, rf176_20, rf176_23, mWr_of, Int.toNat_natCast, e6, ej, ej2, ct79, eK, eJ, p1, p2, p3, ek, ek2, ej3, ej4, n4]
        rw [x86_56, eI, key 0 (Or.inr ⟨rfl, by omega⟩)]
        exact ih (j + 1) (by omega) _ rfl
theorem ct86 {μ : MU} (hS : RS μ S) (hw : wfR S) {N k : Nat} (hN : S 6 = N) (hk : k < N) (h : Q (some (.inl (cnt (sT S) k N))) G0 μ) : Wp E 86 0 [some (.inr (.inr (.inl 176))), some (.inl k), none, none, none] [] G0 μ Q := by
  simp (disch := first | omega | exact rfl) only [x86_0, x86_1, x86_2, x86_3, isF, isK, isH, mK, nl_i, nl_n, nl_o, nl_r, c1_i, c1_r, mPush, mRv, G0_1, true_and, and_true, and_self, implies_true, List.length_nil, List.length_cons, Nat.reduceAdd, Nat.reduceLeDiff, Nat.zero_le, beq_self_eq_true, Nat.reduceBEq, decide_true, Bool.and_self, reduceCtorEq, ne_eq, not_true_eq_false, not_false_eq_true, false_implies, true_implies, Nat.reduceLT, Nat.reduceEqDiff, or_true, true_or, or_false, false_or, or_self, Int.reduceEq, Int.reduceNe, Int.reduceLT, Int.reduceLE, Int.reduceAdd, Int.reduceSub, Int.reduceMul, Int.reduceNeg, Int.reduceToNat, if_true, if_false, Classical.not_not, Int.cast_ofNat_Int]
  exact zq86 hS hw hN hk h N 0 (by omega) _ rfl
def AF (μ0 μ : MU) (S : Row) (f r : Nat) : Prop := (∀ x, ¬ (189 ≤ x ∧ x ≤ 191) → μ x = μ0 x) ∧ (∀ i, ¬ (6 * f ≤ i ∧ i < 6 * f + r) → μ 189 i = μ0 189 i ∧ μ 190 i = μ0 190 i ∧ μ 191 i = μ0 191 i) ∧ (∀ i, i < r → μ 189 (6 * f + i) = S (24 + 9 * f) ∧ μ 190 (6 * f + i) = 0 ∧ μ 191 (6 * f + i) = 0)
theorem zq89a {μ0 : MU} {z : Int} (hS : RS μ0 S) {f : Nat} (hf : f < 5) (hQ : ∀ μ : MU, AF μ0 μ S f 6 → Wp E 89 79 [some (.inr (.inr (.inl 176))), some (.inl z), some (.inl f), some (.inl 6)] [] G0 μ Q) : ∀ (m r : Nat), r + m = 6 → ∀ μ : MU, AF μ0 μ S f r →
    Wp E 89 26 [some (.inr (.inr (.inl 176))), some (.inl z), some (.inl f), some (.inl r)] [] G0 μ Q := by
  intro m
  induction m with
  | zero =>
    intro r hr μ h
    have er : r = 6 := by omega
    subst er
    simp (disch := first | omega | exact rfl) only [x89_26, x89_27, x89_29, isF, isK, isH, mK, nl_i, nl_n, nl_o, nl_r, c1_i, c1_r, mPush, mRv, G0_1, true_and, and_true, and_self, implies_true, List.length_nil, List.length_cons, Nat.reduceAdd, Nat.reduceLeDiff, Nat.zero_le, beq_self_eq_true, Nat.reduceBEq, decide_true, Bool.and_self, reduceCtorEq, ne_eq, not_true_eq_false, not_false_eq_true, false_implies, true_implies, Nat.reduceLT, Nat.reduceEqDiff, or_true, true_or, or_false, false_or, or_self, Int.reduceEq, Int.reduceNe, Int.reduceLT, Int.reduceLE, Int.reduceAdd, Int.reduceSub, Int.reduceMul, Int.reduceNeg, Int.reduceToNat, if_true, if_false, Classical.not_not, Int.cast_ofNat_Int]
    exact hQ μ h
  | succ m ih =>
    intro r hr μ h
    have er : ¬ (6 : Int) ≤ r := by omega
    have er2 : (r : Int) < 6 := by omega
    have eO : μ 177 (23 + 9 * f + 1) = S (24 + 9 * f) := by
      rw [h.1 177 (by omega), hS.1 _ (by omega)]; congr 1; omega
    have ei : 6 * (f : Int) + (r : Int) = ((6 * f + r : Nat) : Int) := by omega
    have ei2 : ((6 * f + r : Nat) : Int) < 30 := by omega
    have ei3 : (0 : Int) ≤ ((6 * f + r : Nat) : Int) := by omega
    have ok0 : mOk 2 0 = true := rfl
    have eI : (r : Int) + 1 = ((r + 1 : Nat) : Int) := by omega
    simp (disch := first | omega | exact rfl) only [x89_0, x89_1, x89_2, x89_5, x89_6, x89_7, x89_8, x89_9, x89_12, x89_13, x89_14, x89_17, x89_18, x89_21, x89_22, x89_23, x89_24, x89_25, x89_26, x89_27, x89_29, x89_32, x89_33, x89_36, x89_38, x89_39, x89_40, x89_41, x89_42, x89_43, x89_44, x89_45, x89_48, x89_49, x89_50, x89_53, x89_55, x89_56, x89_57, x89_58, x89_59, x89_60, x89_61, x89_62, x89_65, x89_67, x89_68, x89_69, x89_70, x89_71, x89_72, x89_73, x89_82, x89_85, x89_86, x89_87, x89_88, x89_89, x89_92, x89_94, x89_95, x89_98, x89_99, x89_102, x89_103, x89_104, x89_107, x89_108, x89_109, x89_112, x89_115, x89_116, x89_117, x89_118, x89_119, x89_122, x89_124, x89_125, x89_128, x89_129, x89_130, x89_133, x89_134, x89_135, x89_138, x89_141, x89_144, isF, isK, isH, mK, nl_i, nl_n, nl_o, nl_r, c1_i, c1_r, mPush, mRv, G0_1, true_and, and_true, and_self, implies_true, List.length_nil, List.length_cons, Nat.reduceAdd, Nat.reduceLeDiff, Nat.zero_le, beq_self_eq_true, Nat.reduceBEq, decide_true, Bool.and_self, reduceCtorEq, ne_eq, not_true_eq_false, not_false_eq_true, false_implies, true_implies, Nat.reduceLT, Nat.reduceEqDiff, or_true, true_or, or_false, false_or, or_self, Int.reduceEq, Int.reduceNe, Int.reduceLT, Int.reduceLE, Int.reduceAdd, Int.reduceSub, Int.reduceMul, Int.reduceNeg, Int.reduceToNat, if_true, if_false, Classical.not_not, Int.cast_ofNat_Int, kd176, kd177, kd178, kd179, kd180, kd181, kd182, kd183, kd184, kd185, kd186, kd187, kd188, kd189, kd190, kd191, kd192, kd193, kd194, rf176_1, rf176_2, rf176_4, rf176_5, rf176_6, rf176_8, rf176_9, rf176_10, rf176_11, rf176_12, rf176_13, rf176_14, rf176_16, rf176_17, rf176_18, rf176_19, rf176_20, rf176_23, mWr_of, Int.toNat_natCast, er, er2, ct78, eO, ei, ei2, ei3, ok0, mUp_ne]
    rw [x89_76, eI]
    refine ih (r + 1) (by omega) _ ⟨?_, ?_, ?_⟩
    · intro x hx
      rw [mUp_ne (by omega), mUp_ne (by omega), mUp_ne (by omega)]; exact h.1 x hx
    · intro i hi
      simp (disch := omega) only [mUp_ne, mUp_nj]
      exact h.2.1 i (by omega)
    · intro i hi
      simp (disch := omega) only [mUp_ne, mUp_at]
      by_cases q : i = r
      · rw [if_pos (by omega), if_pos (by omega), if_pos (by omega)]; exact ⟨rfl, rfl, rfl⟩
      · rw [if_neg (by omega), if_neg (by omega), if_neg (by omega)]; exact h.2.2 i (by omega)
end RUNS
