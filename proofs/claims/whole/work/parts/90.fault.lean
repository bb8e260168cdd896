def oA (T : Nat → Int) (L : Nat) : Nat → Nat
  | 0 => 0
  | k + 1 => (oS T L (oA T L k)).2 + 1
/-- the text holds M orders, and nothing else -/
def GD (T : Nat → Int) (L M : Nat) : Prop := 1 ≤ M ∧ (∀ k, k < M → (oS T L (oA T L k)).1 = 1) ∧ (∀ k, k + 1 < M → (oS T L (oA T L k)).2 < L ∧ T (oS T L (oA T L k)).2 = 59) ∧ (oS T L (oA T L (M - 1))).2 = L
theorem GD_u {T : Nat → Int} {L M M' : Nat} (h : GD T L M) (h' : GD T L M') : M = M' := by
  by_cases q : M < M'
  · have a := h'.2.2.1 (M - 1) (by have := h.1; omega)
    have b := h.2.2.2
    omega
  · by_cases q2 : M' < M
    · have a := h.2.2.1 (M' - 1) (by have := h'.1; omega)
      have b := h'.2.2.2
      omega
    · omega
theorem oV_len {T : Nat → Int} {L p : Nat} : (oV T L p).length ≤ 4 := by
  unfold oV
  by_cases h : isL (T p)
  · exact vl_len _ (shx_l h) _
  · rw [shx_n h, vls_n]; decide
section FAU2
variable {E : ME} {Q : Option MV → MG → MU → Prop} {T : Nat → Int} {L : Nat}
theorem OT_fr {μ μ' : MU} {i k : Nat} (h : OT μ T L i (oA T L i)) (hi : i < k) (hf : ∀ j, j < 5 * k → μ' 194 j = μ 194 j) : OT μ' T L i (oA T L i) := by
  have hl := oV_len (T := T) (L := L) (p := oA T L i)
  exact ⟨by rw [hf _ (by omega)]; exact h.1, fun j hj => by rw [hf _ (by omega)]; exact h.2 j hj⟩
theorem zq134 (hL : L ≤ 80) (hT : ∀ i, i < L → 33 ≤ T i ∧ T i ≤ 126) {μ0 : MU} {R : Int}
    (hQ1 : ∀ (M : Nat) (μ' : MU), GD T L M → M ≤ 40 → RG μ0 μ' → μ' 176 24 = M → (∀ i, i < M → OT μ' T L i (oA T L i)) → R = -6 → Q (some (.inl (-6))) G0 μ') (hQ0 : ∀ μ' : MU, ¬ R = -6 → RG μ0 μ' → Q (some (.inl (R))) G0 μ') :
    ∀ (n k : Nat) (μ : MU), L + 1 ≤ n + 1 + oA T L k → 2 * k ≤ oA T L k → oA T L k ≤ L → R = rd T L (n + 1) (oA T L k) → (∀ i, i < k → (oS T L (oA T L i)).1 = 1 ∧ (oS T L (oA T L i)).2 < L ∧ T (oS T L (oA T L i)).2 = 59) → RG μ0 μ → RDp μ T L (oS T L (oA T L k)) → μ 176 24 = k + (oS T L (oA T L k)).1 → (∀ i, i < k → OT μ T L i (oA T L i)) → ((oS T L (oA T L k)).1 = 1 → OT μ T L k (oA T L k)) →
    Wp E 134 19 [some (.inr (.inr (.inl 176)))] [] G0 μ Q := by
  intro n
  induction n with
  | zero =>
    intro k μ h1 h2 h3 hr hg hG hP h24 ho hok
    have hb := oS_b (T := T) (L := L) h3
    have eA : oA T L k = L := by omega
    have eS : oS T L (oA T L k) = (0, oA T L k) := if_neg (fun z => by omega)
    have a4 := hP.2.2.2
    have a3 := hP.2.2.1
    simp only [rd] at hr
    rw [eS] at a4 a3 hr
    rw [if_neg (show ¬ ((0 : Int), oA T L k).1 = 1 by show ¬ (0 : Int) = 1; omega)] at hr
    simp (disch := first | omega | exact rfl) only [x134_19, x134_20, x134_23, x134_57, x134_58, x134_61, x134_69, x134_70, x134_73, isF, isK, isH, mK, nl_i, nl_n, nl_o, nl_r, c1_i, c1_r, mPush, mRv, G0_1, true_and, and_true, and_self, implies_true, List.length_nil, List.length_cons, Nat.reduceAdd, Nat.reduceLeDiff, Nat.zero_le, beq_self_eq_true, Nat.reduceBEq, decide_true, Bool.and_self, reduceCtorEq, ne_eq, not_true_eq_false, not_false_eq_true, false_implies, true_implies, Nat.reduceLT, Nat.reduceEqDiff, or_true, true_or, or_false, false_or, or_self, Int.reduceEq, Int.reduceNe, Int.reduceLT, Int.reduceLE, Int.reduceAdd, Int.reduceSub, Int.reduceMul, Int.reduceNeg, Int.reduceToNat, if_true, if_false, Classical.not_not, Int.cast_ofNat_Int, kd176, kd177, kd178, kd179, kd180, kd181, kd182, kd183, kd184, kd185, kd186, kd187, kd188, kd189, kd190, kd191, kd192, kd193, kd194, rf176_1, rf176_2, rf176_4, rf176_5, rf176_6, rf176_8, rf176_9, rf176_10, rf176_11, rf176_12, rf176_13, rf176_14, rf176_16, rf176_17, rf176_18, rf176_19, rf176_20, rf176_23, a4, a3]
    have hz := hQ0 μ (by rw [hr]; show ¬ ((oA T L k : Nat) : Int) = -6; omega) hG
    rw [hr] at hz
    exact hz
  | succ n ih =>
    intro k μ h1 h2 h3 hr hg hG hP h24 ho hok
    have hb := oS_b (T := T) (L := L) h3
    have a4 := hP.2.2.2
    have a3 := hP.2.2.1
    have aL := hP.1
    rw [rd] at hr
    by_cases q : (oS T L (oA T L k)).1 = 1
    · rw [if_pos q] at hr
      rw [q] at a4 h24
      by_cases z : (oS T L (oA T L k)).2 = L
      · rw [if_pos z] at hr
        have z1 : (L : Int) ≤ ((oS T L (oA T L k)).2 : Nat) := by omega
        have z2 : ¬ (((oS T L (oA T L k)).2 : Nat) : Int) < L := by omega
        simp (disch := first | omega | exact rfl) only [x134_19, x134_20, x134_23, x134_26, x134_27, x134_30, x134_31, x134_34, x134_57, x134_58, x134_61, x134_64, x134_66, x134_73, isF, isK, isH, mK, nl_i, nl_n, nl_o, nl_r, c1_i, c1_r, mPush, mRv, G0_1, true_and, and_true, and_self, implies_true, List.length_nil, List.length_cons, Nat.reduceAdd, Nat.reduceLeDiff, Nat.zero_le, beq_self_eq_true, Nat.reduceBEq, decide_true, Bool.and_self, reduceCtorEq, ne_eq, not_true_eq_false, not_false_eq_true, false_implies, true_implies, Nat.reduceLT, Nat.reduceEqDiff, or_true, true_or, or_false, false_or, or_self, Int.reduceEq, Int.reduceNe, Int.reduceLT, Int.reduceLE, Int.reduceAdd, Int.reduceSub, Int.reduceMul, Int.reduceNeg, Int.reduceToNat, if_true, if_false, Classical.not_not, Int.cast_ofNat_Int, kd176, kd177, kd178, kd179, kd180, kd181, kd182, kd183, kd184, kd185, kd186, kd187, kd188, kd189, kd190, kd191, kd192, kd193, kd194, rf176_1, rf176_2, rf176_4, rf176_5, rf176_6, rf176_8, rf176_9, rf176_10, rf176_11, rf176_12, rf176_13, rf176_14, rf176_16, rf176_17, rf176_18, rf176_19, rf176_20, rf176_23, a4, a3, aL, z1, z2]
        refine hQ1 (k + 1) μ ⟨by omega, fun i hi => ?_, fun i hi => ?_, ?_⟩ (by omega) hG (by rw [h24]; omega) (fun i hi => ?_) hr
        · by_cases w : i = k
          · rw [w]; exact q
          · exact (hg i (by omega)).1
        · exact (hg i (by omega)).2
        · rw [Nat.add_sub_cancel]; exact z
        · by_cases w : i = k
          · rw [w]; exact hok q
          · exact ho i (by omega)
      · rw [if_neg z] at hr
        have z1 : ¬ (L : Int) ≤ ((oS T L (oA T L k)).2 : Nat) := by omega
        have z2 : (((oS T L (oA T L k)).2 : Nat) : Int) < L := by omega
        simp (disch := first | omega | exact rfl) only [x134_19, x134_20, x134_23, x134_26, x134_27, x134_30, x134_31, x134_34, x134_37, x134_38, x134_40, isF, isK, isH, mK, nl_i, nl_n, nl_o, nl_r, c1_i, c1_r, mPush, mRv, G0_1, true_and, and_true, and_self, implies_true, List.length_nil, List.length_cons, Nat.reduceAdd, Nat.reduceLeDiff, Nat.zero_le, beq_self_eq_true, Nat.reduceBEq, decide_true, Bool.and_self, reduceCtorEq, ne_eq, not_true_eq_false, not_false_eq_true, false_implies, true_implies, Nat.reduceLT, Nat.reduceEqDiff, or_true, true_or, or_false, false_or, or_self, Int.reduceEq, Int.reduceNe, Int.reduceLT, Int.reduceLE, Int.reduceAdd, Int.reduceSub, Int.reduceMul, Int.reduceNeg, Int.reduceToNat, if_true, if_false, Classical.not_not, Int.cast_ofNat_Int, kd176, kd177, kd178, kd179, kd180, kd181, kd182, kd183, kd184, kd185, kd186, kd187, kd188, kd189, kd190, kd191, kd192, kd193, kd194, rf176_1, rf176_2, rf176_4, rf176_5, rf176_6, rf176_8, rf176_9, rf176_10, rf176_11, rf176_12, rf176_13, rf176_14, rf176_16, rf176_17, rf176_18, rf176_19, rf176_20, rf176_23, a4, a3, aL, z1, z2]
        refine ct130 hL (Or.inr q) (by omega) (by omega) hP (fun μ1 k1 k2 => ?_)
        have c1 := k2.2.2.1
        have c4 := k2.2.2.2
        have hG1 : RG μ0 μ1 := RG_tr hG ⟨fun x w1 w2 => k1.1 x w1, fun i w1 w2 w3 => k1.2 i w1 w2⟩
        by_cases y : (oS T L (oA T L k)).2 < L ∧ T (oS T L (oA T L k)).2 = 59
        · have e : stp T L 59 (oS T L (oA T L k)) = (1, oA T L (k + 1)) := by
            unfold stp
            rw [if_pos ⟨q, Or.inr ⟨by omega, y⟩⟩]
            unfold pNx; rw [if_neg (by omega)]; rfl
          rw [if_pos y] at hr
          rw [e] at k2 c1 c4
          have eA1 : oA T L (k + 1) = (oS T L (oA T L k)).2 + 1 := rfl
          simp (disch := first | omega | exact rfl) only [x134_43, x134_44, x134_47, x134_50, x134_51, isF, isK, isH, mK, nl_i, nl_n, nl_o, nl_r, c1_i, c1_r, mPush, mRv, G0_1, true_and, and_true, and_self, implies_true, List.length_nil, List.length_cons, Nat.reduceAdd, Nat.reduceLeDiff, Nat.zero_le, beq_self_eq_true, Nat.reduceBEq, decide_true, Bool.and_self, reduceCtorEq, ne_eq, not_true_eq_false, not_false_eq_true, false_implies, true_implies, Nat.reduceLT, Nat.reduceEqDiff, or_true, true_or, or_false, false_or, or_self, Int.reduceEq, Int.reduceNe, Int.reduceLT, Int.reduceLE, Int.reduceAdd, Int.reduceSub, Int.reduceMul, Int.reduceNeg, Int.reduceToNat, if_true, if_false, Classical.not_not, Int.cast_ofNat_Int, kd176, kd177, kd178, kd179, kd180, kd181, kd182, kd183, kd184, kd185, kd186, kd187, kd188, kd189, kd190, kd191, kd192, kd193, kd194, rf176_1, rf176_2, rf176_4, rf176_5, rf176_6, rf176_8, rf176_9, rf176_10, rf176_11, rf176_12, rf176_13, rf176_14, rf176_16, rf176_17, rf176_18, rf176_19, rf176_20, rf176_23, c4]
          refine ct133 hL hT (by omega) k2 (K := k + 1) (by omega) (by rw [k1.2 24 (by omega) (by omega), h24]; omega) (fun μ2 m1 m2 m3 m4 m5 => ?_)
          simp (disch := first | omega | exact rfl) only [x134_54, isF, isK, isH, mK, nl_i, nl_n, nl_o, nl_r, c1_i, c1_r, mPush, mRv, G0_1, true_and, and_true, and_self, implies_true, List.length_nil, List.length_cons, Nat.reduceAdd, Nat.reduceLeDiff, Nat.zero_le, beq_self_eq_true, Nat.reduceBEq, decide_true, Bool.and_self, reduceCtorEq, ne_eq, not_true_eq_false, not_false_eq_true, false_implies, true_implies, Nat.reduceLT, Nat.reduceEqDiff, or_true, true_or, or_false, false_or, or_self, Int.reduceEq, Int.reduceNe, Int.reduceLT, Int.reduceLE, Int.reduceAdd, Int.reduceSub, Int.reduceMul, Int.reduceNeg, Int.reduceToNat, if_true, if_false, Classical.not_not, Int.cast_ofNat_Int]
          have f194 : ∀ j, j < 5 * (k + 1) → μ2 194 j = μ 194 j := fun j hj => by rw [m4 j hj, k1.1 194 (by omega)]
          refine ih (k + 1) μ2 (by omega) (by omega) (by omega) (by rw [eA1]; exact hr) (fun i hi => ?_) (RG_tr hG1 m1) m2 m3 (fun i hi => ?_) m5
          · by_cases w : i = k
            · rw [w]; exact ⟨q, y⟩
            · exact hg i (by omega)
          · by_cases w : i = k
            · rw [w]; exact OT_fr (hok q) (by omega) f194
            · exact OT_fr (ho i (by omega)) (show i < k + 1 by omega) f194
        · have e : stp T L 59 (oS T L (oA T L k)) = (0, (oS T L (oA T L k)).2) := by
            unfold stp
            rw [if_neg (fun w => w.2.elim (fun v => by have := v.1; omega) (fun v => y v.2))]
          rw [if_neg y] at hr
          rw [e] at c1 c4
          have hz := hQ0 μ1 (by rw [hr]; omega) hG1
          rw [hr] at hz
          simp (disch := first | omega | exact rfl) only [x134_43, x134_44, x134_47, x134_19, x134_20, x134_23, x134_57, x134_58, x134_61, x134_69, x134_70, x134_73, isF, isK, isH, mK, nl_i, nl_n, nl_o, nl_r, c1_i, c1_r, mPush, mRv, G0_1, true_and, and_true, and_self, implies_true, List.length_nil, List.length_cons, Nat.reduceAdd, Nat.reduceLeDiff, Nat.zero_le, beq_self_eq_true, Nat.reduceBEq, decide_true, Bool.and_self, reduceCtorEq, ne_eq, not_true_eq_false, not_false_eq_true, false_implies, true_implies, Nat.reduceLT, Nat.reduceEqDiff, or_true, true_or, or_false, false_or, or_self, Int.reduceEq, Int.reduceNe, Int.reduceLT, Int.reduceLE, Int.reduceAdd, Int.reduceSub, Int.reduceMul, Int.reduceNeg, Int.reduceToNat, if_true, if_false, Classical.not_not, Int.cast_ofNat_Int, kd176, kd177, kd178, kd179, kd180, kd181, kd182, kd183, kd184, kd185, kd186, kd187, kd188, kd189, kd190, kd191, kd192, kd193, kd194, rf176_1, rf176_2, rf176_4, rf176_5, rf176_6, rf176_8, rf176_9, rf176_10, rf176_11, rf176_12, rf176_13, rf176_14, rf176_16, rf176_17, rf176_18, rf176_19, rf176_20, rf176_23, c4, c1]
          exact hz
    · rw [if_neg q] at hr
      have q0 : (oS T L (oA T L k)).1 = 0 := by rcases hb.2 with w | w; exact w; exact absurd w.1 q
      rw [q0] at a4
      have hz := hQ0 μ (by rw [hr]; omega) hG
      rw [hr] at hz
      simp (disch := first | omega | exact rfl) only [x134_19, x134_20, x134_23, x134_57, x134_58, x134_61, x134_69, x134_70, x134_73, isF, isK, isH, mK, nl_i, nl_n, nl_o, nl_r, c1_i, c1_r, mPush, mRv, G0_1, true_and, and_true, and_self, implies_true, List.length_nil, List.length_cons, Nat.reduceAdd, Nat.reduceLeDiff, Nat.zero_le, beq_self_eq_true, Nat.reduceBEq, decide_true, Bool.and_self, reduceCtorEq, ne_eq, not_true_eq_false, not_false_eq_true, false_implies, true_implies, Nat.reduceLT, Nat.reduceEqDiff, or_true, true_or, or_false, false_or, or_self, Int.reduceEq, Int.reduceNe, Int.reduceLT, Int.reduceLE, Int.reduceAdd, Int.reduceSub, Int.reduceMul, Int.reduceNeg, Int.reduceToNat, if_true, if_false, Classical.not_not, Int.cast_ofNat_Int, kd176, kd177, kd178, kd179, kd180, kd181, kd182, kd183, kd184, kd185, kd186, kd187, kd188, kd189, kd190, kd191, kd192, kd193, kd194, rf176_1, rf176_2, rf176_4, rf176_5, rf176_6, rf176_8, rf176_9, rf176_10, rf176_11, rf176_12, rf176_13, rf176_14, rf176_16, rf176_17, rf176_18, rf176_19, rf176_20, rf176_23, a4, a3]
      exact hz
theorem ct134 (hL : L ≤ 80) (hT : ∀ i, i < L → 33 ≤ T i ∧ T i ≤ 126) {μ0 : MU} (h7 : μ0 176 7 = L) (h181 : ∀ i, i < L → μ0 181 i = T i)
    (hQ1 : ∀ (M : Nat) (μ' : MU), GD T L M → M ≤ 40 → RG μ0 μ' → μ' 176 24 = M → (∀ i, i < M → OT μ' T L i (oA T L i)) → rd T L (L + 1) 0 = -6 → Q (some (.inl (-6))) G0 μ') (hQ0 : ∀ μ' : MU, ¬ rd T L (L + 1) 0 = -6 → RG μ0 μ' → Q (some (.inl (rd T L (L + 1) 0))) G0 μ') :
    Wp E 134 0 [some (.inr (.inr (.inl 176)))] [] G0 μ0 Q := by
  have ok1 : mOk 2 1 = true := rfl
  simp (disch := first | omega | exact rfl) only [x134_0, x134_1, x134_2, x134_5, x134_6, x134_7, x134_10, x134_11, x134_12, x134_15, x134_16, isF, isK, isH, mK, nl_i, nl_n, nl_o, nl_r, c1_i, c1_r, mPush, mRv, G0_1, true_and, and_true, and_self, implies_true, List.length_nil, List.length_cons, Nat.reduceAdd, Nat.reduceLeDiff, Nat.zero_le, beq_self_eq_true, Nat.reduceBEq, decide_true, Bool.and_self, reduceCtorEq, ne_eq, not_true_eq_false, not_false_eq_true, false_implies, true_implies, Nat.reduceLT, Nat.reduceEqDiff, or_true, true_or, or_false, false_or, or_self, Int.reduceEq, Int.reduceNe, Int.reduceLT, Int.reduceLE, Int.reduceAdd, Int.reduceSub, Int.reduceMul, Int.reduceNeg, Int.reduceToNat, if_true, if_false, Classical.not_not, Int.cast_ofNat_Int, kd176, kd177, kd178, kd179, kd180, kd181, kd182, kd183, kd184, kd185, kd186, kd187, kd188, kd189, kd190, kd191, kd192, kd193, kd194, rf176_1, rf176_2, rf176_4, rf176_5, rf176_6, rf176_8, rf176_9, rf176_10, rf176_11, rf176_12, rf176_13, rf176_14, rf176_16, rf176_17, rf176_18, rf176_19, rf176_20, rf176_23, ok1]
  have hG : RG μ0 (mUp (mUp (mUp μ0 176 21 0) 176 22 1) 176 24 0) := ⟨fun x z1 z2 => by rw [mUp_ne z1, mUp_ne z1, mUp_ne z1], fun i z1 z2 z3 => by rw [mUp_nj z3, mUp_nj z2, mUp_nj z1]⟩
  refine ct133 hL hT (p := 0) (K := 0) (by omega) ⟨by rw [mUp_nj (by omega), mUp_nj (by omega), mUp_nj (by omega)]; exact h7, fun i hi => by rw [mUp_ne (by omega), mUp_ne (by omega), mUp_ne (by omega)]; exact h181 i hi, by rw [mUp_nj (by omega), mUp_nj (by omega), mUp_eq]; rfl, by rw [mUp_nj (by omega), mUp_eq]⟩ (by omega) (by rw [mUp_eq]; rfl) (fun μ1 m1 m2 m3 m4 m5 => ?_)
  simp (disch := first | omega | exact rfl) only [isF, isK, isH, mK, nl_i, nl_n, nl_o, nl_r, c1_i, c1_r, mPush, mRv, G0_1, true_and, and_true, and_self, implies_true, List.length_nil, List.length_cons, Nat.reduceAdd, Nat.reduceLeDiff, Nat.zero_le, beq_self_eq_true, Nat.reduceBEq, decide_true, Bool.and_self, reduceCtorEq, ne_eq, not_true_eq_false, not_false_eq_true, false_implies, true_implies, Nat.reduceLT, Nat.reduceEqDiff, or_true, true_or, or_false, false_or, or_self, Int.reduceEq, Int.reduceNe, Int.reduceLT, Int.reduceLE, Int.reduceAdd, Int.reduceSub, Int.reduceMul, Int.reduceNeg, Int.reduceToNat, if_true, if_false, Classical.not_not, Int.cast_ofNat_Int]
  exact zq134 hL hT (R := rd T L (L + 1) 0) hQ1 hQ0 L 0 μ1 (by simp only [oA]; omega) (by omega) (by simp only [oA]; omega) rfl (fun i hi => by omega) (RG_tr hG m1) m2 m3 (fun i hi => by omega) m5
theorem op66 {μ : MU} (hI : INV μ) : OPS E 66 [] 135 [] μ := by
  obtain ⟨_, _, _, _, hp⟩ := id hI
  obtain ⟨L, hL⟩ := Int.eq_ofNat_of_zero_le hp.1.1
  have hL80 : L ≤ 80 := by have := hp.1.2; omega
  have hT : ∀ i, i < L → 33 ≤ μ 129 i ∧ μ 129 i ≤ 126 := fun i hi => (hp.2.2 i (by omega) (by omega)).2
  unfold OPS
  simp (disch := first | omega | exact rfl) only [x66_0, x66_1, x66_4, isF, isK, isH, mK, nl_i, nl_n, nl_o, nl_r, c1_i, c1_r, mPush, mRv, G0_1, true_and, and_true, and_self, implies_true, List.length_nil, List.length_cons, Nat.reduceAdd, Nat.reduceLeDiff, Nat.zero_le, beq_self_eq_true, Nat.reduceBEq, decide_true, Bool.and_self, reduceCtorEq, ne_eq, not_true_eq_false, not_false_eq_true, false_implies, true_implies, Nat.reduceLT, Nat.reduceEqDiff, or_true, true_or, or_false, false_or, or_self, Int.reduceEq, Int.reduceNe, Int.reduceLT, Int.reduceLE, Int.reduceAdd, Int.reduceSub, Int.reduceMul, Int.reduceNeg, Int.reduceToNat, if_true, if_false, Classical.not_not, Int.cast_ofNat_Int, kd0, rf0_0, rf0_1, rf0_2, rf0_3, rf0_4, rf0_5, rf0_6, rf0_7, rf0_8, kd128]
  refine ct20 hL80 hT hL (fun i hi => rfl) (fun μ1 k1 => ?_)
  simp (disch := first | omega | exact rfl) only [x66_7, isF, isK, isH, mK, nl_i, nl_n, nl_o, nl_r, c1_i, c1_r, mPush, mRv, G0_1, true_and, and_true, and_self, implies_true, List.length_nil, List.length_cons, Nat.reduceAdd, Nat.reduceLeDiff, Nat.zero_le, beq_self_eq_true, Nat.reduceBEq, decide_true, Bool.and_self, reduceCtorEq, ne_eq, not_true_eq_false, not_false_eq_true, false_implies, true_implies, Nat.reduceLT, Nat.reduceEqDiff, or_true, true_or, or_false, false_or, or_self, Int.reduceEq, Int.reduceNe, Int.reduceLT, Int.reduceLE, Int.reduceAdd, Int.reduceSub, Int.reduceMul, Int.reduceNeg, Int.reduceToNat, if_true, if_false, Classical.not_not, Int.cast_ofNat_Int]
  refine ⟨_, rfl, ?_⟩
  simp (disch := first | omega | exact rfl) only [x135_0, x135_1, x135_2, x135_5, x135_6, isF, isK, isH, mK, nl_i, nl_n, nl_o, nl_r, c1_i, c1_r, mPush, mRv, G0_1, true_and, and_true, and_self, implies_true, List.length_nil, List.length_cons, Nat.reduceAdd, Nat.reduceLeDiff, Nat.zero_le, beq_self_eq_true, Nat.reduceBEq, decide_true, Bool.and_self, reduceCtorEq, ne_eq, not_true_eq_false, not_false_eq_true, false_implies, true_implies, Nat.reduceLT, Nat.reduceEqDiff, or_true, true_or, or_false, false_or, or_self, Int.reduceEq, Int.reduceNe, Int.reduceLT, Int.reduceLE, Int.reduceAdd, Int.reduceSub, Int.reduceMul, Int.reduceNeg, Int.reduceToNat, if_true, if_false, Classical.not_not, Int.cast_ofNat_Int, kd176, kd177, kd178, kd179, kd180, kd181, kd182, kd183, kd184, kd185, kd186, kd187, kd188, kd189, kd190, kd191, kd192, kd193, kd194, rf176_1, rf176_2, rf176_4, rf176_5, rf176_6, rf176_8, rf176_9, rf176_10, rf176_11, rf176_12, rf176_13, rf176_14, rf176_16, rf176_17, rf176_18, rf176_19, rf176_20, rf176_23]
  have hI1 : INV μ1 := INV_fr hI ⟨fun x hx => k1.1 x (by omega) (by omega), k1.2, by rw [k1.1 176 (by omega) (by omega)], by rw [k1.1 176 (by omega) (by omega)]⟩
  have hfin : ∀ μ2 : MU, RG (mUp μ1 176 0 0) μ2 → INV μ2 := by
    intro μ2 m
    refine INV_fr hI1 ⟨fun x hx => by rw [m.1 x (by omega) (by omega), mUp_ne (by omega)], by rw [m.1 128 (by omega) (by omega), mUp_ne (by omega)], by rw [m.2 3 (by omega) (by omega) (by omega), mUp_nj (by omega)], by rw [m.2 7 (by omega) (by omega) (by omega), mUp_nj (by omega)]⟩
  refine ct134 (T := μ 129) hL80 hT (by rw [mUp_nj (by omega), k1.1 176 (by omega) (by omega), hp.2.1]; exact hL) (fun i hi => by rw [mUp_ne (by omega), k1.1 181 (by omega) (by omega)]; exact ((hp.2.2 i (by omega) (by omega)).1).symm) (fun M μ2 _ _ m _ _ hr => ?_) (fun μ2 _ m => ?_)
  · simp (disch := first | omega | exact rfl) only [x135_9, isF, isK, isH, mK, nl_i, nl_n, nl_o, nl_r, c1_i, c1_r, mPush, mRv, G0_1, true_and, and_true, and_self, implies_true, List.length_nil, List.length_cons, Nat.reduceAdd, Nat.reduceLeDiff, Nat.zero_le, beq_self_eq_true, Nat.reduceBEq, decide_true, Bool.and_self, reduceCtorEq, ne_eq, not_true_eq_false, not_false_eq_true, false_implies, true_implies, Nat.reduceLT, Nat.reduceEqDiff, or_true, true_or, or_false, false_or, or_self, Int.reduceEq, Int.reduceNe, Int.reduceLT, Int.reduceLE, Int.reduceAdd, Int.reduceSub, Int.reduceMul, Int.reduceNeg, Int.reduceToNat, if_true, if_false, Classical.not_not, Int.cast_ofNat_Int]
    rw [hr]
    exact ⟨rfl, hfin μ2 m⟩
  · simp (disch := first | omega | exact rfl) only [x135_9, isF, isK, isH, mK, nl_i, nl_n, nl_o, nl_r, c1_i, c1_r, mPush, mRv, G0_1, true_and, and_true, and_self, implies_true, List.length_nil, List.length_cons, Nat.reduceAdd, Nat.reduceLeDiff, Nat.zero_le, beq_self_eq_true, Nat.reduceBEq, decide_true, Bool.and_self, reduceCtorEq, ne_eq, not_true_eq_false, not_false_eq_true, false_implies, true_implies, Nat.reduceLT, Nat.reduceEqDiff, or_true, true_or, or_false, false_or, or_self, Int.reduceEq, Int.reduceNe, Int.reduceLT, Int.reduceLE, Int.reduceAdd, Int.reduceSub, Int.reduceMul, Int.reduceNeg, Int.reduceToNat, if_true, if_false, Classical.not_not, Int.cast_ofNat_Int]
    exact hfin μ2 m
end FAU2
