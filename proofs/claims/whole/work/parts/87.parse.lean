section FAU
variable {E : ME} {Q : Option MV → MG → MU → Prop} {T : Nat → Int} {L : Nat}
theorem zq20 (hL : L ≤ 80) (hT : ∀ i, i < L → 33 ≤ T i ∧ T i ≤ 126) {μ0 : MU} : ∀ (n p ch : Nat) (μ : MU), L + 1 ≤ n + p → 2 * ch ≤ p → p ≤ L → PG μ0 μ → PD μ T L p → (∀ μ' : MU, PG μ0 μ' → Q (some (.inl (rd T L n p))) G0 μ') →
    Wp E 20 7 [some (.inr (.inr (.inl 128))), some (.inl ch)] [] G0 μ Q := by
  intro n
  induction n with
  | zero => intro p ch μ h1 h2 h3; omega
  | succ n ih =>
    intro p ch μ h1 h2 h3 hG hP hQ
    have e1 : ¬ (80 : Int) ≤ ch := by omega
    have e2 : (ch : Int) < 80 := by omega
    have eI : (ch : Int) + 1 = ((ch + 1 : Nat) : Int) := by omega
    have hb := oS_b (T := T) (L := L) h3
    simp only [rd] at hQ
    simp (disch := first | omega | exact rfl) only [x20_7, x20_8, x20_10, x20_13, x20_14, isF, isK, isH, mK, nl_i, nl_n, nl_o, nl_r, c1_i, c1_r, mPush, mRv, G0_1, true_and, and_true, and_self, implies_true, List.length_nil, List.length_cons, Nat.reduceAdd, Nat.reduceLeDiff, Nat.zero_le, beq_self_eq_true, Nat.reduceBEq, decide_true, Bool.and_self, reduceCtorEq, ne_eq, not_true_eq_false, not_false_eq_true, false_implies, true_implies, Nat.reduceLT, Nat.reduceEqDiff, or_true, true_or, or_false, false_or, or_self, Int.reduceEq, Int.reduceNe, Int.reduceLT, Int.reduceLE, Int.reduceAdd, Int.reduceSub, Int.reduceMul, Int.reduceNeg, Int.reduceToNat, if_true, if_false, Classical.not_not, Int.cast_ofNat_Int, kd128, kd129, kd130, rf128_0, rf128_1, e1, e2]
    refine ct21 hL hT hP (fun q μ1 k1 k2 _ _ _ => ?_) (fun q μ1 k1 k2 => ?_)
    · rw [if_pos q] at hQ
      have a2 := k2.1
      have a3 := k2.2.2
      by_cases z : (oS T L p).2 = L
      · have z2 : (((oS T L p).2 : Nat) : Int) = L := by omega
        rw [if_pos z] at hQ
        simp (disch := first | omega | exact rfl) only [x20_17, x20_20, x20_21, x20_24, x20_25, x20_28, x20_31, x20_33, isF, isK, isH, mK, nl_i, nl_n, nl_o, nl_r, c1_i, c1_r, mPush, mRv, G0_1, true_and, and_true, and_self, implies_true, List.length_nil, List.length_cons, Nat.reduceAdd, Nat.reduceLeDiff, Nat.zero_le, beq_self_eq_true, Nat.reduceBEq, decide_true, Bool.and_self, reduceCtorEq, ne_eq, not_true_eq_false, not_false_eq_true, false_implies, true_implies, Nat.reduceLT, Nat.reduceEqDiff, or_true, true_or, or_false, false_or, or_self, Int.reduceEq, Int.reduceNe, Int.reduceLT, Int.reduceLE, Int.reduceAdd, Int.reduceSub, Int.reduceMul, Int.reduceNeg, Int.reduceToNat, if_true, if_false, Classical.not_not, Int.cast_ofNat_Int, kd128, kd129, kd130, rf128_0, rf128_1, a2, a3, z2]
        exact hQ μ1 (PG_tr hG k1)
      · have z2 : ¬ (((oS T L p).2 : Nat) : Int) = L := by omega
        rw [if_neg z] at hQ
        simp (disch := first | omega | exact rfl) only [x20_17, x20_20, x20_21, x20_24, x20_25, x20_28, x20_34, x20_35, x20_37, isF, isK, isH, mK, nl_i, nl_n, nl_o, nl_r, c1_i, c1_r, mPush, mRv, G0_1, true_and, and_true, and_self, implies_true, List.length_nil, List.length_cons, Nat.reduceAdd, Nat.reduceLeDiff, Nat.zero_le, beq_self_eq_true, Nat.reduceBEq, decide_true, Bool.and_self, reduceCtorEq, ne_eq, not_true_eq_false, not_false_eq_true, false_implies, true_implies, Nat.reduceLT, Nat.reduceEqDiff, or_true, true_or, or_false, false_or, or_self, Int.reduceEq, Int.reduceNe, Int.reduceLT, Int.reduceLE, Int.reduceAdd, Int.reduceSub, Int.reduceMul, Int.reduceNeg, Int.reduceToNat, if_true, if_false, Classical.not_not, Int.cast_ofNat_Int, kd128, kd129, kd130, rf128_0, rf128_1, a2, a3, z2]
        refine ct25 hL k2 (fun y => ?_) (fun y => ?_)
        · rw [if_pos y] at hQ
          simp (disch := first | omega | exact rfl) only [x20_40, x20_48, isF, isK, isH, mK, nl_i, nl_n, nl_o, nl_r, c1_i, c1_r, mPush, mRv, G0_1, true_and, and_true, and_self, implies_true, List.length_nil, List.length_cons, Nat.reduceAdd, Nat.reduceLeDiff, Nat.zero_le, beq_self_eq_true, Nat.reduceBEq, decide_true, Bool.and_self, reduceCtorEq, ne_eq, not_true_eq_false, not_false_eq_true, false_implies, true_implies, Nat.reduceLT, Nat.reduceEqDiff, or_true, true_or, or_false, false_or, or_self, Int.reduceEq, Int.reduceNe, Int.reduceLT, Int.reduceLE, Int.reduceAdd, Int.reduceSub, Int.reduceMul, Int.reduceNeg, Int.reduceToNat, if_true, if_false, Classical.not_not, Int.cast_ofNat_Int, mWr_of]
          rw [x20_51, eI]
          exact ih ((oS T L p).2 + 1) (ch + 1) _ (by omega) (by omega) (by omega) (PG_tr (PG_tr hG k1) ⟨fun x w1 w2 => mUp_ne w1, mUp_nj (by omega)⟩) (PD_at k2) hQ
        · rw [if_neg y] at hQ
          simp (disch := first | omega | exact rfl) only [x20_40, x20_43, x20_44, x20_47, isF, isK, isH, mK, nl_i, nl_n, nl_o, nl_r, c1_i, c1_r, mPush, mRv, G0_1, true_and, and_true, and_self, implies_true, List.length_nil, List.length_cons, Nat.reduceAdd, Nat.reduceLeDiff, Nat.zero_le, beq_self_eq_true, Nat.reduceBEq, decide_true, Bool.and_self, reduceCtorEq, ne_eq, not_true_eq_false, not_false_eq_true, false_implies, true_implies, Nat.reduceLT, Nat.reduceEqDiff, or_true, true_or, or_false, false_or, or_self, Int.reduceEq, Int.reduceNe, Int.reduceLT, Int.reduceLE, Int.reduceAdd, Int.reduceSub, Int.reduceMul, Int.reduceNeg, Int.reduceToNat, if_true, if_false, Classical.not_not, Int.cast_ofNat_Int, kd128, kd129, kd130, rf128_0, rf128_1, a3]
          exact hQ μ1 (PG_tr hG k1)
    · rw [if_neg q] at hQ
      have a3 := k2.2.2
      simp (disch := first | omega | exact rfl) only [x20_17, x20_54, x20_55, x20_58, isF, isK, isH, mK, nl_i, nl_n, nl_o, nl_r, c1_i, c1_r, mPush, mRv, G0_1, true_and, and_true, and_self, implies_true, List.length_nil, List.length_cons, Nat.reduceAdd, Nat.reduceLeDiff, Nat.zero_le, beq_self_eq_true, Nat.reduceBEq, decide_true, Bool.and_self, reduceCtorEq, ne_eq, not_true_eq_false, not_false_eq_true, false_implies, true_implies, Nat.reduceLT, Nat.reduceEqDiff, or_true, true_or, or_false, false_or, or_self, Int.reduceEq, Int.reduceNe, Int.reduceLT, Int.reduceLE, Int.reduceAdd, Int.reduceSub, Int.reduceMul, Int.reduceNeg, Int.reduceToNat, if_true, if_false, Classical.not_not, Int.cast_ofNat_Int, kd128, kd129, kd130, rf128_0, rf128_1, a3]
      exact hQ μ1 (PG_tr hG k1)
theorem ct20 (hL : L ≤ 80) (hT : ∀ i, i < L → 33 ≤ T i ∧ T i ≤ 126) {μ : MU} (h2 : μ 128 2 = L) (h129 : ∀ i, i < L → μ 129 i = T i) (hQ : ∀ μ' : MU, PG μ μ' → Q (some (.inl (rd T L (L + 1) 0))) G0 μ') :
    Wp E 20 0 [some (.inr (.inr (.inl 128))), none] [] G0 μ Q := by
  simp (disch := first | omega | exact rfl) only [x20_0, x20_1, x20_2, x20_5, x20_6, isF, isK, isH, mK, nl_i, nl_n, nl_o, nl_r, c1_i, c1_r, mPush, mRv, G0_1, true_and, and_true, and_self, implies_true, List.length_nil, List.length_cons, Nat.reduceAdd, Nat.reduceLeDiff, Nat.zero_le, beq_self_eq_true, Nat.reduceBEq, decide_true, Bool.and_self, reduceCtorEq, ne_eq, not_true_eq_false, not_false_eq_true, false_implies, true_implies, Nat.reduceLT, Nat.reduceEqDiff, or_true, true_or, or_false, false_or, or_self, Int.reduceEq, Int.reduceNe, Int.reduceLT, Int.reduceLE, Int.reduceAdd, Int.reduceSub, Int.reduceMul, Int.reduceNeg, Int.reduceToNat, if_true, if_false, Classical.not_not, Int.cast_ofNat_Int, kd128, kd129, kd130, rf128_0, rf128_1]
  refine zq20 hL hT (μ0 := μ) (L + 1) 0 0 _ (by omega) (by omega) (by omega) ⟨fun x w1 w2 => mUp_ne w1, mUp_nj (by omega)⟩ ⟨by rw [mUp_nj (by omega)]; exact h2, fun i hi => by rw [mUp_ne (by omega)]; exact h129 i hi, mUp_eq⟩ hQ
def RDp (μ : MU) (T : Nat → Int) (L : Nat) (s : Int × Nat) : Prop := μ 176 7 = L ∧ (∀ i, i < L → μ 181 i = T i) ∧ μ 176 21 = s.2 ∧ μ 176 22 = s.1
def RF (μ μ' : MU) : Prop := (∀ x, ¬ x = 176 → μ' x = μ x) ∧ (∀ i, ¬ i = 21 → ¬ i = 22 → μ' 176 i = μ 176 i)
theorem RF_tr {a b c : MU} (h1 : RF a b) (h2 : RF b c) : RF a c := ⟨fun x z => (h2.1 x z).trans (h1.1 x z), fun i z1 z2 => (h2.2 i z1 z2).trans (h1.2 i z1 z2)⟩
def sgn (T : Nat → Int) (L p : Nat) : Int := if p < L then T p else 0
theorem ct129 (hL : L ≤ 80) {μ : MU} {s : Int × Nat} (hP : RDp μ T L s) : Wp E 129 0 [some (.inr (.inr (.inl 176)))] [] G0 μ Q = Q (some (.inl (sgn T L s.2))) G0 μ := by
  obtain ⟨a1, a2, a3, a4⟩ := hP
  unfold sgn
  by_cases q1 : s.2 < L
  · have q2 : ¬ (L : Int) ≤ s.2 := by omega
    have q3 : (s.2 : Int) < L := by omega
    have q4 : (s.2 : Int) < 80 := by omega
    have q5 : (0 : Int) ≤ s.2 := by omega
    have e := a2 s.2 q1
    rw [if_pos q1]
    simp (disch := first | omega | exact rfl) only [x129_0, x129_1, x129_4, x129_5, x129_8, x129_11, x129_12, x129_15, x129_16, x129_19, x129_20, x129_23, x129_24, isF, isK, isH, mK, nl_i, nl_n, nl_o, nl_r, c1_i, c1_r, mPush, mRv, G0_1, true_and, and_true, and_self, implies_true, List.length_nil, List.length_cons, Nat.reduceAdd, Nat.reduceLeDiff, Nat.zero_le, beq_self_eq_true, Nat.reduceBEq, decide_true, Bool.and_self, reduceCtorEq, ne_eq, not_true_eq_false, not_false_eq_true, false_implies, true_implies, Nat.reduceLT, Nat.reduceEqDiff, or_true, true_or, or_false, false_or, or_self, Int.reduceEq, Int.reduceNe, Int.reduceLT, Int.reduceLE, Int.reduceAdd, Int.reduceSub, Int.reduceMul, Int.reduceNeg, Int.reduceToNat, if_true, if_false, Classical.not_not, Int.cast_ofNat_Int, kd176, kd177, kd178, kd179, kd180, kd181, kd182, kd183, kd184, kd185, kd186, kd187, kd188, kd189, kd190, kd191, kd192, kd193, kd194, rf176_1, rf176_2, rf176_4, rf176_5, rf176_6, rf176_8, rf176_9, rf176_10, rf176_11, rf176_12, rf176_13, rf176_14, rf176_16, rf176_17, rf176_18, rf176_19, rf176_20, rf176_23, a1, a3, e, q2, q3, q4, q5, Int.toNat_natCast]
  · have q2 : (L : Int) ≤ s.2 := by omega
    have q3 : ¬ (s.2 : Int) < L := by omega
    rw [if_neg q1]
    simp (disch := first | omega | exact rfl) only [x129_0, x129_1, x129_4, x129_5, x129_8, x129_11, x129_12, x129_15, x129_16, x129_19, x129_20, x129_23, x129_24, isF, isK, isH, mK, nl_i, nl_n, nl_o, nl_r, c1_i, c1_r, mPush, mRv, G0_1, true_and, and_true, and_self, implies_true, List.length_nil, List.length_cons, Nat.reduceAdd, Nat.reduceLeDiff, Nat.zero_le, beq_self_eq_true, Nat.reduceBEq, decide_true, Bool.and_self, reduceCtorEq, ne_eq, not_true_eq_false, not_false_eq_true, false_implies, true_implies, Nat.reduceLT, Nat.reduceEqDiff, or_true, true_or, or_false, false_or, or_self, Int.reduceEq, Int.reduceNe, Int.reduceLT, Int.reduceLE, Int.reduceAdd, Int.reduceSub, Int.reduceMul, Int.reduceNeg, Int.reduceToNat, if_true, if_false, Classical.not_not, Int.cast_ofNat_Int, kd176, kd177, kd178, kd179, kd180, kd181, kd182, kd183, kd184, kd185, kd186, kd187, kd188, kd189, kd190, kd191, kd192, kd193, kd194, rf176_1, rf176_2, rf176_4, rf176_5, rf176_6, rf176_8, rf176_9, rf176_10, rf176_11, rf176_12, rf176_13, rf176_14, rf176_16, rf176_17, rf176_18, rf176_19, rf176_20, rf176_23, a1, a3, q2, q3]
theorem RDp_up {μ : MU} {s : Int × Nat} {w p : Int} {s' : Int × Nat} (hP : RDp μ T L s) (hw : w = s'.1) (hp : p = s'.2) : RDp (mUp (mUp μ 176 22 w) 176 21 p) T L s' :=
  ⟨by rw [mUp_nj (by omega), mUp_nj (by omega)]; exact hP.1, fun i hi => by rw [mUp_ne (by omega), mUp_ne (by omega)]; exact hP.2.1 i hi, by rw [mUp_eq]; exact hp, by rw [mUp_nj (by omega), mUp_eq]; exact hw⟩
theorem RF_up {μ : MU} {w p : Int} : RF μ (mUp (mUp μ 176 22 w) 176 21 p) :=
  ⟨fun x z => by rw [mUp_ne z, mUp_ne z], fun i z1 z2 => by rw [mUp_nj z1, mUp_nj z2]⟩
theorem RDp_w {μ : MU} {s : Int × Nat} {w : Int} (hP : RDp μ T L s) : RDp (mUp μ 176 22 w) T L (w, s.2) :=
  ⟨by rw [mUp_nj (by omega)]; exact hP.1, fun i hi => by rw [mUp_ne (by omega)]; exact hP.2.1 i hi, by rw [mUp_nj (by omega)]; exact hP.2.2.1, mUp_eq⟩
theorem ct130 (hL : L ≤ 80) {μ : MU} {s : Int × Nat} {c : Int} (hs : s.1 = 0 ∨ s.1 = 1) (hp : s.2 ≤ L) (hc : ¬ isN c ∧ ¬ c = 0) (hP : RDp μ T L s) (hQ : ∀ μ' : MU, RF μ μ' → RDp μ' T L (stp T L c s) → Q none G0 μ') :
    Wp E 130 0 [some (.inr (.inr (.inl 176))), some (.inl c)] [] G0 μ Q := by
  obtain ⟨a1, a2, a3, a4⟩ := id hP
  have ok0 : mOk 2 0 = true := rfl
  have ok1 : mOk 2 1 = true := rfl
  have e21 : ∀ w, (mUp μ 176 22 w) 176 21 = s.2 := fun w => by rw [mUp_nj (by omega)]; exact a3
  rcases hs with z | z
  · rw [z] at a4
    have e : stp T L c s = (0, s.2) := by unfold stp; rw [if_neg (fun y => by rw [z] at y; omega)]
    rw [e] at hQ
    simp (disch := first | omega | exact rfl) only [x130_0, x130_1, x130_2, x130_5, x130_8, x130_9, x130_12, x130_13, x130_16, x130_17, x130_20, x130_21, x130_24, x130_25, x130_26, x130_29, x130_30, x130_33, x130_36, x130_37, x130_40, x130_41, x130_42, x130_45, isF, isK, isH, mK, nl_i, nl_n, nl_o, nl_r, c1_i, c1_r, mPush, mRv, G0_1, true_and, and_true, and_self, implies_true, List.length_nil, List.length_cons, Nat.reduceAdd, Nat.reduceLeDiff, Nat.zero_le, beq_self_eq_true, Nat.reduceBEq, decide_true, Bool.and_self, reduceCtorEq, ne_eq, not_true_eq_false, not_false_eq_true, false_implies, true_implies, Nat.reduceLT, Nat.reduceEqDiff, or_true, true_or, or_false, false_or, or_self, Int.reduceEq, Int.reduceNe, Int.reduceLT, Int.reduceLE, Int.reduceAdd, Int.reduceSub, Int.reduceMul, Int.reduceNeg, Int.reduceToNat, if_true, if_false, Classical.not_not, Int.cast_ofNat_Int, kd176, kd177, kd178, kd179, kd180, kd181, kd182, kd183, kd184, kd185, kd186, kd187, kd188, kd189, kd190, kd191, kd192, kd193, kd194, rf176_1, rf176_2, rf176_4, rf176_5, rf176_6, rf176_8, rf176_9, rf176_10, rf176_11, rf176_12, rf176_13, rf176_14, rf176_16, rf176_17, rf176_18, rf176_19, rf176_20, rf176_23, a4, e21, ok0, ok1, mUp_eq, mWr_of, Int.add_zero]
    exact hQ _ RF_up (RDp_up hP rfl rfl)
  · rw [z] at a4
    by_cases y : s.2 < L ∧ T s.2 = c
    · have es : sgn T L s.2 = c := by unfold sgn; rw [if_pos y.1]; exact y.2
      have e : stp T L c s = (1, s.2 + 1) := by
        unfold stp
        rw [if_pos ⟨z, Or.inr ⟨hc.1, y⟩⟩]
        unfold pNx; rw [if_neg (fun w => hc.1 (Or.inr w))]
      rw [e] at hQ
      simp (disch := first | omega | exact rfl) only [x130_0, x130_1, x130_2, x130_5, x130_8, x130_9, x130_12, x130_13, x130_16, x130_17, x130_20, x130_21, x130_24, x130_25, x130_26, x130_29, x130_30, x130_33, x130_36, x130_37, x130_40, x130_41, x130_42, x130_45, isF, isK, isH, mK, nl_i, nl_n, nl_o, nl_r, c1_i, c1_r, mPush, mRv, G0_1, true_and, and_true, and_self, implies_true, List.length_nil, List.length_cons, Nat.reduceAdd, Nat.reduceLeDiff, Nat.zero_le, beq_self_eq_true, Nat.reduceBEq, decide_true, Bool.and_self, reduceCtorEq, ne_eq, not_true_eq_false, not_false_eq_true, false_implies, true_implies, Nat.reduceLT, Nat.reduceEqDiff, or_true, true_or, or_false, false_or, or_self, Int.reduceEq, Int.reduceNe, Int.reduceLT, Int.reduceLE, Int.reduceAdd, Int.reduceSub, Int.reduceMul, Int.reduceNeg, Int.reduceToNat, if_true, if_false, Classical.not_not, Int.cast_ofNat_Int, kd176, kd177, kd178, kd179, kd180, kd181, kd182, kd183, kd184, kd185, kd186, kd187, kd188, kd189, kd190, kd191, kd192, kd193, kd194, rf176_1, rf176_2, rf176_4, rf176_5, rf176_6, rf176_8, rf176_9, rf176_10, rf176_11, rf176_12, rf176_13, rf176_14, rf176_16, rf176_17, rf176_18, rf176_19, rf176_20, rf176_23, a4, ct129 hL hP, es, e21, ok0, ok1, mUp_eq, mWr_of]
      exact hQ _ RF_up (RDp_up hP rfl (by show (s.2 : Int) + 1 = ((s.2 + 1 : Nat) : Int); omega))
    · have es : ¬ sgn T L s.2 = c := by
        unfold sgn
        by_cases w : s.2 < L
        · rw [if_pos w]; exact fun v => y ⟨w, v⟩
        · rw [if_neg w]; exact fun v => hc.2 v.symm
      have e : stp T L c s = (0, s.2) := by
        unfold stp
        rw [if_neg (fun w => w.2.elim (fun v => hc.1 v.1) (fun v => y v.2))]
      rw [e] at hQ
      simp (disch := first | omega | exact rfl) only [x130_0, x130_1, x130_2, x130_5, x130_8, x130_9, x130_12, x130_13, x130_16, x130_17, x130_20, x130_21, x130_24, x130_25, x130_26, x130_29, x130_30, x130_33, x130_36, x130_37, x130_40, x130_41, x130_42, x130_45, isF, isK, isH, mK, nl_i, nl_n, nl_o, nl_r, c1_i, c1_r, mPush, mRv, G0_1, true_and, and_true, and_self, implies_true, List.length_nil, List.length_cons, Nat.reduceAdd, Nat.reduceLeDiff, Nat.zero_le, beq_self_eq_true, Nat.reduceBEq, decide_true, Bool.and_self, reduceCtorEq, ne_eq, not_true_eq_false, not_false_eq_true, false_implies, true_implies, Nat.reduceLT, Nat.reduceEqDiff, or_true, true_or, or_false, false_or, or_self, Int.reduceEq, Int.reduceNe, Int.reduceLT, Int.reduceLE, Int.reduceAdd, Int.reduceSub, Int.reduceMul, Int.reduceNeg, Int.reduceToNat, if_true, if_false, Classical.not_not, Int.cast_ofNat_Int, kd176, kd177, kd178, kd179, kd180, kd181, kd182, kd183, kd184, kd185, kd186, kd187, kd188, kd189, kd190, kd191, kd192, kd193, kd194, rf176_1, rf176_2, rf176_4, rf176_5, rf176_6, rf176_8, rf176_9, rf176_10, rf176_11, rf176_12, rf176_13, rf176_14, rf176_16, rf176_17, rf176_18, rf176_19, rf176_20, rf176_23, a4, ct129 hL hP, es, e21, ok0, ok1, mUp_eq, mWr_of, Int.add_zero]
      exact hQ _ RF_up (RDp_up hP rfl rfl)
theorem sgn_b (hT : ∀ i, i < L → 33 ≤ T i ∧ T i ≤ 126) (p : Nat) : 0 ≤ sgn T L p ∧ sgn T L p ≤ 126 := by
  unfold sgn
  by_cases q : p < L
  · rw [if_pos q]; have := hT p q; omega
  · rw [if_neg q]; omega
theorem sgn_d {p : Nat} : (48 ≤ sgn T L p ∧ sgn T L p ≤ 57) ↔ dig T L p := by
  unfold sgn
  by_cases q : p < L
  · rw [if_pos q]; exact ⟨fun z => ⟨q, z⟩, fun z => z.2⟩
  · rw [if_neg q]; exact ⟨fun z => by omega, fun z => absurd z.1 q⟩
theorem ct131 (hL : L ≤ 80) (hT : ∀ i, i < L → 33 ≤ T i ∧ T i ≤ 126) {μ : MU} {s : Int × Nat} (hs : s.1 = 0 ∨ s.1 = 1) (hp : s.2 ≤ L) (hP : RDp μ T L s)
    (hQ : ∀ (μ' : MU) (v : Int), RF μ μ' → (s.1 = 1 ∧ dig T L s.2 → v = T s.2 - 48 ∧ RDp μ' T L (1, s.2 + 1)) → (¬ (s.1 = 1 ∧ dig T L s.2) → RDp μ' T L (0, s.2)) → Q (some (.inl v)) G0 μ') :
    Wp E 131 0 [some (.inr (.inr (.inl 176))), none] [] G0 μ Q := by
  obtain ⟨a1, a2, a3, a4⟩ := id hP
  have ok0 : mOk 2 0 = true := rfl
  have ok1 : mOk 2 1 = true := rfl
  have sb := sgn_b hT s.2
  have e21 : ∀ w, (mUp μ 176 22 w) 176 21 = s.2 := fun w => by rw [mUp_nj (by omega)]; exact a3
  rcases hs with z | z
  · rw [z] at a4
    simp (disch := first | omega | exact rfl) only [x131_0, x131_1, x131_2, x131_5, x131_8, x131_9, x131_12, x131_14, x131_16, x131_19, x131_22, x131_23, x131_26, x131_27, x131_30, x131_31, x131_34, x131_36, x131_37, x131_38, x131_39, x131_40, x131_43, x131_44, x131_47, x131_50, x131_51, x131_54, x131_55, x131_56, x131_59, x131_60, isF, isK, isH, mK, nl_i, nl_n, nl_o, nl_r, c1_i, c1_r, mPush, mRv, G0_1, true_and, and_true, and_self, implies_true, List.length_nil, List.length_cons, Nat.reduceAdd, Nat.reduceLeDiff, Nat.zero_le, beq_self_eq_true, Nat.reduceBEq, decide_true, Bool.and_self, reduceCtorEq, ne_eq, not_true_eq_false, not_false_eq_true, false_implies, true_implies, Nat.reduceLT, Nat.reduceEqDiff, or_true, true_or, or_false, false_or, or_self, Int.reduceEq, Int.reduceNe, Int.reduceLT, Int.reduceLE, Int.reduceAdd, Int.reduceSub, Int.reduceMul, Int.reduceNeg, Int.reduceToNat, if_true, if_false, Classical.not_not, Int.cast_ofNat_Int, kd176, kd177, kd178, kd179, kd180, kd181, kd182, kd183, kd184, kd185, kd186, kd187, kd188, kd189, kd190, kd191, kd192, kd193, kd194, rf176_1, rf176_2, rf176_4, rf176_5, rf176_6, rf176_8, rf176_9, rf176_10, rf176_11, rf176_12, rf176_13, rf176_14, rf176_16, rf176_17, rf176_18, rf176_19, rf176_20, rf176_23, a4, ct129 hL (RDp_w hP), e21, ok0, ok1, mUp_eq, mWr_of, Int.add_zero]
    exact hQ _ _ RF_up (fun y => by omega) (fun _ => RDp_up hP rfl rfl)
  · rw [z] at a4
    by_cases y : dig T L s.2
    · have ec := sgn_d.mpr y
      have es : sgn T L s.2 = T s.2 := if_pos y.1
      simp (disch := first | omega | exact rfl) only [x131_0, x131_1, x131_2, x131_5, x131_8, x131_9, x131_12, x131_14, x131_16, x131_19, x131_22, x131_23, x131_26, x131_27, x131_30, x131_31, x131_34, x131_36, x131_37, x131_38, x131_39, x131_40, x131_43, x131_44, x131_47, x131_50, x131_51, x131_54, x131_55, x131_56, x131_59, x131_60, isF, isK, isH, mK, nl_i, nl_n, nl_o, nl_r, c1_i, c1_r, mPush, mRv, G0_1, true_and, and_true, and_self, implies_true, List.length_nil, List.length_cons, Nat.reduceAdd, Nat.reduceLeDiff, Nat.zero_le, beq_self_eq_true, Nat.reduceBEq, decide_true, Bool.and_self, reduceCtorEq, ne_eq, not_true_eq_false, not_false_eq_true, false_implies, true_implies, Nat.reduceLT, Nat.reduceEqDiff, or_true, true_or, or_false, false_or, or_self, Int.reduceEq, Int.reduceNe, Int.reduceLT, Int.reduceLE, Int.reduceAdd, Int.reduceSub, Int.reduceMul, Int.reduceNeg, Int.reduceToNat, if_true, if_false, Classical.not_not, Int.cast_ofNat_Int, kd176, kd177, kd178, kd179, kd180, kd181, kd182, kd183, kd184, kd185, kd186, kd187, kd188, kd189, kd190, kd191, kd192, kd193, kd194, rf176_1, rf176_2, rf176_4, rf176_5, rf176_6, rf176_8, rf176_9, rf176_10, rf176_11, rf176_12, rf176_13, rf176_14, rf176_16, rf176_17, rf176_18, rf176_19, rf176_20, rf176_23, a4, ct129 hL hP, ct129 hL (RDp_w hP), ct77, if_pos ec, e21, ok0, ok1, mUp_eq, mWr_of]
      rw [es]
      exact hQ _ _ RF_up (fun _ => ⟨rfl, RDp_up hP rfl (by show (s.2 : Int) + 1 = ((s.2 + 1 : Nat) : Int); omega)⟩) (fun w => absurd ⟨z, y⟩ w)
    · have ec : ¬ (48 ≤ sgn T L s.2 ∧ sgn T L s.2 ≤ 57) := fun w => y (sgn_d.mp w)
      simp (disch := first | omega | exact rfl) only [x131_0, x131_1, x131_2, x131_5, x131_8, x131_9, x131_12, x131_14, x131_16, x131_19, x131_22, x131_23, x131_26, x131_27, x131_30, x131_31, x131_34, x131_36, x131_37, x131_38, x131_39, x131_40, x131_43, x131_44, x131_47, x131_50, x131_51, x131_54, x131_55, x131_56, x131_59, x131_60, isF, isK, isH, mK, nl_i, nl_n, nl_o, nl_r, c1_i, c1_r, mPush, mRv, G0_1, true_and, and_true, and_self, implies_true, List.length_nil, List.length_cons, Nat.reduceAdd, Nat.reduceLeDiff, Nat.zero_le, beq_self_eq_true, Nat.reduceBEq, decide_true, Bool.and_self, reduceCtorEq, ne_eq, not_true_eq_false, not_false_eq_true, false_implies, true_implies, Nat.reduceLT, Nat.reduceEqDiff, or_true, true_or, or_false, false_or, or_self, Int.reduceEq, Int.reduceNe, Int.reduceLT, Int.reduceLE, Int.reduceAdd, Int.reduceSub, Int.reduceMul, Int.reduceNeg, Int.reduceToNat, if_true, if_false, Classical.not_not, Int.cast_ofNat_Int, kd176, kd177, kd178, kd179, kd180, kd181, kd182, kd183, kd184, kd185, kd186, kd187, kd188, kd189, kd190, kd191, kd192, kd193, kd194, rf176_1, rf176_2, rf176_4, rf176_5, rf176_6, rf176_8, rf176_9, rf176_10, rf176_11, rf176_12, rf176_13, rf176_14, rf176_16, rf176_17, rf176_18, rf176_19, rf176_20, rf176_23, a4, ct129 hL hP, ct129 hL (RDp_w hP), ct77, if_neg ec, e21, ok0, ok1, mUp_eq, mWr_of, Int.add_zero]
      exact hQ _ _ RF_up (fun w => absurd w.2 y) (fun _ => RDp_up hP rfl rfl)
theorem zq132 (hL : L ≤ 80) (hT : ∀ i, i < L → 33 ≤ T i ∧ T i ≤ 126) {μ0 : MU} : ∀ (n d p : Nat) (v : Int) (μ : MU), d + n = 4 → n ≤ 3 → (0 ≤ v ∧ ((n = 3 ∧ v ≤ 9) ∨ (n = 2 ∧ v ≤ 99) ∨ (n = 1 ∧ v ≤ 999) ∨ (n = 0 ∧ v ≤ 9999))) → RF μ0 μ → RDp μ T L (1, p) →
    (∀ μ' : MU, RF μ0 μ' → RDp μ' T L (1, (nGo T L n p v).2) → Q (some (.inl (nGo T L n p v).1)) G0 μ') →
    Wp E 132 7 [some (.inr (.inr (.inl 176))), some (.inl v), some (.inl d)] [] G0 μ Q := by
  intro n
  induction n with
  | zero =>
    intro d p v μ hd _ _ h1 h2 hQ
    have e1 : (4 : Int) ≤ d := by omega
    have e2 : ¬ (d : Int) < 4 := by omega
    simp (disch := first | omega | exact rfl) only [x132_7, x132_8, x132_9, x132_66, x132_67, isF, isK, isH, mK, nl_i, nl_n, nl_o, nl_r, c1_i, c1_r, mPush, mRv, G0_1, true_and, and_true, and_self, implies_true, List.length_nil, List.length_cons, Nat.reduceAdd, Nat.reduceLeDiff, Nat.zero_le, beq_self_eq_true, Nat.reduceBEq, decide_true, Bool.and_self, reduceCtorEq, ne_eq, not_true_eq_false, not_false_eq_true, false_implies, true_implies, Nat.reduceLT, Nat.reduceEqDiff, or_true, true_or, or_false, false_or, or_self, Int.reduceEq, Int.reduceNe, Int.reduceLT, Int.reduceLE, Int.reduceAdd, Int.reduceSub, Int.reduceMul, Int.reduceNeg, Int.reduceToNat, if_true, if_false, Classical.not_not, Int.cast_ofNat_Int, e1, e2]
    exact hQ μ h1 h2
  | succ n ih =>
    intro d p v μ hd hn hv h1 h2 hQ
    have e1 : ¬ (4 : Int) ≤ d := by omega
    have e2 : (d : Int) < 4 := by omega
    have eI : (d : Int) + 1 = ((d + 1 : Nat) : Int) := by omega
    have a4 := h2.2.2.2
    have a3 := h2.2.2.1
    have aL := h2.1
    simp only [nGo] at hQ
    by_cases q1 : v = 0
    · have q2 : ¬ (¬ v = 0 ∧ dig T L p) := fun z => z.1 q1
      rw [if_neg q2] at hQ
      subst q1
      simp (disch := first | omega | exact rfl) only [x132_7, x132_8, x132_9, x132_12, x132_13, x132_16, x132_19, x132_20, x132_66, x132_67, isF, isK, isH, mK, nl_i, nl_n, nl_o, nl_r, c1_i, c1_r, mPush, mRv, G0_1, true_and, and_true, and_self, implies_true, List.length_nil, List.length_cons, Nat.reduceAdd, Nat.reduceLeDiff, Nat.zero_le, beq_self_eq_true, Nat.reduceBEq, decide_true, Bool.and_self, reduceCtorEq, ne_eq, not_true_eq_false, not_false_eq_true, false_implies, true_implies, Nat.reduceLT, Nat.reduceEqDiff, or_true, true_or, or_false, false_or, or_self, Int.reduceEq, Int.reduceNe, Int.reduceLT, Int.reduceLE, Int.reduceAdd, Int.reduceSub, Int.reduceMul, Int.reduceNeg, Int.reduceToNat, if_true, if_false, Classical.not_not, Int.cast_ofNat_Int, kd176, kd177, kd178, kd179, kd180, kd181, kd182, kd183, kd184, kd185, kd186, kd187, kd188, kd189, kd190, kd191, kd192, kd193, kd194, rf176_1, rf176_2, rf176_4, rf176_5, rf176_6, rf176_8, rf176_9, rf176_10, rf176_11, rf176_12, rf176_13, rf176_14, rf176_16, rf176_17, rf176_18, rf176_19, rf176_20, rf176_23, e1, e2, a4]
      exact hQ μ h1 h2
    · have q3 : 0 < v := by omega
      have q3' : ¬ v ≤ 0 := by omega
      by_cases q2 : dig T L p
      · rw [if_pos ⟨q1, q2⟩] at hQ
        have ec := sgn_d.mpr q2
        have es : sgn T L p = T p := if_pos q2.1
        rw [es] at ec
        have q5 := q2.2
        have em : 10 * v + T p - 48 = v * 10 + T p - 48 := by omega
        simp (disch := first | omega | exact rfl) only [x132_7, x132_8, x132_9, x132_12, x132_13, x132_16, x132_19, x132_20, x132_23, x132_24, x132_27, x132_29, x132_31, x132_34, x132_37, x132_39, x132_40, x132_41, x132_42, x132_45, x132_46, x132_48, x132_49, x132_50, x132_51, x132_52, x132_55, x132_56, x132_57, x132_60, isF, isK, isH, mK, nl_i, nl_n, nl_o, nl_r, c1_i, c1_r, mPush, mRv, G0_1, true_and, and_true, and_self, implies_true, List.length_nil, List.length_cons, Nat.reduceAdd, Nat.reduceLeDiff, Nat.zero_le, beq_self_eq_true, Nat.reduceBEq, decide_true, Bool.and_self, reduceCtorEq, ne_eq, not_true_eq_false, not_false_eq_true, false_implies, true_implies, Nat.reduceLT, Nat.reduceEqDiff, or_true, true_or, or_false, false_or, or_self, Int.reduceEq, Int.reduceNe, Int.reduceLT, Int.reduceLE, Int.reduceAdd, Int.reduceSub, Int.reduceMul, Int.reduceNeg, Int.reduceToNat, if_true, if_false, Classical.not_not, Int.cast_ofNat_Int, kd176, kd177, kd178, kd179, kd180, kd181, kd182, kd183, kd184, kd185, kd186, kd187, kd188, kd189, kd190, kd191, kd192, kd193, kd194, rf176_1, rf176_2, rf176_4, rf176_5, rf176_6, rf176_8, rf176_9, rf176_10, rf176_11, rf176_12, rf176_13, rf176_14, rf176_16, rf176_17, rf176_18, rf176_19, rf176_20, rf176_23, e1, e2, a4, a3, q3, q3', ct129 hL h2, es, ct77, if_pos ec, mWr_of, em]
        rw [x132_63, eI]
        refine ih (d + 1) (p + 1) (v * 10 + T p - 48) _ (by omega) (by omega) (by omega) ?_ ?_ hQ
        · exact ⟨fun x z => by rw [mUp_ne z]; exact h1.1 x z, fun i z1 z2 => by rw [mUp_nj z1]; exact h1.2 i z1 z2⟩
        · exact ⟨by rw [mUp_nj (by omega)]; exact h2.1, fun i hi => by rw [mUp_ne (by omega)]; exact h2.2.1 i hi, by rw [mUp_eq]; show (p : Int) + 1 = ((p + 1 : Nat) : Int); omega, by rw [mUp_nj (by omega)]; exact a4⟩
      · rw [if_neg (fun z => q2 z.2)] at hQ
        have ec : ¬ (48 ≤ sgn T L p ∧ sgn T L p ≤ 57) := fun w => q2 (sgn_d.mp w)
        simp (disch := first | omega | exact rfl) only [x132_7, x132_8, x132_9, x132_12, x132_13, x132_16, x132_19, x132_20, x132_23, x132_24, x132_27, x132_29, x132_31, x132_34, x132_66, x132_67, isF, isK, isH, mK, nl_i, nl_n, nl_o, nl_r, c1_i, c1_r, mPush, mRv, G0_1, true_and, and_true, and_self, implies_true, List.length_nil, List.length_cons, Nat.reduceAdd, Nat.reduceLeDiff, Nat.zero_le, beq_self_eq_true, Nat.reduceBEq, decide_true, Bool.and_self, reduceCtorEq, ne_eq, not_true_eq_false, not_false_eq_true, false_implies, true_implies, Nat.reduceLT, Nat.reduceEqDiff, or_true, true_or, or_false, false_or, or_self, Int.reduceEq, Int.reduceNe, Int.reduceLT, Int.reduceLE, Int.reduceAdd, Int.reduceSub, Int.reduceMul, Int.reduceNeg, Int.reduceToNat, if_true, if_false, Classical.not_not, Int.cast_ofNat_Int, kd176, kd177, kd178, kd179, kd180, kd181, kd182, kd183, kd184, kd185, kd186, kd187, kd188, kd189, kd190, kd191, kd192, kd193, kd194, rf176_1, rf176_2, rf176_4, rf176_5, rf176_6, rf176_8, rf176_9, rf176_10, rf176_11, rf176_12, rf176_13, rf176_14, rf176_16, rf176_17, rf176_18, rf176_19, rf176_20, rf176_23, e1, e2, a4, q3, q3', ct129 hL h2, ct77, if_neg ec]
        exact hQ μ h1 h2
theorem ct132 (hL : L ≤ 80) (hT : ∀ i, i < L → 33 ≤ T i ∧ T i ≤ 126) {μ : MU} {s : Int × Nat} (hs : s.1 = 0 ∨ s.1 = 1) (hp : s.2 ≤ L) (hP : RDp μ T L s)
    (hQ : ∀ (μ' : MU) (v : Int), RF μ μ' → RDp μ' T L (stp T L 110 s) → ((stp T L 110 s).1 = 1 → v = pVl T L 110 s.2) → Q (some (.inl v)) G0 μ') :
    Wp E 132 0 [some (.inr (.inr (.inl 176))), none, none] [] G0 μ Q := by
  simp (disch := first | omega | exact rfl) only [x132_0, x132_1, isF, isK, isH, mK, nl_i, nl_n, nl_o, nl_r, c1_i, c1_r, mPush, mRv, G0_1, true_and, and_true, and_self, implies_true, List.length_nil, List.length_cons, Nat.reduceAdd, Nat.reduceLeDiff, Nat.zero_le, beq_self_eq_true, Nat.reduceBEq, decide_true, Bool.and_self, reduceCtorEq, ne_eq, not_true_eq_false, not_false_eq_true, false_implies, true_implies, Nat.reduceLT, Nat.reduceEqDiff, or_true, true_or, or_false, false_or, or_self, Int.reduceEq, Int.reduceNe, Int.reduceLT, Int.reduceLE, Int.reduceAdd, Int.reduceSub, Int.reduceMul, Int.reduceNeg, Int.reduceToNat, if_true, if_false, Classical.not_not, Int.cast_ofNat_Int, kd176, kd177, kd178, kd179, kd180, kd181, kd182, kd183, kd184, kd185, kd186, kd187, kd188, kd189, kd190, kd191, kd192, kd193, kd194, rf176_1, rf176_2, rf176_4, rf176_5, rf176_6, rf176_8, rf176_9, rf176_10, rf176_11, rf176_12, rf176_13, rf176_14, rf176_16, rf176_17, rf176_18, rf176_19, rf176_20, rf176_23]
  refine ct131 hL hT hs hp hP (fun μ1 v k1 k2 k3 => ?_)
  by_cases y : s.1 = 1 ∧ dig T L s.2
  · obtain ⟨v1, v2⟩ := k2 y
    have hd := y.2.2
    have e : stp T L 110 s = (1, pNx T L 110 s.2) := by unfold stp; rw [if_pos ⟨y.1, Or.inl ⟨Or.inr rfl, y.2⟩⟩]
    have e2 : pNx T L 110 s.2 = (nGo T L 3 (s.2 + 1) (T s.2 - 48)).2 := if_pos rfl
    have e3 : pVl T L 110 s.2 = (nGo T L 3 (s.2 + 1) (T s.2 - 48)).1 := if_pos rfl
    rw [e, e2, e3] at hQ
    subst v1
    simp (disch := first | omega | exact rfl) only [x132_4, x132_5, x132_6, isF, isK, isH, mK, nl_i, nl_n, nl_o, nl_r, c1_i, c1_r, mPush, mRv, G0_1, true_and, and_true, and_self, implies_true, List.length_nil, List.length_cons, Nat.reduceAdd, Nat.reduceLeDiff, Nat.zero_le, beq_self_eq_true, Nat.reduceBEq, decide_true, Bool.and_self, reduceCtorEq, ne_eq, not_true_eq_false, not_false_eq_true, false_implies, true_implies, Nat.reduceLT, Nat.reduceEqDiff, or_true, true_or, or_false, false_or, or_self, Int.reduceEq, Int.reduceNe, Int.reduceLT, Int.reduceLE, Int.reduceAdd, Int.reduceSub, Int.reduceMul, Int.reduceNeg, Int.reduceToNat, if_true, if_false, Classical.not_not, Int.cast_ofNat_Int]
    refine zq132 hL hT (μ0 := μ) 3 1 (s.2 + 1) (T s.2 - 48) μ1 (by omega) (by omega) (by omega) k1 v2 (fun μ2 m1 m2 => hQ μ2 _ m1 m2 (fun _ => rfl))
  · have v2 := k3 y
    have e : stp T L 110 s = (0, s.2) := by
      unfold stp
      rw [if_neg (fun z => y ⟨z.1, z.2.elim (fun w => w.2) (fun w => absurd (Or.inr rfl) w.1)⟩)]
    rw [e] at hQ
    have a4 := v2.2.2.2
    simp (disch := first | omega | exact rfl) only [x132_4, x132_5, x132_6, x132_7, x132_8, x132_9, x132_12, x132_13, x132_16, x132_66, x132_67, isF, isK, isH, mK, nl_i, nl_n, nl_o, nl_r, c1_i, c1_r, mPush, mRv, G0_1, true_and, and_true, and_self, implies_true, List.length_nil, List.length_cons, Nat.reduceAdd, Nat.reduceLeDiff, Nat.zero_le, beq_self_eq_true, Nat.reduceBEq, decide_true, Bool.and_self, reduceCtorEq, ne_eq, not_true_eq_false, not_false_eq_true, false_implies, true_implies, Nat.reduceLT, Nat.reduceEqDiff, or_true, true_or, or_false, false_or, or_self, Int.reduceEq, Int.reduceNe, Int.reduceLT, Int.reduceLE, Int.reduceAdd, Int.reduceSub, Int.reduceMul, Int.reduceNeg, Int.reduceToNat, if_true, if_false, Classical.not_not, Int.cast_ofNat_Int, kd176, kd177, kd178, kd179, kd180, kd181, kd182, kd183, kd184, kd185, kd186, kd187, kd188, kd189, kd190, kd191, kd192, kd193, kd194, rf176_1, rf176_2, rf176_4, rf176_5, rf176_6, rf176_8, rf176_9, rf176_10, rf176_11, rf176_12, rf176_13, rf176_14, rf176_16, rf176_17, rf176_18, rf176_19, rf176_20, rf176_23, a4]
    exact hQ μ1 v k1 v2 (fun z => by have : (0 : Int) = 1 := z; omega)
end FAU
