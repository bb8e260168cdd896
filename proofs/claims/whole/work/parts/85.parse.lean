section PRD
variable {E : ME} {Q : Option MV → MG → MU → Prop} {μ : MU} {T : Nat → Int} {L : Nat}
/-- only the place of reading moved -/
def AT (μ μ' : MU) : Prop := (∀ x, ¬ x = 128 → μ' x = μ x) ∧ (∀ i, ¬ i = 3 → μ' 128 i = μ 128 i)
theorem AT_up {p : Int} : AT μ (mUp μ 128 3 p) := ⟨fun x hx => mUp_ne hx, fun i hi => mUp_nj hi⟩
theorem AT_tr {a b c : MU} (h1 : AT a b) (h2 : AT b c) : AT a c := ⟨fun x z => (h2.1 x z).trans (h1.1 x z), fun i z => (h2.2 i z).trans (h1.2 i z)⟩
theorem PD_at {p p' : Nat} (h : PD μ T L p) : PD (mUp μ 128 3 (p' : Int)) T L p' := by
  refine ⟨by rw [mUp_nj (by omega)]; exact h.1, fun i hi => by rw [mUp_ne (by omega)]; exact h.2.1 i hi, mUp_eq⟩
theorem zq24 (hL : L ≤ 80) {μ0 : MU} : ∀ (n d p : Nat) (v : Int) (μ : MU), d + n = 4 → n ≤ 3 → (0 ≤ v ∧ ((n = 3 ∧ v ≤ 9) ∨ (n = 2 ∧ v ≤ 99) ∨ (n = 1 ∧ v ≤ 999) ∨ (n = 0 ∧ v ≤ 9999))) → AT μ0 μ → PD μ T L p →
    (∀ (μ' : MU) (d' : Int), AT μ0 μ' → PD μ' T L (nGo T L n p v).2 → Wp E 24 92 [some (.inr (.inr (.inl 128))), some (.inl 4), some (.inl (nGo T L n p v).1), some (.inl d')] [] G0 μ' Q) →
    Wp E 24 42 [some (.inr (.inr (.inl 128))), some (.inl 4), some (.inl v), some (.inl d)] [] G0 μ Q := by
  intro n
  induction n with
  | zero =>
    intro d p v μ hd _ _ h1 h2 hQ
    have e1 : (4 : Int) ≤ d := by omega
    have e2 : ¬ (d : Int) < 4 := by omega
    simp (disch := first | omega | exact rfl) only [x24_42, x24_43, x24_44, isF, isK, isH, mK, nl_i, nl_n, nl_o, nl_r, c1_i, c1_r, mPush, mRv, G0_1, true_and, and_true, and_self, implies_true, List.length_nil, List.length_cons, Nat.reduceAdd, Nat.reduceLeDiff, Nat.zero_le, beq_self_eq_true, Nat.reduceBEq, decide_true, Bool.and_self, reduceCtorEq, ne_eq, not_true_eq_false, not_false_eq_true, false_implies, true_implies, Nat.reduceLT, Nat.reduceEqDiff, or_true, true_or, or_false, false_or, or_self, Int.reduceEq, Int.reduceNe, Int.reduceLT, Int.reduceLE, Int.reduceAdd, Int.reduceSub, Int.reduceMul, Int.reduceNeg, Int.reduceToNat, if_true, if_false, Classical.not_not, Int.cast_ofNat_Int, e1, e2]
    exact hQ μ d h1 h2
  | succ n ih =>
    intro d p v μ hd hn hv h1 h2 hQ
    have e1 : ¬ (4 : Int) ≤ d := by omega
    have e2 : (d : Int) < 4 := by omega
    have eI : (d : Int) + 1 = ((d + 1 : Nat) : Int) := by omega
    simp only [nGo] at hQ
    by_cases q1 : v = 0
    · have q2 : ¬ (¬ v = 0 ∧ dig T L p) := fun z => z.1 q1
      rw [if_neg q2] at hQ
      subst q1
      simp (disch := first | omega | exact rfl) only [x24_42, x24_43, x24_44, x24_47, x24_48, isF, isK, isH, mK, nl_i, nl_n, nl_o, nl_r, c1_i, c1_r, mPush, mRv, G0_1, true_and, and_true, and_self, implies_true, List.length_nil, List.length_cons, Nat.reduceAdd, Nat.reduceLeDiff, Nat.zero_le, beq_self_eq_true, Nat.reduceBEq, decide_true, Bool.and_self, reduceCtorEq, ne_eq, not_true_eq_false, not_false_eq_true, false_implies, true_implies, Nat.reduceLT, Nat.reduceEqDiff, or_true, true_or, or_false, false_or, or_self, Int.reduceEq, Int.reduceNe, Int.reduceLT, Int.reduceLE, Int.reduceAdd, Int.reduceSub, Int.reduceMul, Int.reduceNeg, Int.reduceToNat, if_true, if_false, Classical.not_not, Int.cast_ofNat_Int, e1, e2]
      exact hQ μ d h1 h2
    · by_cases q2 : dig T L p
      · rw [if_pos ⟨q1, q2⟩] at hQ
        have a3 := h2.2.2
        have aT := h2.2.1 p q2.1
        have q3 : (p : Int) < 80 := by omega
        have q4 : (0 : Int) ≤ p := by omega
        have q5 := q2.2
        have eP : (p : Int) + 1 = ((p + 1 : Nat) : Int) := by omega
        simp (disch := first | omega | exact rfl) only [x24_42, x24_43, x24_44, x24_47, x24_48, x24_51, x24_52, x24_55, x24_58, x24_59, x24_61, x24_62, x24_63, x24_66, x24_67, x24_70, x24_71, x24_72, x24_74, x24_75, x24_76, x24_77, x24_78, x24_81, x24_82, x24_83, x24_86, isF, isK, isH, mK, nl_i, nl_n, nl_o, nl_r, c1_i, c1_r, mPush, mRv, G0_1, true_and, and_true, and_self, implies_true, List.length_nil, List.length_cons, Nat.reduceAdd, Nat.reduceLeDiff, Nat.zero_le, beq_self_eq_true, Nat.reduceBEq, decide_true, Bool.and_self, reduceCtorEq, ne_eq, not_true_eq_false, not_false_eq_true, false_implies, true_implies, Nat.reduceLT, Nat.reduceEqDiff, or_true, true_or, or_false, false_or, or_self, Int.reduceEq, Int.reduceNe, Int.reduceLT, Int.reduceLE, Int.reduceAdd, Int.reduceSub, Int.reduceMul, Int.reduceNeg, Int.reduceToNat, if_true, if_false, Classical.not_not, Int.cast_ofNat_Int, kd128, kd129, kd130, rf128_0, rf128_1, e1, e2, q1, ct26 hL h2, if_pos q2, a3, aT, q3, q4, Int.toNat_natCast, mWr_of, eP]
        rw [x24_89, eI]
        exact ih (d + 1) (p + 1) (v * 10 + T p - 48) _ (by omega) (by omega) (by omega) (AT_tr h1 AT_up) (PD_at h2) hQ
      · rw [if_neg (fun z => q2 z.2)] at hQ
        simp (disch := first | omega | exact rfl) only [x24_42, x24_43, x24_44, x24_47, x24_48, x24_51, x24_52, x24_55, isF, isK, isH, mK, nl_i, nl_n, nl_o, nl_r, c1_i, c1_r, mPush, mRv, G0_1, true_and, and_true, and_self, implies_true, List.length_nil, List.length_cons, Nat.reduceAdd, Nat.reduceLeDiff, Nat.zero_le, beq_self_eq_true, Nat.reduceBEq, decide_true, Bool.and_self, reduceCtorEq, ne_eq, not_true_eq_false, not_false_eq_true, false_implies, true_implies, Nat.reduceLT, Nat.reduceEqDiff, or_true, true_or, or_false, false_or, or_self, Int.reduceEq, Int.reduceNe, Int.reduceLT, Int.reduceLE, Int.reduceAdd, Int.reduceSub, Int.reduceMul, Int.reduceNeg, Int.reduceToNat, if_true, if_false, Classical.not_not, Int.cast_ofNat_Int, kd128, kd129, kd130, rf128_0, rf128_1, e1, e2, q1, ct26 hL h2, if_neg q2]
        exact hQ μ d h1 h2
theorem ct24 (hL : L ≤ 80) {p j : Nat} {c : Int} {m : Int} (hm : (c = 100 ∧ m = 1) ∨ (c = 110 ∧ m = 4)) (hP : PD μ T L p) (hj : μ 128 5 = j) (hj4 : j < 4)
    (h1 : dig T L p → ∀ μ' : MU, PFr μ μ' → PD μ' T L (pNx T L c p) → μ' 128 5 = ((j + 1 : Nat) : Int) → (∀ i, μ' 130 i = if i = j then pVl T L c p else μ 130 i) → Q (some (.inl 1)) G0 μ') (h0 : ¬ dig T L p → Q (some (.inl 0)) G0 μ) :
    Wp E 24 0 [some (.inr (.inr (.inl 128))), some (.inl m), none, none] [] G0 μ Q := by
  by_cases q2 : dig T L p
  · have a3 := hP.2.2
    have aT := hP.2.1 p q2.1
    have q3 : (p : Int) < 80 := by omega
    have q4 : (0 : Int) ≤ p := by omega
    have q5 := q2.2
    have eP : (p : Int) + 1 = ((p + 1 : Nat) : Int) := by omega
    have ej : ¬ (4 : Int) ≤ j := by omega
    have ej2 : (j : Int) < 4 := by omega
    have ej3 : (0 : Int) ≤ j := by omega
    have eJ : (j : Int) + 1 = ((j + 1 : Nat) : Int) := by omega
    have fin : ∀ (μ' : MU) (v d' : Int) (p' : Nat), AT μ μ' → PD μ' T L p' → p' = pNx T L c p → v = pVl T L c p → Wp E 24 92 [some (.inr (.inr (.inl 128))), some (.inl m), some (.inl v), some (.inl d')] [] G0 μ' Q := by
      intro μ' v d' p' k1 k2 k3 k4
      have e5 : μ' 128 5 = j := by rw [k1.2 5 (by omega)]; exact hj
      have e5' : ∀ w, (mUp μ' 130 j w) 128 5 = j := fun w => by rw [mUp_ne (by omega)]; exact e5
      simp (disch := first | omega | exact rfl) only [x24_92, x24_93, x24_96, x24_97, x24_100, x24_101, x24_102, x24_103, x24_104, x24_107, x24_108, x24_109, x24_112, x24_113, isF, isK, isH, mK, nl_i, nl_n, nl_o, nl_r, c1_i, c1_r, mPush, mRv, G0_1, true_and, and_true, and_self, implies_true, List.length_nil, List.length_cons, Nat.reduceAdd, Nat.reduceLeDiff, Nat.zero_le, beq_self_eq_true, Nat.reduceBEq, decide_true, Bool.and_self, reduceCtorEq, ne_eq, not_true_eq_false, not_false_eq_true, false_implies, true_implies, Nat.reduceLT, Nat.reduceEqDiff, or_true, true_or, or_false, false_or, or_self, Int.reduceEq, Int.reduceNe, Int.reduceLT, Int.reduceLE, Int.reduceAdd, Int.reduceSub, Int.reduceMul, Int.reduceNeg, Int.reduceToNat, if_true, if_false, Classical.not_not, Int.cast_ofNat_Int, kd128, kd129, kd130, rf128_0, rf128_1, e5, e5', ej2, ej3, Int.toNat_natCast, mWr_of, eJ]
      refine h1 q2 _ ⟨fun x z1 z2 => ?_, fun i z1 z2 => ?_⟩ ⟨?_, fun i hi => ?_, ?_⟩ ?_ (fun i => ?_)
      · rw [mUp_ne z1, mUp_ne z2]; exact k1.1 x z1
      · rw [mUp_nj z2, mUp_ne (by omega)]; exact k1.2 i z1
      · rw [mUp_nj (by omega), mUp_ne (by omega)]; exact k2.1
      · rw [mUp_ne (by omega), mUp_ne (by omega)]; exact k2.2.1 i hi
      · rw [mUp_nj (by omega), mUp_ne (by omega), ← k3]; exact k2.2.2
      · rw [mUp_eq]
      · rw [mUp_ne (by omega), mUp_at, k4, k1.1 130 (by omega)]
    have e3 : ∀ w, (mUp μ 128 3 w) 128 5 = j := fun w => by rw [mUp_nj (by omega)]; exact hj
    rcases hm with ⟨z1, z2⟩ | ⟨z1, z2⟩
    · subst z2
      simp (disch := first | omega | exact rfl) only [x24_0, x24_1, x24_4, x24_7, x24_8, x24_11, x24_12, x24_17, x24_18, x24_21, x24_22, x24_25, x24_26, x24_28, x24_29, x24_30, x24_31, x24_32, x24_35, x24_36, x24_37, x24_40, x24_41, x24_42, x24_43, x24_44, isF, isK, isH, mK, nl_i, nl_n, nl_o, nl_r, c1_i, c1_r, mPush, mRv, G0_1, true_and, and_true, and_self, implies_true, List.length_nil, List.length_cons, Nat.reduceAdd, Nat.reduceLeDiff, Nat.zero_le, beq_self_eq_true, Nat.reduceBEq, decide_true, Bool.and_self, reduceCtorEq, ne_eq, not_true_eq_false, not_false_eq_true, false_implies, true_implies, Nat.reduceLT, Nat.reduceEqDiff, or_true, true_or, or_false, false_or, or_self, Int.reduceEq, Int.reduceNe, Int.reduceLT, Int.reduceLE, Int.reduceAdd, Int.reduceSub, Int.reduceMul, Int.reduceNeg, Int.reduceToNat, if_true, if_false, Classical.not_not, Int.cast_ofNat_Int, kd128, kd129, kd130, rf128_0, rf128_1, ct26 hL hP, if_pos q2, hj, ej, ej2, a3, aT, q3, q4, Int.toNat_natCast, mWr_of, eP]
      exact fin _ _ _ (p + 1) AT_up (PD_at hP) (by unfold pNx; rw [if_neg (by omega)]) (by unfold pVl; rw [if_neg (by omega)])
    · subst z2
      simp (disch := first | omega | exact rfl) only [x24_0, x24_1, x24_4, x24_7, x24_8, x24_11, x24_12, x24_17, x24_18, x24_21, x24_22, x24_25, x24_26, x24_28, x24_29, x24_30, x24_31, x24_32, x24_35, x24_36, x24_37, x24_40, x24_41, isF, isK, isH, mK, nl_i, nl_n, nl_o, nl_r, c1_i, c1_r, mPush, mRv, G0_1, true_and, and_true, and_self, implies_true, List.length_nil, List.length_cons, Nat.reduceAdd, Nat.reduceLeDiff, Nat.zero_le, beq_self_eq_true, Nat.reduceBEq, decide_true, Bool.and_self, reduceCtorEq, ne_eq, not_true_eq_false, not_false_eq_true, false_implies, true_implies, Nat.reduceLT, Nat.reduceEqDiff, or_true, true_or, or_false, false_or, or_self, Int.reduceEq, Int.reduceNe, Int.reduceLT, Int.reduceLE, Int.reduceAdd, Int.reduceSub, Int.reduceMul, Int.reduceNeg, Int.reduceToNat, if_true, if_false, Classical.not_not, Int.cast_ofNat_Int, kd128, kd129, kd130, rf128_0, rf128_1, ct26 hL hP, if_pos q2, hj, ej, ej2, a3, aT, q3, q4, Int.toNat_natCast, mWr_of, eP]
      refine zq24 hL (μ0 := μ) 3 1 (p + 1) (T p - 48) _ (by omega) (by omega) (by omega) AT_up (PD_at hP) (fun μ' d' k1 k2 => ?_)
      exact fin μ' _ d' _ k1 k2 (by unfold pNx; rw [if_pos z1]) (by unfold pVl; rw [if_pos z1])
  · have fin : Q (some (.inl 0)) G0 μ := h0 q2
    simp (disch := first | omega | exact rfl) only [x24_0, x24_1, x24_4, x24_15, x24_16, isF, isK, isH, mK, nl_i, nl_n, nl_o, nl_r, c1_i, c1_r, mPush, mRv, G0_1, true_and, and_true, and_self, implies_true, List.length_nil, List.length_cons, Nat.reduceAdd, Nat.reduceLeDiff, Nat.zero_le, beq_self_eq_true, Nat.reduceBEq, decide_true, Bool.and_self, reduceCtorEq, ne_eq, not_true_eq_false, not_false_eq_true, false_implies, true_implies, Nat.reduceLT, Nat.reduceEqDiff, or_true, true_or, or_false, false_or, or_self, Int.reduceEq, Int.reduceNe, Int.reduceLT, Int.reduceLE, Int.reduceAdd, Int.reduceSub, Int.reduceMul, Int.reduceNeg, Int.reduceToNat, if_true, if_false, Classical.not_not, Int.cast_ofNat_Int, kd128, kd129, kd130, rf128_0, rf128_1, ct26 hL hP, if_neg q2]
    exact fin
theorem ct23 (hL : L ≤ 80) {p j : Nat} {c : Int} (hP : PD μ T L p) (hj : μ 128 5 = j) (hj4 : isN c → j < 4)
    (h1 : pOk T L c p → ∀ μ' : MU, PFr μ μ' → PD μ' T L (pNx T L c p) → (isN c → μ' 128 5 = ((j + 1 : Nat) : Int) ∧ ∀ i, μ' 130 i = if i = j then pVl T L c p else μ 130 i) → (¬ isN c → μ' 128 5 = j ∧ ∀ i, μ' 130 i = μ 130 i) → Q (some (.inl 1)) G0 μ') (h0 : ¬ pOk T L c p → Q (some (.inl 0)) G0 μ) :
    Wp E 23 0 [some (.inr (.inr (.inl 128))), some (.inl c)] [] G0 μ Q := by
  by_cases c1 : c = 100
  · have hn : isN c := Or.inl c1
    simp (disch := first | omega | exact rfl) only [c1, x23_0, x23_1_100, x23_28, x23_29, x23_30, isF, isK, isH, mK, nl_i, nl_n, nl_o, nl_r, c1_i, c1_r, mPush, mRv, G0_1, true_and, and_true, and_self, implies_true, List.length_nil, List.length_cons, Nat.reduceAdd, Nat.reduceLeDiff, Nat.zero_le, beq_self_eq_true, Nat.reduceBEq, decide_true, Bool.and_self, reduceCtorEq, ne_eq, not_true_eq_false, not_false_eq_true, false_implies, true_implies, Nat.reduceLT, Nat.reduceEqDiff, or_true, true_or, or_false, false_or, or_self, Int.reduceEq, Int.reduceNe, Int.reduceLT, Int.reduceLE, Int.reduceAdd, Int.reduceSub, Int.reduceMul, Int.reduceNeg, Int.reduceToNat, if_true, if_false, Classical.not_not, Int.cast_ofNat_Int, kd128, kd129, kd130, rf128_0, rf128_1]
    refine ct24 hL (c := c) (m := 1) (Or.inl ⟨c1, rfl⟩) hP hj (hj4 hn) (fun q μ' k1 k2 k3 k4 => ?_) (fun q => ?_)
    · simp (disch := first | omega | exact rfl) only [x23_33, isF, isK, isH, mK, nl_i, nl_n, nl_o, nl_r, c1_i, c1_r, mPush, mRv, G0_1, true_and, and_true, and_self, implies_true, List.length_nil, List.length_cons, Nat.reduceAdd, Nat.reduceLeDiff, Nat.zero_le, beq_self_eq_true, Nat.reduceBEq, decide_true, Bool.and_self, reduceCtorEq, ne_eq, not_true_eq_false, not_false_eq_true, false_implies, true_implies, Nat.reduceLT, Nat.reduceEqDiff, or_true, true_or, or_false, false_or, or_self, Int.reduceEq, Int.reduceNe, Int.reduceLT, Int.reduceLE, Int.reduceAdd, Int.reduceSub, Int.reduceMul, Int.reduceNeg, Int.reduceToNat, if_true, if_false, Classical.not_not, Int.cast_ofNat_Int]
      exact h1 (Or.inl ⟨hn, q⟩) μ' k1 k2 (fun _ => ⟨k3, k4⟩) (fun z => absurd hn z)
    · simp (disch := first | omega | exact rfl) only [x23_33, isF, isK, isH, mK, nl_i, nl_n, nl_o, nl_r, c1_i, c1_r, mPush, mRv, G0_1, true_and, and_true, and_self, implies_true, List.length_nil, List.length_cons, Nat.reduceAdd, Nat.reduceLeDiff, Nat.zero_le, beq_self_eq_true, Nat.reduceBEq, decide_true, Bool.and_self, reduceCtorEq, ne_eq, not_true_eq_false, not_false_eq_true, false_implies, true_implies, Nat.reduceLT, Nat.reduceEqDiff, or_true, true_or, or_false, false_or, or_self, Int.reduceEq, Int.reduceNe, Int.reduceLT, Int.reduceLE, Int.reduceAdd, Int.reduceSub, Int.reduceMul, Int.reduceNeg, Int.reduceToNat, if_true, if_false, Classical.not_not, Int.cast_ofNat_Int]
      exact h0 (fun z => z.elim (fun y => q y.2) (fun y => y.1 hn))
  · by_cases c2 : c = 110
    · have hn : isN c := Or.inr c2
      simp (disch := first | omega | exact rfl) only [c2, x23_0, x23_1_110, x23_34, x23_35, x23_36, isF, isK, isH, mK, nl_i, nl_n, nl_o, nl_r, c1_i, c1_r, mPush, mRv, G0_1, true_and, and_true, and_self, implies_true, List.length_nil, List.length_cons, Nat.reduceAdd, Nat.reduceLeDiff, Nat.zero_le, beq_self_eq_true, Nat.reduceBEq, decide_true, Bool.and_self, reduceCtorEq, ne_eq, not_true_eq_false, not_false_eq_true, false_implies, true_implies, Nat.reduceLT, Nat.reduceEqDiff, or_true, true_or, or_false, false_or, or_self, Int.reduceEq, Int.reduceNe, Int.reduceLT, Int.reduceLE, Int.reduceAdd, Int.reduceSub, Int.reduceMul, Int.reduceNeg, Int.reduceToNat, if_true, if_false, Classical.not_not, Int.cast_ofNat_Int, kd128, kd129, kd130, rf128_0, rf128_1]
      refine ct24 hL (c := c) (m := 4) (Or.inr ⟨c2, rfl⟩) hP hj (hj4 hn) (fun q μ' k1 k2 k3 k4 => ?_) (fun q => ?_)
      · simp (disch := first | omega | exact rfl) only [x23_39, isF, isK, isH, mK, nl_i, nl_n, nl_o, nl_r, c1_i, c1_r, mPush, mRv, G0_1, true_and, and_true, and_self, implies_true, List.length_nil, List.length_cons, Nat.reduceAdd, Nat.reduceLeDiff, Nat.zero_le, beq_self_eq_true, Nat.reduceBEq, decide_true, Bool.and_self, reduceCtorEq, ne_eq, not_true_eq_false, not_false_eq_true, false_implies, true_implies, Nat.reduceLT, Nat.reduceEqDiff, or_true, true_or, or_false, false_or, or_self, Int.reduceEq, Int.reduceNe, Int.reduceLT, Int.reduceLE, Int.reduceAdd, Int.reduceSub, Int.reduceMul, Int.reduceNeg, Int.reduceToNat, if_true, if_false, Classical.not_not, Int.cast_ofNat_Int]
        exact h1 (Or.inl ⟨hn, q⟩) μ' k1 k2 (fun _ => ⟨k3, k4⟩) (fun z => absurd hn z)
      · simp (disch := first | omega | exact rfl) only [x23_39, isF, isK, isH, mK, nl_i, nl_n, nl_o, nl_r, c1_i, c1_r, mPush, mRv, G0_1, true_and, and_true, and_self, implies_true, List.length_nil, List.length_cons, Nat.reduceAdd, Nat.reduceLeDiff, Nat.zero_le, beq_self_eq_true, Nat.reduceBEq, decide_true, Bool.and_self, reduceCtorEq, ne_eq, not_true_eq_false, not_false_eq_true, false_implies, true_implies, Nat.reduceLT, Nat.reduceEqDiff, or_true, true_or, or_false, false_or, or_self, Int.reduceEq, Int.reduceNe, Int.reduceLT, Int.reduceLE, Int.reduceAdd, Int.reduceSub, Int.reduceMul, Int.reduceNeg, Int.reduceToNat, if_true, if_false, Classical.not_not, Int.cast_ofNat_Int]
        exact h0 (fun z => z.elim (fun y => q y.2) (fun y => y.1 hn))
    · have hn : ¬ isN c := fun z => z.elim c1 c2
      simp (disch := first | omega | exact rfl) only [x23_0, x23_1_d ⟨c1, c2⟩, x23_40, x23_41, x23_42, isF, isK, isH, mK, nl_i, nl_n, nl_o, nl_r, c1_i, c1_r, mPush, mRv, G0_1, true_and, and_true, and_self, implies_true, List.length_nil, List.length_cons, Nat.reduceAdd, Nat.reduceLeDiff, Nat.zero_le, beq_self_eq_true, Nat.reduceBEq, decide_true, Bool.and_self, reduceCtorEq, ne_eq, not_true_eq_false, not_false_eq_true, false_implies, true_implies, Nat.reduceLT, Nat.reduceEqDiff, or_true, true_or, or_false, false_or, or_self, Int.reduceEq, Int.reduceNe, Int.reduceLT, Int.reduceLE, Int.reduceAdd, Int.reduceSub, Int.reduceMul, Int.reduceNeg, Int.reduceToNat, if_true, if_false, Classical.not_not, Int.cast_ofNat_Int, kd128, kd129, kd130, rf128_0, rf128_1]
      refine ct25 hL hP (fun q => ?_) (fun q => ?_)
      · simp (disch := first | omega | exact rfl) only [x23_45, isF, isK, isH, mK, nl_i, nl_n, nl_o, nl_r, c1_i, c1_r, mPush, mRv, G0_1, true_and, and_true, and_self, implies_true, List.length_nil, List.length_cons, Nat.reduceAdd, Nat.reduceLeDiff, Nat.zero_le, beq_self_eq_true, Nat.reduceBEq, decide_true, Bool.and_self, reduceCtorEq, ne_eq, not_true_eq_false, not_false_eq_true, false_implies, true_implies, Nat.reduceLT, Nat.reduceEqDiff, or_true, true_or, or_false, false_or, or_self, Int.reduceEq, Int.reduceNe, Int.reduceLT, Int.reduceLE, Int.reduceAdd, Int.reduceSub, Int.reduceMul, Int.reduceNeg, Int.reduceToNat, if_true, if_false, Classical.not_not, Int.cast_ofNat_Int]
        have e : pNx T L c p = p + 1 := by unfold pNx; rw [if_neg c2]
        refine h1 (Or.inr ⟨hn, q⟩) _ ⟨fun x z1 z2 => mUp_ne z1, fun i z1 z2 => mUp_nj z1⟩ (by rw [e]; exact PD_at hP) (fun z => absurd z hn) (fun _ => ⟨by rw [mUp_nj (by omega)]; exact hj, fun i => by rw [mUp_ne (by omega)]⟩)
      · simp (disch := first | omega | exact rfl) only [x23_45, isF, isK, isH, mK, nl_i, nl_n, nl_o, nl_r, c1_i, c1_r, mPush, mRv, G0_1, true_and, and_true, and_self, implies_true, List.length_nil, List.length_cons, Nat.reduceAdd, Nat.reduceLeDiff, Nat.zero_le, beq_self_eq_true, Nat.reduceBEq, decide_true, Bool.and_self, reduceCtorEq, ne_eq, not_true_eq_false, not_false_eq_true, false_implies, true_implies, Nat.reduceLT, Nat.reduceEqDiff, or_true, true_or, or_false, false_or, or_self, Int.reduceEq, Int.reduceNe, Int.reduceLT, Int.reduceLE, Int.reduceAdd, Int.reduceSub, Int.reduceMul, Int.reduceNeg, Int.reduceToNat, if_true, if_false, Classical.not_not, Int.cast_ofNat_Int]
        exact h0 (fun z => z.elim (fun y => hn y.1) (fun y => q y.2))
end PRD
