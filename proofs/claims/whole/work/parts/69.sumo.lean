section SUM3
variable {E : ME} {Q : Option MV → MG → MU → Prop} {S : Row} {μ : MU}
abbrev cOv (S : Row) (film house : Int) (i : Nat) : Prop := (film = -6 ∨ S (68 + 4 * i) = film) ∧ (house = -6 ∨ S (69 + 4 * i) = house)
def itV (S : Row) (μ : MU) (what : Int) (i : Nat) : Int := if what = 0 then 1 else if what = 1 then kpt S i (μ 185 i) else if what = 2 then rnt S i (μ 185 i) else if what = 3 then μ 184 i else on (μ 185 i)
theorem g112a {film house what : Int} {i : Nat} {sum : Int} {o6 o7 : Option MV} (hS : RS μ S) (hi : i < 21) (n6 : mNl (some o6) = true)
    (h : ∀ v : Int, (v = 1 ∧ cOv S film house i) ∨ (v = 0 ∧ ¬ cOv S film house i) → Wp E 112 59 [some (.inr (.inr (.inl 176))), some (.inl film), some (.inl house), some (.inl what), some (.inl sum), some (.inl i), some (.inl v), o7] [] G0 μ Q) :
    Wp E 112 18 [some (.inr (.inr (.inl 176))), some (.inl film), some (.inl house), some (.inl what), some (.inl sum), some (.inl i), o6, o7] [] G0 μ Q := by
  have e1 : μ 177 (68 + 4 * i + 0) = S (68 + 4 * i) := hS.1 _ (by omega)
  have e2 : μ 177 (68 + 4 * i + 1) = S (69 + 4 * i) := by rw [hS.1 _ (by omega)]; congr 1; omega
  have e3 : (0 : Int) ≤ i := by omega
  have e4 : (i : Int) < 21 := by omega
  have hA : ∀ b : Prop, ((film = -6 ∨ S (68 + 4 * i) = film) = b) → (b → Wp E 112 35 [some (.inr (.inr (.inl 176))), some (.inl film), some (.inl house), some (.inl what), some (.inl sum), some (.inl i), o6, o7] [] G0 μ Q) → (¬ b → Wp E 112 59 [some (.inr (.inr (.inl 176))), some (.inl film), some (.inl house), some (.inl what), some (.inl sum), some (.inl i), some (.inl 0), o7] [] G0 μ Q) → Wp E 112 18 [some (.inr (.inr (.inl 176))), some (.inl film), some (.inl house), some (.inl what), some (.inl sum), some (.inl i), o6, o7] [] G0 μ Q := by
    intro b hb h1 h2
    subst hb
    by_cases q1 : film = -6
    · simp (disch := first | omega | exact rfl) only [x112_18, x112_19, x112_21, isF, isK, isH, mK, nl_i, nl_n, nl_o, nl_r, c1_i, c1_r, mPush, mRv, G0_1, true_and, and_true, and_self, implies_true, List.length_nil, List.length_cons, Nat.reduceAdd, Nat.reduceLeDiff, Nat.zero_le, beq_self_eq_true, Nat.reduceBEq, decide_true, Bool.and_self, reduceCtorEq, ne_eq, not_true_eq_false, not_false_eq_true, false_implies, true_implies, Nat.reduceLT, Nat.reduceEqDiff, or_true, true_or, or_false, false_or, or_self, Int.reduceEq, Int.reduceNe, Int.reduceLT, Int.reduceLE, Int.reduceAdd, Int.reduceSub, Int.reduceMul, Int.reduceNeg, Int.reduceToNat, if_true, if_false, Classical.not_not, Int.cast_ofNat_Int, q1]
      rw [q1] at h1
      exact h1 (Or.inl rfl)
    · by_cases q2 : S (68 + 4 * i) = film
      · rw [q2] at e1
        simp (disch := first | omega | exact rfl) only [x112_18, x112_19, x112_21, x112_24, x112_25, x112_27, x112_28, x112_31, x112_32, isF, isK, isH, mK, nl_i, nl_n, nl_o, nl_r, c1_i, c1_r, mPush, mRv, G0_1, true_and, and_true, and_self, implies_true, List.length_nil, List.length_cons, Nat.reduceAdd, Nat.reduceLeDiff, Nat.zero_le, beq_self_eq_true, Nat.reduceBEq, decide_true, Bool.and_self, reduceCtorEq, ne_eq, not_true_eq_false, not_false_eq_true, false_implies, true_implies, Nat.reduceLT, Nat.reduceEqDiff, or_true, true_or, or_false, false_or, or_self, Int.reduceEq, Int.reduceNe, Int.reduceLT, Int.reduceLE, Int.reduceAdd, Int.reduceSub, Int.reduceMul, Int.reduceNeg, Int.reduceToNat, if_true, if_false, Classical.not_not, Int.cast_ofNat_Int, kd176, kd177, kd178, kd179, kd180, kd181, kd182, kd183, kd184, kd185, kd186, kd187, kd188, kd189, kd190, kd191, kd192, kd193, kd194, rf176_1, rf176_2, rf176_4, rf176_5, rf176_6, rf176_8, rf176_9, rf176_10, rf176_11, rf176_12, rf176_13, rf176_14, rf176_16, rf176_17, rf176_18, rf176_19, rf176_20, rf176_23, Int.toNat_natCast, ct79, e1, e3, e4, q1]
        exact h1 (Or.inr q2)
      · simp (disch := first | omega | exact rfl) only [x112_18, x112_19, x112_21, x112_24, x112_25, x112_27, x112_28, x112_31, x112_32, x112_56, x112_57, isF, isK, isH, mK, nl_i, nl_n, nl_o, nl_r, c1_i, c1_r, mPush, mRv, G0_1, true_and, and_true, and_self, implies_true, List.length_nil, List.length_cons, Nat.reduceAdd, Nat.reduceLeDiff, Nat.zero_le, beq_self_eq_true, Nat.reduceBEq, decide_true, Bool.and_self, reduceCtorEq, ne_eq, not_true_eq_false, not_false_eq_true, false_implies, true_implies, Nat.reduceLT, Nat.reduceEqDiff, or_true, true_or, or_false, false_or, or_self, Int.reduceEq, Int.reduceNe, Int.reduceLT, Int.reduceLE, Int.reduceAdd, Int.reduceSub, Int.reduceMul, Int.reduceNeg, Int.reduceToNat, if_true, if_false, Classical.not_not, Int.cast_ofNat_Int, kd176, kd177, kd178, kd179, kd180, kd181, kd182, kd183, kd184, kd185, kd186, kd187, kd188, kd189, kd190, kd191, kd192, kd193, kd194, rf176_1, rf176_2, rf176_4, rf176_5, rf176_6, rf176_8, rf176_9, rf176_10, rf176_11, rf176_12, rf176_13, rf176_14, rf176_16, rf176_17, rf176_18, rf176_19, rf176_20, rf176_23, Int.toNat_natCast, ct79, e1, e3, e4, q1, q2, n6]
        exact h2 (fun z => z.elim q1 q2)
  refine hA _ rfl (fun z => ?_) (fun z => h 0 (Or.inr ⟨rfl, fun y => z y.1⟩))
  by_cases q1 : house = -6
  · have h1 := h 1 (Or.inl ⟨rfl, z, Or.inl q1⟩)
    rw [q1] at h1
    simp (disch := first | omega | exact rfl) only [x112_35, x112_36, x112_38, x112_52, x112_53, x112_57, isF, isK, isH, mK, nl_i, nl_n, nl_o, nl_r, c1_i, c1_r, mPush, mRv, G0_1, true_and, and_true, and_self, implies_true, List.length_nil, List.length_cons, Nat.reduceAdd, Nat.reduceLeDiff, Nat.zero_le, beq_self_eq_true, Nat.reduceBEq, decide_true, Bool.and_self, reduceCtorEq, ne_eq, not_true_eq_false, not_false_eq_true, false_implies, true_implies, Nat.reduceLT, Nat.reduceEqDiff, or_true, true_or, or_false, false_or, or_self, Int.reduceEq, Int.reduceNe, Int.reduceLT, Int.reduceLE, Int.reduceAdd, Int.reduceSub, Int.reduceMul, Int.reduceNeg, Int.reduceToNat, if_true, if_false, Classical.not_not, Int.cast_ofNat_Int, q1, n6]
    exact h1
  · by_cases q2 : S (69 + 4 * i) = house
    · have h1 := h 1 (Or.inl ⟨rfl, z, Or.inr q2⟩)
      rw [q2] at e2
      simp (disch := first | omega | exact rfl) only [x112_35, x112_36, x112_38, x112_41, x112_42, x112_44, x112_45, x112_48, x112_49, x112_52, x112_53, x112_57, isF, isK, isH, mK, nl_i, nl_n, nl_o, nl_r, c1_i, c1_r, mPush, mRv, G0_1, true_and, and_true, and_self, implies_true, List.length_nil, List.length_cons, Nat.reduceAdd, Nat.reduceLeDiff, Nat.zero_le, beq_self_eq_true, Nat.reduceBEq, decide_true, Bool.and_self, reduceCtorEq, ne_eq, not_true_eq_false, not_false_eq_true, false_implies, true_implies, Nat.reduceLT, Nat.reduceEqDiff, or_true, true_or, or_false, false_or, or_self, Int.reduceEq, Int.reduceNe, Int.reduceLT, Int.reduceLE, Int.reduceAdd, Int.reduceSub, Int.reduceMul, Int.reduceNeg, Int.reduceToNat, if_true, if_false, Classical.not_not, Int.cast_ofNat_Int, kd176, kd177, kd178, kd179, kd180, kd181, kd182, kd183, kd184, kd185, kd186, kd187, kd188, kd189, kd190, kd191, kd192, kd193, kd194, rf176_1, rf176_2, rf176_4, rf176_5, rf176_6, rf176_8, rf176_9, rf176_10, rf176_11, rf176_12, rf176_13, rf176_14, rf176_16, rf176_17, rf176_18, rf176_19, rf176_20, rf176_23, Int.toNat_natCast, ct79, e2, e3, e4, q1, n6]
      exact h1
    · have h1 := h 0 (Or.inr ⟨rfl, fun y => y.2.elim q1 q2⟩)
      simp (disch := first | omega | exact rfl) only [x112_35, x112_36, x112_38, x112_41, x112_42, x112_44, x112_45, x112_48, x112_49, x112_56, x112_57, isF, isK, isH, mK, nl_i, nl_n, nl_o, nl_r, c1_i, c1_r, mPush, mRv, G0_1, true_and, and_true, and_self, implies_true, List.length_nil, List.length_cons, Nat.reduceAdd, Nat.reduceLeDiff, Nat.zero_le, beq_self_eq_true, Nat.reduceBEq, decide_true, Bool.and_self, reduceCtorEq, ne_eq, not_true_eq_false, not_false_eq_true, false_implies, true_implies, Nat.reduceLT, Nat.reduceEqDiff, or_true, true_or, or_false, false_or, or_self, Int.reduceEq, Int.reduceNe, Int.reduceLT, Int.reduceLE, Int.reduceAdd, Int.reduceSub, Int.reduceMul, Int.reduceNeg, Int.reduceToNat, if_true, if_false, Classical.not_not, Int.cast_ofNat_Int, kd176, kd177, kd178, kd179, kd180, kd181, kd182, kd183, kd184, kd185, kd186, kd187, kd188, kd189, kd190, kd191, kd192, kd193, kd194, rf176_1, rf176_2, rf176_4, rf176_5, rf176_6, rf176_8, rf176_9, rf176_10, rf176_11, rf176_12, rf176_13, rf176_14, rf176_16, rf176_17, rf176_18, rf176_19, rf176_20, rf176_23, Int.toNat_natCast, ct79, e2, e3, e4, q1, q2, n6]
      exact h1
theorem g112b {film house what : Int} {i : Nat} {sum v6 : Int} {o7 : Option MV} (hS : RS μ S) (hw : wfR S) (hi : i < 21) (hi2 : (i : Int) < S 6) (hv : okM S i (μ 185 i)) (n7 : mNl (some o7) = true)
    (h : Wp E 112 122 [some (.inr (.inr (.inl 176))), some (.inl film), some (.inl house), some (.inl what), some (.inl sum), some (.inl i), some (.inl v6), some (.inl (itV S μ what i))] [] G0 μ Q) :
    Wp E 112 59 [some (.inr (.inr (.inl 176))), some (.inl film), some (.inl house), some (.inl what), some (.inl sum), some (.inl i), some (.inl v6), o7] [] G0 μ Q := by
  have e3 : (0 : Int) ≤ i := by omega
  have e4 : (i : Int) < 21 := by omega
  unfold itV at h
  by_cases p0 : what = 0
  · rw [if_pos p0] at h
    rw [p0] at h
    simp (disch := first | omega | exact rfl) only [x112_59, x112_60, x112_63, x112_64, x112_120, isF, isK, isH, mK, nl_i, nl_n, nl_o, nl_r, c1_i, c1_r, mPush, mRv, G0_1, true_and, and_true, and_self, implies_true, List.length_nil, List.length_cons, Nat.reduceAdd, Nat.reduceLeDiff, Nat.zero_le, beq_self_eq_true, Nat.reduceBEq, decide_true, Bool.and_self, reduceCtorEq, ne_eq, not_true_eq_false, not_false_eq_true, false_implies, true_implies, Nat.reduceLT, Nat.reduceEqDiff, or_true, true_or, or_false, false_or, or_self, Int.reduceEq, Int.reduceNe, Int.reduceLT, Int.reduceLE, Int.reduceAdd, Int.reduceSub, Int.reduceMul, Int.reduceNeg, Int.reduceToNat, if_true, if_false, Classical.not_not, Int.cast_ofNat_Int, n7, p0]
    exact h
  · rw [if_neg p0] at h
    by_cases p1 : what = 1
    · rw [if_pos p1, p1] at h
      simp (disch := first | omega | exact rfl) only [x112_59, x112_60, x112_67, x112_68, x112_69, x112_72, x112_73, x112_75, x112_78, x112_120, isF, isK, isH, mK, nl_i, nl_n, nl_o, nl_r, c1_i, c1_r, mPush, mRv, G0_1, true_and, and_true, and_self, implies_true, List.length_nil, List.length_cons, Nat.reduceAdd, Nat.reduceLeDiff, Nat.zero_le, beq_self_eq_true, Nat.reduceBEq, decide_true, Bool.and_self, reduceCtorEq, ne_eq, not_true_eq_false, not_false_eq_true, false_implies, true_implies, Nat.reduceLT, Nat.reduceEqDiff, or_true, true_or, or_false, false_or, or_self, Int.reduceEq, Int.reduceNe, Int.reduceLT, Int.reduceLE, Int.reduceAdd, Int.reduceSub, Int.reduceMul, Int.reduceNeg, Int.reduceToNat, if_true, if_false, Classical.not_not, Int.cast_ofNat_Int, kd176, kd177, kd178, kd179, kd180, kd181, kd182, kd183, kd184, kd185, kd186, kd187, kd188, kd189, kd190, kd191, kd192, kd193, kd194, rf176_1, rf176_2, rf176_4, rf176_5, rf176_6, rf176_8, rf176_9, rf176_10, rf176_11, rf176_12, rf176_13, rf176_14, rf176_16, rf176_17, rf176_18, rf176_19, rf176_20, rf176_23, n7, p1, ct93 hS hw hi hi2 hv]
      exact h
    · rw [if_neg p1] at h
      by_cases p2 : what = 2
      · rw [if_pos p2, p2] at h
        simp (disch := first | omega | exact rfl) only [x112_59, x112_60, x112_67, x112_68, x112_69, x112_81, x112_82, x112_83, x112_86, x112_87, x112_89, x112_92, x112_120, isF, isK, isH, mK, nl_i, nl_n, nl_o, nl_r, c1_i, c1_r, mPush, mRv, G0_1, true_and, and_true, and_self, implies_true, List.length_nil, List.length_cons, Nat.reduceAdd, Nat.reduceLeDiff, Nat.zero_le, beq_self_eq_true, Nat.reduceBEq, decide_true, Bool.and_self, reduceCtorEq, ne_eq, not_true_eq_false, not_false_eq_true, false_implies, true_implies, Nat.reduceLT, Nat.reduceEqDiff, or_true, true_or, or_false, false_or, or_self, Int.reduceEq, Int.reduceNe, Int.reduceLT, Int.reduceLE, Int.reduceAdd, Int.reduceSub, Int.reduceMul, Int.reduceNeg, Int.reduceToNat, if_true, if_false, Classical.not_not, Int.cast_ofNat_Int, kd176, kd177, kd178, kd179, kd180, kd181, kd182, kd183, kd184, kd185, kd186, kd187, kd188, kd189, kd190, kd191, kd192, kd193, kd194, rf176_1, rf176_2, rf176_4, rf176_5, rf176_6, rf176_8, rf176_9, rf176_10, rf176_11, rf176_12, rf176_13, rf176_14, rf176_16, rf176_17, rf176_18, rf176_19, rf176_20, rf176_23, n7, p2, ct94 hS hw hi hi2 hv]
        exact h
      · rw [if_neg p2] at h
        by_cases p3 : what = 3
        · rw [if_pos p3, p3] at h
          simp (disch := first | omega | exact rfl) only [x112_59, x112_60, x112_67, x112_68, x112_69, x112_81, x112_82, x112_83, x112_95, x112_96, x112_97, x112_100, x112_101, x112_104, x112_106, x112_107, x112_120, isF, isK, isH, mK, nl_i, nl_n, nl_o, nl_r, c1_i, c1_r, mPush, mRv, G0_1, true_and, and_true, and_self, implies_true, List.length_nil, List.length_cons, Nat.reduceAdd, Nat.reduceLeDiff, Nat.zero_le, beq_self_eq_true, Nat.reduceBEq, decide_true, Bool.and_self, reduceCtorEq, ne_eq, not_true_eq_false, not_false_eq_true, false_implies, true_implies, Nat.reduceLT, Nat.reduceEqDiff, or_true, true_or, or_false, false_or, or_self, Int.reduceEq, Int.reduceNe, Int.reduceLT, Int.reduceLE, Int.reduceAdd, Int.reduceSub, Int.reduceMul, Int.reduceNeg, Int.reduceToNat, if_true, if_false, Classical.not_not, Int.cast_ofNat_Int, kd176, kd177, kd178, kd179, kd180, kd181, kd182, kd183, kd184, kd185, kd186, kd187, kd188, kd189, kd190, kd191, kd192, kd193, kd194, rf176_1, rf176_2, rf176_4, rf176_5, rf176_6, rf176_8, rf176_9, rf176_10, rf176_11, rf176_12, rf176_13, rf176_14, rf176_16, rf176_17, rf176_18, rf176_19, rf176_20, rf176_23, n7, p3, Int.toNat_natCast, e3, e4]
          exact h
        · rw [if_neg p3] at h
          simp (disch := first | omega | exact rfl) only [x112_59, x112_60, x112_67, x112_68, x112_69, x112_81, x112_82, x112_83, x112_95, x112_96, x112_97, x112_110, x112_111, x112_114, x112_116, x112_117, x112_120, isF, isK, isH, mK, nl_i, nl_n, nl_o, nl_r, c1_i, c1_r, mPush, mRv, G0_1, true_and, and_true, and_self, implies_true, List.length_nil, List.length_cons, Nat.reduceAdd, Nat.reduceLeDiff, Nat.zero_le, beq_self_eq_true, Nat.reduceBEq, decide_true, Bool.and_self, reduceCtorEq, ne_eq, not_true_eq_false, not_false_eq_true, false_implies, true_implies, Nat.reduceLT, Nat.reduceEqDiff, or_true, true_or, or_false, false_or, or_self, Int.reduceEq, Int.reduceNe, Int.reduceLT, Int.reduceLE, Int.reduceAdd, Int.reduceSub, Int.reduceMul, Int.reduceNeg, Int.reduceToNat, if_true, if_false, Classical.not_not, Int.cast_ofNat_Int, kd176, kd177, kd178, kd179, kd180, kd181, kd182, kd183, kd184, kd185, kd186, kd187, kd188, kd189, kd190, kd191, kd192, kd193, kd194, rf176_1, rf176_2, rf176_4, rf176_5, rf176_6, rf176_8, rf176_9, rf176_10, rf176_11, rf176_12, rf176_13, rf176_14, rf176_16, rf176_17, rf176_18, rf176_19, rf176_20, rf176_23, n7, p0, p1, p2, p3, Int.toNat_natCast, ct90, e3, e4]
          exact h
theorem itV_b (hw : wfR S) {what : Int} {i : Nat} (hi : i < 21) (hi2 : (i : Int) < S 6) (hv : okM S i (μ 185 i)) (hv2 : 0 ≤ μ 184 i ∧ μ 184 i ≤ 98901) : 0 ≤ itV S μ what i ∧ itV S μ what i ≤ 98901 := by
  have h1 := nb_rn hw hi hi2 hv
  obtain ⟨f1, f2, _⟩ := fmF_lt hw hi hi2
  have h2 := (hw.2.2.1 _ f1 f2).1
  have h3 := on_pd (by omega) hv
  unfold itV
  by_cases p0 : what = 0
  · rw [if_pos p0]; omega
  · rw [if_neg p0]
    by_cases p1 : what = 1
    · rw [if_pos p1]; omega
    · rw [if_neg p1]
      by_cases p2 : what = 2
      · rw [if_pos p2]; omega
      · rw [if_neg p2]
        by_cases p3 : what = 3
        · rw [if_pos p3]; omega
        · rw [if_neg p3]; omega
theorem zq112 (hS : RS μ S) (hw : wfR S) {N : Nat} (hN : S 6 = N) {film house what : Int} (hv : ∀ i, i < N → okM S i (μ 185 i) ∧ 0 ≤ μ 184 i ∧ μ 184 i ≤ 98901)
    (h : Q (some (.inl (sm (fun i => if cOv S film house i then itV S μ what i else 0) N))) G0 μ) : ∀ (m i : Nat), i + m = N → ∀ o6 o7 : Option MV, mNl (some o6) = true → mNl (some o7) = true →
    Wp E 112 6 [some (.inr (.inr (.inl 176))), some (.inl film), some (.inl house), some (.inl what), some (.inl (sm (fun i => if cOv S film house i then itV S μ what i else 0) i)), some (.inl i), o6, o7] [] G0 μ Q := by
  have hN2 := hw.1.2.2.2.2.2.2
  have e6 : μ 177 6 = N := by rw [hS.1 6 (by omega)]; exact hN
  intro m
  induction m with
  | zero =>
    intro i hi o6 o7 n6 n7
    have e : i = N := by omega
    subst e
    simp (disch := first | omega | exact rfl) only [x112_6, x112_8, x112_9, x112_12, x112_14, x112_15, x112_144, x112_146, isF, isK, isH, mK, nl_i, nl_n, nl_o, nl_r, c1_i, c1_r, mPush, mRv, G0_1, true_and, and_true, and_self, implies_true, List.length_nil, List.length_cons, Nat.reduceAdd, Nat.reduceLeDiff, Nat.zero_le, beq_self_eq_true, Nat.reduceBEq, decide_true, Bool.and_self, reduceCtorEq, ne_eq, not_true_eq_false, not_false_eq_true, false_implies, true_implies, Nat.reduceLT, Nat.reduceEqDiff, or_true, true_or, or_false, false_or, or_self, Int.reduceEq, Int.reduceNe, Int.reduceLT, Int.reduceLE, Int.reduceAdd, Int.reduceSub, Int.reduceMul, Int.reduceNeg, Int.reduceToNat, if_true, if_false, Classical.not_not, Int.cast_ofNat_Int, kd176, kd177, kd178, kd179, kd180, kd181, kd182, kd183, kd184, kd185, kd186, kd187, kd188, kd189, kd190, kd191, kd192, kd193, kd194, rf176_1, rf176_2, rf176_4, rf176_5, rf176_6, rf176_8, rf176_9, rf176_10, rf176_11, rf176_12, rf176_13, rf176_14, rf176_16, rf176_17, rf176_18, rf176_19, rf176_20, rf176_23, e6, Int.le_refl, Int.lt_irrefl]
    exact h
  | succ m ih =>
    intro i hi o6 o7 n6 n7
    have e1 : ¬ (N : Int) ≤ i := by omega
    have e2 : (i : Int) < N := by omega
    have eI : (i : Int) + 1 = ((i + 1 : Nat) : Int) := by omega
    have hb : ∀ j, j < N → 0 ≤ itV S μ what j ∧ itV S μ what j ≤ 98901 := fun j hj => itV_b hw (by omega) (by omega) (hv j hj).1 (hv j hj).2
    have b1 := sm_b (g := fun i => if cOv S film house i then itV S μ what i else 0) (B := 98901) i (fun j hj => ite_b (hb j (by omega)))
    have b2 := hb i (by omega)
    have e5 : sm (fun i => if cOv S film house i then itV S μ what i else 0) (i + 1) = sm (fun i => if cOv S film house i then itV S μ what i else 0) i + (if cOv S film house i then itV S μ what i else 0) := rfl
    generalize sm (fun i => if cOv S film house i then itV S μ what i else 0) i = s0 at *
    simp (disch := first | omega | exact rfl) only [x112_6, x112_8, x112_9, x112_12, x112_14, x112_15, isF, isK, isH, mK, nl_i, nl_n, nl_o, nl_r, c1_i, c1_r, mPush, mRv, G0_1, true_and, and_true, and_self, implies_true, List.length_nil, List.length_cons, Nat.reduceAdd, Nat.reduceLeDiff, Nat.zero_le, beq_self_eq_true, Nat.reduceBEq, decide_true, Bool.and_self, reduceCtorEq, ne_eq, not_true_eq_false, not_false_eq_true, false_implies, true_implies, Nat.reduceLT, Nat.reduceEqDiff, or_true, true_or, or_false, false_or, or_self, Int.reduceEq, Int.reduceNe, Int.reduceLT, Int.reduceLE, Int.reduceAdd, Int.reduceSub, Int.reduceMul, Int.reduceNeg, Int.reduceToNat, if_true, if_false, Classical.not_not, Int.cast_ofNat_Int, kd176, kd177, kd178, kd179, kd180, kd181, kd182, kd183, kd184, kd185, kd186, kd187, kd188, kd189, kd190, kd191, kd192, kd193, kd194, rf176_1, rf176_2, rf176_4, rf176_5, rf176_6, rf176_8, rf176_9, rf176_10, rf176_11, rf176_12, rf176_13, rf176_14, rf176_16, rf176_17, rf176_18, rf176_19, rf176_20, rf176_23, e6, e1, e2]
    refine g112a hS (by omega) n6 (fun v hv1 => ?_)
    refine g112b hS hw (by omega) (by omega) (hv i (by omega)).1 n7 ?_
    rcases hv1 with ⟨z1, z2⟩ | ⟨z1, z2⟩
    · subst z1
      rw [if_pos z2] at e5
      simp (disch := first | omega | exact rfl) only [x112_122, x112_124, x112_126, x112_129, x112_131, x112_135, x112_136, x112_138, isF, isK, isH, mK, nl_i, nl_n, nl_o, nl_r, c1_i, c1_r, mPush, mRv, G0_1, true_and, and_true, and_self, implies_true, List.length_nil, List.length_cons, Nat.reduceAdd, Nat.reduceLeDiff, Nat.zero_le, beq_self_eq_true, Nat.reduceBEq, decide_true, Bool.and_self, reduceCtorEq, ne_eq, not_true_eq_false, not_false_eq_true, false_implies, true_implies, Nat.reduceLT, Nat.reduceEqDiff, or_true, true_or, or_false, false_or, or_self, Int.reduceEq, Int.reduceNe, Int.reduceLT, Int.reduceLE, Int.reduceAdd, Int.reduceSub, Int.reduceMul, Int.reduceNeg, Int.reduceToNat, if_true, if_false, Classical.not_not, Int.cast_ofNat_Int, mWr_of]
      rw [x112_141, eI, ← e5]
      exact ih (i + 1) (by omega) _ _ rfl rfl
    · subst z1
      rw [if_neg z2] at e5
      simp (disch := first | omega | exact rfl) only [x112_122, x112_124, x112_126, x112_134, x112_135, x112_136, x112_138, isF, isK, isH, mK, nl_i, nl_n, nl_o, nl_r, c1_i, c1_r, mPush, mRv, G0_1, true_and, and_true, and_self, implies_true, List.length_nil, List.length_cons, Nat.reduceAdd, Nat.reduceLeDiff, Nat.zero_le, beq_self_eq_true, Nat.reduceBEq, decide_true, Bool.and_self, reduceCtorEq, ne_eq, not_true_eq_false, not_false_eq_true, false_implies, true_implies, Nat.reduceLT, Nat.reduceEqDiff, or_true, true_or, or_false, false_or, or_self, Int.reduceEq, Int.reduceNe, Int.reduceLT, Int.reduceLE, Int.reduceAdd, Int.reduceSub, Int.reduceMul, Int.reduceNeg, Int.reduceToNat, if_true, if_false, Classical.not_not, Int.cast_ofNat_Int, mWr_of]
      rw [x112_141, eI, ← e5]
      exact ih (i + 1) (by omega) _ _ rfl rfl
theorem ct112 (hS : RS μ S) (hw : wfR S) {N : Nat} (hN : S 6 = N) {film house what : Int} (hv : ∀ i, i < N → okM S i (μ 185 i) ∧ 0 ≤ μ 184 i ∧ μ 184 i ≤ 98901)
    (h : Q (some (.inl (sm (fun i => if cOv S film house i then itV S μ what i else 0) N))) G0 μ) : Wp E 112 0 [some (.inr (.inr (.inl 176))), some (.inl film), some (.inl house), some (.inl what), none, none, none, none] [] G0 μ Q := by
  simp (disch := first | omega | exact rfl) only [x112_0, x112_1, x112_3, x112_4, isF, isK, isH, mK, nl_i, nl_n, nl_o, nl_r, c1_i, c1_r, mPush, mRv, G0_1, true_and, and_true, and_self, implies_true, List.length_nil, List.length_cons, Nat.reduceAdd, Nat.reduceLeDiff, Nat.zero_le, beq_self_eq_true, Nat.reduceBEq, decide_true, Bool.and_self, reduceCtorEq, ne_eq, not_true_eq_false, not_false_eq_true, false_implies, true_implies, Nat.reduceLT, Nat.reduceEqDiff, or_true, true_or, or_false, false_or, or_self, Int.reduceEq, Int.reduceNe, Int.reduceLT, Int.reduceLE, Int.reduceAdd, Int.reduceSub, Int.reduceMul, Int.reduceNeg, Int.reduceToNat, if_true, if_false, Classical.not_not, Int.cast_ofNat_Int]
  exact zq112 hS hw hN hv h N 0 (by omega) _ _ rfl rfl
end SUM3
