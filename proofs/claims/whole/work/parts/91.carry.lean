def rO (s : Row) (c : Int) (V : Nat → Int) : Int := if c = 102 then rFilm s (V 0) (V 1) (V 2) else if c = 115 then rShow s (V 0) (V 1) (V 2) (V 3) else if c = 119 then rWay (V 0) (V 1) (V 2) else if c = 116 then rTear s (V 0) (V 1) (V 2) else rDrop s (V 0)
def lO (s : Row) (c : Int) (V : Nat → Int) : Row := if c = 102 then lFilm s (V 0) (V 1) (V 2) else if c = 115 then lShow s (V 0) (V 1) (V 2) (V 3) else if c = 119 then lWay s (V 0) (V 1) (V 2) else if c = 116 then lTear s (V 0) (V 1) (V 2 + 1) else lDrop s (V 0)
theorem r_film {s : Row} {a b c : Int} : rFilm s a b c = 0 ∨ (rFilm s a b c < 0 ∧ ¬ rFilm s a b c = -6) := by unfold rFilm; omega
theorem r_way {a b c : Int} : rWay a b c = 0 ∨ (rWay a b c < 0 ∧ ¬ rWay a b c = -6) := by unfold rWay; omega
theorem r_show {s : Row} {a b c d : Int} : rShow s a b c d = 0 ∨ (rShow s a b c d < 0 ∧ ¬ rShow s a b c d = -6) := by unfold rShow; omega
theorem r_tear {s : Row} {a b c : Int} : rTear s a b c = 0 ∨ (rTear s a b c < 0 ∧ ¬ rTear s a b c = -6) := by
  unfold rTear
  by_cases p : isR s a b
  · rw [if_neg (fun z => z p)]; omega
  · rw [if_pos p]; omega
theorem r_drop {s : Row} {a : Int} : rDrop s a = 0 ∨ (rDrop s a < 0 ∧ ¬ rDrop s a = -6) := by unfold rDrop; omega
theorem wf_lO {s : Row} {c : Int} {V : Nat → Int} (hw : wf s) (h : rO s c V = 0) : wf (lO s c V) := by
  unfold rO at h
  unfold lO
  by_cases c1 : c = 102
  · rw [if_pos c1] at h ⊢; exact wf_film hw h
  rw [if_neg c1] at h ⊢
  by_cases c2 : c = 115
  · rw [if_pos c2] at h ⊢; exact wf_show hw h
  rw [if_neg c2] at h ⊢
  by_cases c3 : c = 119
  · rw [if_pos c3] at h ⊢; exact wf_way hw h
  rw [if_neg c3] at h ⊢
  by_cases c4 : c = 116
  · rw [if_pos c4] at h ⊢
    unfold rTear at h
    by_cases p : isR s (V 0) (V 1)
    · rw [if_neg (fun z => z p)] at h
      exact wf_tear hw p (by omega)
    · rw [if_pos p] at h; omega
  rw [if_neg c4] at h ⊢
  unfold rDrop at h
  by_cases p : isK s (V 0)
  · exact wf_drop hw p
  · rw [if_neg p] at h; omega
section CAR
variable {E : ME} {Q : Option MV → MG → MU → Prop}
theorem ct69 {μ : MU} {s : Row} {c : Int} {V : Nat → Int} (hw : wf s) (hs : cRel μ 1 s) (h4 : μ 128 4 = c) (hc : isL c) (hV : ∀ j, j < nN (mk_txt (shx c)) → μ 130 j = V j)
    (hQ : ∀ (μ' : MU) (v : Int), frC 1 μ μ' → cRel μ' 1 (if rO s c V = 0 then lO s c V else s) → (rO s c V = 0 → ¬ (v < 0 ∧ ¬ v = -6)) → (¬ rO s c V = 0 → v < 0 ∧ ¬ v = -6) → Q (some (.inl v)) G0 μ') :
    Wp E 69 0 [some (.inr (.inr (.inl 0))), none] [] G0 μ Q := by
  have h5 := hw.1.2.2.2.2.2.1
  have h6 := hw.1.2.2.2.2.2.2
  unfold rO lO at hQ
  rcases hc with z | z | z | z | z
  · subst z
    have v0 := hV 0 (by decide)
    have v1 := hV 1 (by decide)
    have v2 := hV 2 (by decide)
    simp only [if_true] at hQ
    simp (disch := first | omega | exact rfl) only [x69_0, x69_1, x69_4, x69_7, x69_8, x69_9, x69_12, x69_15_102, x69_56, x69_57, x69_60, x69_61, x69_62, x69_63, x69_64, x69_65, x69_66, x69_67, x69_68, x69_69, isF, isK, isH, mK, nl_i, nl_n, nl_o, nl_r, c1_i, c1_r, mPush, mRv, G0_1, true_and, and_true, and_self, implies_true, List.length_nil, List.length_cons, Nat.reduceAdd, Nat.reduceLeDiff, Nat.zero_le, beq_self_eq_true, Nat.reduceBEq, decide_true, Bool.and_self, reduceCtorEq, ne_eq, not_true_eq_false, not_false_eq_true, false_implies, true_implies, Nat.reduceLT, Nat.reduceEqDiff, or_true, true_or, or_false, false_or, or_self, Int.reduceEq, Int.reduceNe, Int.reduceLT, Int.reduceLE, Int.reduceAdd, Int.reduceSub, Int.reduceMul, Int.reduceNeg, Int.reduceToNat, if_true, if_false, Classical.not_not, Int.cast_ofNat_Int, kd0, rf0_0, rf0_1, rf0_2, rf0_3, rf0_4, rf0_5, rf0_6, rf0_7, rf0_8, kd128, kd129, kd130, rf128_0, rf128_1, kd1, h4, v0, v1, v2]
    refine ct7 gC1 hw hs (fun μ1 k1 k2 => ?_)
    simp (disch := first | omega | exact rfl) only [x69_72, isF, isK, isH, mK, nl_i, nl_n, nl_o, nl_r, c1_i, c1_r, mPush, mRv, G0_1, true_and, and_true, and_self, implies_true, List.length_nil, List.length_cons, Nat.reduceAdd, Nat.reduceLeDiff, Nat.zero_le, beq_self_eq_true, Nat.reduceBEq, decide_true, Bool.and_self, reduceCtorEq, ne_eq, not_true_eq_false, not_false_eq_true, false_implies, true_implies, Nat.reduceLT, Nat.reduceEqDiff, or_true, true_or, or_false, false_or, or_self, Int.reduceEq, Int.reduceNe, Int.reduceLT, Int.reduceLE, Int.reduceAdd, Int.reduceSub, Int.reduceMul, Int.reduceNeg, Int.reduceToNat, if_true, if_false, Classical.not_not, Int.cast_ofNat_Int]
    refine hQ μ1 _ k1 k2 (fun y => by rw [if_pos y]; omega) (fun y => by rw [if_neg y]; exact r_film.resolve_left y)
  · subst z
    have v0 := hV 0 (by decide)
    have v1 := hV 1 (by decide)
    have v2 := hV 2 (by decide)
    have v3 := hV 3 (by decide)
    rw [if_neg (show ¬ (115 : Int) = 102 by omega), if_neg (show ¬ (115 : Int) = 102 by omega)] at hQ
    simp only [if_true] at hQ
    simp (disch := first | omega | exact rfl) only [x69_0, x69_1, x69_4, x69_7, x69_8, x69_9, x69_12, x69_15_115, x69_73, x69_74, x69_77, x69_78, x69_79, x69_80, x69_81, x69_82, x69_83, x69_84, x69_85, x69_86, x69_87, x69_88, x69_89, isF, isK, isH, mK, nl_i, nl_n, nl_o, nl_r, c1_i, c1_r, mPush, mRv, G0_1, true_and, and_true, and_self, implies_true, List.length_nil, List.length_cons, Nat.reduceAdd, Nat.reduceLeDiff, Nat.zero_le, beq_self_eq_true, Nat.reduceBEq, decide_true, Bool.and_self, reduceCtorEq, ne_eq, not_true_eq_false, not_false_eq_true, false_implies, true_implies, Nat.reduceLT, Nat.reduceEqDiff, or_true, true_or, or_false, false_or, or_self, Int.reduceEq, Int.reduceNe, Int.reduceLT, Int.reduceLE, Int.reduceAdd, Int.reduceSub, Int.reduceMul, Int.reduceNeg, Int.reduceToNat, if_true, if_false, Classical.not_not, Int.cast_ofNat_Int, kd0, rf0_0, rf0_1, rf0_2, rf0_3, rf0_4, rf0_5, rf0_6, rf0_7, rf0_8, kd128, kd129, kd130, rf128_0, rf128_1, kd1, h4, v0, v1, v2, v3]
    refine ct10 gC1 hw hs (fun μ1 k1 k2 => ?_)
    simp (disch := first | omega | exact rfl) only [x69_92, isF, isK, isH, mK, nl_i, nl_n, nl_o, nl_r, c1_i, c1_r, mPush, mRv, G0_1, true_and, and_true, and_self, implies_true, List.length_nil, List.length_cons, Nat.reduceAdd, Nat.reduceLeDiff, Nat.zero_le, beq_self_eq_true, Nat.reduceBEq, decide_true, Bool.and_self, reduceCtorEq, ne_eq, not_true_eq_false, not_false_eq_true, false_implies, true_implies, Nat.reduceLT, Nat.reduceEqDiff, or_true, true_or, or_false, false_or, or_self, Int.reduceEq, Int.reduceNe, Int.reduceLT, Int.reduceLE, Int.reduceAdd, Int.reduceSub, Int.reduceMul, Int.reduceNeg, Int.reduceToNat, if_true, if_false, Classical.not_not, Int.cast_ofNat_Int]
    refine hQ μ1 _ k1 k2 (fun y => by rw [if_pos y]; omega) (fun y => by rw [if_neg y]; exact r_show.resolve_left y)
  · subst z
    have v0 := hV 0 (by decide)
    have v1 := hV 1 (by decide)
    have v2 := hV 2 (by decide)
    rw [if_neg (show ¬ (119 : Int) = 102 by omega), if_neg (show ¬ (119 : Int) = 115 by omega), if_neg (show ¬ (119 : Int) = 102 by omega), if_neg (show ¬ (119 : Int) = 115 by omega)] at hQ
    simp only [if_true] at hQ
    simp (disch := first | omega | exact rfl) only [x69_0, x69_1, x69_4, x69_7, x69_8, x69_9, x69_12, x69_15_119, x69_93, x69_94, x69_97, x69_98, x69_99, x69_100, x69_101, x69_102, x69_103, x69_104, x69_105, x69_106, isF, isK, isH, mK, nl_i, nl_n, nl_o, nl_r, c1_i, c1_r, mPush, mRv, G0_1, true_and, and_true, and_self, implies_true, List.length_nil, List.length_cons, Nat.reduceAdd, Nat.reduceLeDiff, Nat.zero_le, beq_self_eq_true, Nat.reduceBEq, decide_true, Bool.and_self, reduceCtorEq, ne_eq, not_true_eq_false, not_false_eq_true, false_implies, true_implies, Nat.reduceLT, Nat.reduceEqDiff, or_true, true_or, or_false, false_or, or_self, Int.reduceEq, Int.reduceNe, Int.reduceLT, Int.reduceLE, Int.reduceAdd, Int.reduceSub, Int.reduceMul, Int.reduceNeg, Int.reduceToNat, if_true, if_false, Classical.not_not, Int.cast_ofNat_Int, kd0, rf0_0, rf0_1, rf0_2, rf0_3, rf0_4, rf0_5, rf0_6, rf0_7, rf0_8, kd128, kd129, kd130, rf128_0, rf128_1, kd1, h4, v0, v1, v2]
    refine ct8 gC1 hs (fun μ1 k1 k2 => ?_)
    simp (disch := first | omega | exact rfl) only [x69_109, isF, isK, isH, mK, nl_i, nl_n, nl_o, nl_r, c1_i, c1_r, mPush, mRv, G0_1, true_and, and_true, and_self, implies_true, List.length_nil, List.length_cons, Nat.reduceAdd, Nat.reduceLeDiff, Nat.zero_le, beq_self_eq_true, Nat.reduceBEq, decide_true, Bool.and_self, reduceCtorEq, ne_eq, not_true_eq_false, not_false_eq_true, false_implies, true_implies, Nat.reduceLT, Nat.reduceEqDiff, or_true, true_or, or_false, false_or, or_self, Int.reduceEq, Int.reduceNe, Int.reduceLT, Int.reduceLE, Int.reduceAdd, Int.reduceSub, Int.reduceMul, Int.reduceNeg, Int.reduceToNat, if_true, if_false, Classical.not_not, Int.cast_ofNat_Int]
    refine hQ μ1 _ k1 k2 (fun y => ?_) (fun y => by rw [if_neg y]; exact r_way.resolve_left y)
    rw [if_pos y]
    unfold rWay at y
    have b := (hw.2.1 (V 0).toNat (V 1).toNat (by omega) (by omega)).2
    omega
  · subst z
    have v0 := hV 0 (by decide)
    have v1 := hV 1 (by decide)
    have v2 := hV 2 (by decide)
    rw [if_neg (show ¬ (116 : Int) = 102 by omega), if_neg (show ¬ (116 : Int) = 115 by omega), if_neg (show ¬ (116 : Int) = 119 by omega), if_neg (show ¬ (116 : Int) = 102 by omega), if_neg (show ¬ (116 : Int) = 115 by omega), if_neg (show ¬ (116 : Int) = 119 by omega)] at hQ
    simp only [if_true] at hQ
    simp (disch := first | omega | exact rfl) only [x69_0, x69_1, x69_4, x69_7, x69_8, x69_9, x69_12, x69_15_116, x69_110, x69_111, x69_114, x69_115, x69_116, x69_117, x69_118, x69_119, x69_120, x69_121, x69_122, x69_123, isF, isK, isH, mK, nl_i, nl_n, nl_o, nl_r, c1_i, c1_r, mPush, mRv, G0_1, true_and, and_true, and_self, implies_true, List.length_nil, List.length_cons, Nat.reduceAdd, Nat.reduceLeDiff, Nat.zero_le, beq_self_eq_true, Nat.reduceBEq, decide_true, Bool.and_self, reduceCtorEq, ne_eq, not_true_eq_false, not_false_eq_true, false_implies, true_implies, Nat.reduceLT, Nat.reduceEqDiff, or_true, true_or, or_false, false_or, or_self, Int.reduceEq, Int.reduceNe, Int.reduceLT, Int.reduceLE, Int.reduceAdd, Int.reduceSub, Int.reduceMul, Int.reduceNeg, Int.reduceToNat, if_true, if_false, Classical.not_not, Int.cast_ofNat_Int, kd0, rf0_0, rf0_1, rf0_2, rf0_3, rf0_4, rf0_5, rf0_6, rf0_7, rf0_8, kd128, kd129, kd130, rf128_0, rf128_1, kd1, h4, v0, v1, v2]
    refine ct12 gC1 hw hs (fun μ1 k1 k2 => ?_)
    simp (disch := first | omega | exact rfl) only [x69_126, isF, isK, isH, mK, nl_i, nl_n, nl_o, nl_r, c1_i, c1_r, mPush, mRv, G0_1, true_and, and_true, and_self, implies_true, List.length_nil, List.length_cons, Nat.reduceAdd, Nat.reduceLeDiff, Nat.zero_le, beq_self_eq_true, Nat.reduceBEq, decide_true, Bool.and_self, reduceCtorEq, ne_eq, not_true_eq_false, not_false_eq_true, false_implies, true_implies, Nat.reduceLT, Nat.reduceEqDiff, or_true, true_or, or_false, false_or, or_self, Int.reduceEq, Int.reduceNe, Int.reduceLT, Int.reduceLE, Int.reduceAdd, Int.reduceSub, Int.reduceMul, Int.reduceNeg, Int.reduceToNat, if_true, if_false, Classical.not_not, Int.cast_ofNat_Int]
    refine hQ μ1 _ k1 k2 (fun y => ?_) (fun y => by rw [if_neg y]; exact r_tear.resolve_left y)
    rw [if_pos y]
    unfold rTear at y
    by_cases p : isR s (V 0) (V 1)
    · obtain ⟨⟨p1, p2⟩, p3, p4⟩ := p
      have b := (hw.2.2.1 (V 0).toNat (by omega) (by omega))
      have b2 := (b.2.2.2 (V 1).toNat (by omega)).1
      unfold tornOf
      omega
    · rw [if_pos p] at y; omega
  · subst z
    have v0 := hV 0 (by decide)
    rw [if_neg (show ¬ (45 : Int) = 102 by omega), if_neg (show ¬ (45 : Int) = 115 by omega), if_neg (show ¬ (45 : Int) = 119 by omega), if_neg (show ¬ (45 : Int) = 116 by omega), if_neg (show ¬ (45 : Int) = 102 by omega), if_neg (show ¬ (45 : Int) = 115 by omega), if_neg (show ¬ (45 : Int) = 119 by omega), if_neg (show ¬ (45 : Int) = 116 by omega)] at hQ
    simp (disch := first | omega | exact rfl) only [x69_0, x69_1, x69_4, x69_7, x69_8, x69_9, x69_12, x69_15_d, x69_127, x69_128, x69_131, x69_132, x69_133, x69_134, isF, isK, isH, mK, nl_i, nl_n, nl_o, nl_r, c1_i, c1_r, mPush, mRv, G0_1, true_and, and_true, and_self, implies_true, List.length_nil, List.length_cons, Nat.reduceAdd, Nat.reduceLeDiff, Nat.zero_le, beq_self_eq_true, Nat.reduceBEq, decide_true, Bool.and_self, reduceCtorEq, ne_eq, not_true_eq_false, not_false_eq_true, false_implies, true_implies, Nat.reduceLT, Nat.reduceEqDiff, or_true, true_or, or_false, false_or, or_self, Int.reduceEq, Int.reduceNe, Int.reduceLT, Int.reduceLE, Int.reduceAdd, Int.reduceSub, Int.reduceMul, Int.reduceNeg, Int.reduceToNat, if_true, if_false, Classical.not_not, Int.cast_ofNat_Int, kd0, rf0_0, rf0_1, rf0_2, rf0_3, rf0_4, rf0_5, rf0_6, rf0_7, rf0_8, kd128, kd129, kd130, rf128_0, rf128_1, kd1, h4, v0]
    refine ct11 gC1 hw hs (fun μ1 k1 k2 => ?_)
    simp (disch := first | omega | exact rfl) only [x69_137, isF, isK, isH, mK, nl_i, nl_n, nl_o, nl_r, c1_i, c1_r, mPush, mRv, G0_1, true_and, and_true, and_self, implies_true, List.length_nil, List.length_cons, Nat.reduceAdd, Nat.reduceLeDiff, Nat.zero_le, beq_self_eq_true, Nat.reduceBEq, decide_true, Bool.and_self, reduceCtorEq, ne_eq, not_true_eq_false, not_false_eq_true, false_implies, true_implies, Nat.reduceLT, Nat.reduceEqDiff, or_true, true_or, or_false, false_or, or_self, Int.reduceEq, Int.reduceNe, Int.reduceLT, Int.reduceLE, Int.reduceAdd, Int.reduceSub, Int.reduceMul, Int.reduceNeg, Int.reduceToNat, if_true, if_false, Classical.not_not, Int.cast_ofNat_Int]
    unfold rDrop at hQ
    by_cases p : isK s (V 0)
    · simp only [if_pos p] at hQ k2 ⊢
      refine hQ μ1 _ k1 (by first | exact k2 | (rw [if_pos rfl]; exact k2)) (fun _ => by omega) (fun y => absurd (by first | exact trivial | exact rfl) y)
    · simp only [if_neg p] at hQ k2 ⊢
      refine hQ μ1 _ k1 (by first | exact k2 | (rw [if_neg (by omega)]; exact k2)) (fun y => by first | omega | exact absurd y (by omega)) (fun _ => by omega)
end CAR
