section CAR2
variable {E : ME} {Q : Option MV → MG → MU → Prop}
theorem ct136 {μ : MU} {s : Row} {c : Int} {V : Nat → Int} {K : Nat} (hK : K ≤ 40) (hs : μ 177 = s) (hw : wf s) (hc : isL c) (h0 : μ 194 (5 * K) = c) (hV : ∀ j, j < nN (mk_txt (shx c)) → μ 194 (5 * K + 1 + j) = V j) :
    Wp E 136 0 [some (.inr (.inr (.inl 176))), some (.inl ((5 * K : Nat) : Int))] [] G0 μ Q = Q (some (.inl (rO s c V))) G0 μ := by
  subst hs
  have i0 : (0 : Int) ≤ ((5 * K : Nat) : Int) := by omega
  have j0 : ((5 * K : Nat) : Int) < 240 := by omega
  have z1 : ((5 * K : Nat) : Int) + 1 = ((5 * K + 1 : Nat) : Int) := by omega
  have z2 : ((5 * K : Nat) : Int) + 2 = ((5 * K + 2 : Nat) : Int) := by omega
  have z3 : ((5 * K : Nat) : Int) + 3 = ((5 * K + 3 : Nat) : Int) := by omega
  have z4 : ((5 * K : Nat) : Int) + 4 = ((5 * K + 4 : Nat) : Int) := by omega
  have i1 : (0 : Int) ≤ ((5 * K + 1 : Nat) : Int) := by omega
  have j1 : ((5 * K + 1 : Nat) : Int) < 240 := by omega
  have i2 : (0 : Int) ≤ ((5 * K + 2 : Nat) : Int) := by omega
  have j2 : ((5 * K + 2 : Nat) : Int) < 240 := by omega
  have i3 : (0 : Int) ≤ ((5 * K + 3 : Nat) : Int) := by omega
  have j3 : ((5 * K + 3 : Nat) : Int) < 240 := by omega
  have i4 : (0 : Int) ≤ ((5 * K + 4 : Nat) : Int) := by omega
  have j4 : ((5 * K + 4 : Nat) : Int) < 240 := by omega
  have z0 : True := trivial
  rcases hc with z | z | z | z | z <;> subst z
  · have v0 : μ 194 (5 * K + 1) = V 0 := hV 0 (by decide)
    have v1 : μ 194 (5 * K + 2) = V 1 := hV 1 (by decide)
    have v2 : μ 194 (5 * K + 3) = V 2 := hV 2 (by decide)
    have e : rO (μ 177) 102 V = rFilm (μ 177) (V 0) (V 1) (V 2) := if_pos rfl
    rw [e]
    simp (disch := first | omega | exact rfl) only [x136_0, x136_1, x136_4, x136_5, x136_6_102, x136_48, x136_49, x136_50, x136_53, x136_54, x136_55, x136_56, x136_57, x136_58, x136_61, x136_62, x136_63, x136_64, x136_65, x136_66, x136_69, x136_70, x136_71, x136_72, x136_73, x136_76, isF, isK, isH, mK, nl_i, nl_n, nl_o, nl_r, c1_i, c1_r, mPush, mRv, G0_1, true_and, and_true, and_self, implies_true, List.length_nil, List.length_cons, Nat.reduceAdd, Nat.reduceLeDiff, Nat.zero_le, beq_self_eq_true, Nat.reduceBEq, decide_true, Bool.and_self, reduceCtorEq, ne_eq, not_true_eq_false, not_false_eq_true, false_implies, true_implies, Nat.reduceLT, Nat.reduceEqDiff, or_true, true_or, or_false, false_or, or_self, Int.reduceEq, Int.reduceNe, Int.reduceLT, Int.reduceLE, Int.reduceAdd, Int.reduceSub, Int.reduceMul, Int.reduceNeg, Int.reduceToNat, if_true, if_false, Classical.not_not, Int.cast_ofNat_Int, kd176, kd177, kd178, kd179, kd180, kd181, kd182, kd183, kd184, kd185, kd186, kd187, kd188, kd189, kd190, kd191, kd192, kd193, kd194, rf176_1, rf176_2, rf176_4, rf176_5, rf176_6, rf176_8, rf176_9, rf176_10, rf176_11, rf176_12, rf176_13, rf176_14, rf176_16, rf176_17, rf176_18, rf176_19, rf176_20, rf176_23, i0, i1, i2, i3, i4, j0, j1, j2, j3, j4, z0, z1, z2, z3, z4, mWr_of, Int.toNat_natCast, h0, v0, v1, v2, ct97]
  · have v0 : μ 194 (5 * K + 1) = V 0 := hV 0 (by decide)
    have v1 : μ 194 (5 * K + 2) = V 1 := hV 1 (by decide)
    have v2 : μ 194 (5 * K + 3) = V 2 := hV 2 (by decide)
    have v3 : μ 194 (5 * K + 4) = V 3 := hV 3 (by decide)
    have e : rO (μ 177) 115 V = rShow (μ 177) (V 0) (V 1) (V 2) (V 3) := by unfold rO; rw [if_neg (by omega), if_pos rfl]
    rw [e]
    simp (disch := first | omega | exact rfl) only [x136_0, x136_1, x136_4, x136_5, x136_6_115, x136_77, x136_78, x136_79, x136_82, x136_83, x136_84, x136_85, x136_86, x136_87, x136_90, x136_91, x136_92, x136_93, x136_94, x136_95, x136_98, x136_99, x136_100, x136_101, x136_102, x136_103, x136_106, x136_107, x136_108, x136_109, x136_110, x136_113, isF, isK, isH, mK, nl_i, nl_n, nl_o, nl_r, c1_i, c1_r, mPush, mRv, G0_1, true_and, and_true, and_self, implies_true, List.length_nil, List.length_cons, Nat.reduceAdd, Nat.reduceLeDiff, Nat.zero_le, beq_self_eq_true, Nat.reduceBEq, decide_true, Bool.and_self, reduceCtorEq, ne_eq, not_true_eq_false, not_false_eq_true, false_implies, true_implies, Nat.reduceLT, Nat.reduceEqDiff, or_true, true_or, or_false, false_or, or_self, Int.reduceEq, Int.reduceNe, Int.reduceLT, Int.reduceLE, Int.reduceAdd, Int.reduceSub, Int.reduceMul, Int.reduceNeg, Int.reduceToNat, if_true, if_false, Classical.not_not, Int.cast_ofNat_Int, kd176, kd177, kd178, kd179, kd180, kd181, kd182, kd183, kd184, kd185, kd186, kd187, kd188, kd189, kd190, kd191, kd192, kd193, kd194, rf176_1, rf176_2, rf176_4, rf176_5, rf176_6, rf176_8, rf176_9, rf176_10, rf176_11, rf176_12, rf176_13, rf176_14, rf176_16, rf176_17, rf176_18, rf176_19, rf176_20, rf176_23, i0, i1, i2, i3, i4, j0, j1, j2, j3, j4, z0, z1, z2, z3, z4, mWr_of, Int.toNat_natCast, h0, v0, v1, v2, v3, ct103 hw]
  · have v0 : μ 194 (5 * K + 1) = V 0 := hV 0 (by decide)
    have v1 : μ 194 (5 * K + 2) = V 1 := hV 1 (by decide)
    have v2 : μ 194 (5 * K + 3) = V 2 := hV 2 (by decide)
    have e : rO (μ 177) 119 V = rWay (V 0) (V 1) (V 2) := by unfold rO; rw [if_neg (by omega), if_neg (by omega), if_pos rfl]
    rw [e]
    simp (disch := first | omega | exact rfl) only [x136_0, x136_1, x136_4, x136_5, x136_6_119, x136_114, x136_115, x136_118, x136_119, x136_120, x136_121, x136_122, x136_123, x136_126, x136_127, x136_128, x136_129, x136_130, x136_131, x136_134, x136_135, x136_136, x136_137, x136_138, x136_141, isF, isK, isH, mK, nl_i, nl_n, nl_o, nl_r, c1_i, c1_r, mPush, mRv, G0_1, true_and, and_true, and_self, implies_true, List.length_nil, List.length_cons, Nat.reduceAdd, Nat.reduceLeDiff, Nat.zero_le, beq_self_eq_true, Nat.reduceBEq, decide_true, Bool.and_self, reduceCtorEq, ne_eq, not_true_eq_false, not_false_eq_true, false_implies, true_implies, Nat.reduceLT, Nat.reduceEqDiff, or_true, true_or, or_false, false_or, or_self, Int.reduceEq, Int.reduceNe, Int.reduceLT, Int.reduceLE, Int.reduceAdd, Int.reduceSub, Int.reduceMul, Int.reduceNeg, Int.reduceToNat, if_true, if_false, Classical.not_not, Int.cast_ofNat_Int, kd176, kd177, kd178, kd179, kd180, kd181, kd182, kd183, kd184, kd185, kd186, kd187, kd188, kd189, kd190, kd191, kd192, kd193, kd194, rf176_1, rf176_2, rf176_4, rf176_5, rf176_6, rf176_8, rf176_9, rf176_10, rf176_11, rf176_12, rf176_13, rf176_14, rf176_16, rf176_17, rf176_18, rf176_19, rf176_20, rf176_23, i0, i1, i2, i3, i4, j0, j1, j2, j3, j4, z0, z1, z2, z3, z4, mWr_of, Int.toNat_natCast, h0, v0, v1, v2, ct100]
  · have v0 : μ 194 (5 * K + 1) = V 0 := hV 0 (by decide)
    have v1 : μ 194 (5 * K + 2) = V 1 := hV 1 (by decide)
    have v2 : μ 194 (5 * K + 3) = V 2 := hV 2 (by decide)
    have e : rO (μ 177) 116 V = rTear (μ 177) (V 0) (V 1) (V 2) := by unfold rO; rw [if_neg (by omega), if_neg (by omega), if_neg (by omega), if_pos rfl]
    rw [e]
    simp (disch := first | omega | exact rfl) only [x136_0, x136_1, x136_4, x136_5, x136_6_116, x136_142, x136_143, x136_144, x136_147, x136_148, x136_149, x136_150, x136_151, x136_152, x136_155, x136_156, x136_157, x136_158, x136_159, x136_160, x136_163, x136_164, x136_165, x136_166, x136_167, x136_170, isF, isK, isH, mK, nl_i, nl_n, nl_o, nl_r, c1_i, c1_r, mPush, mRv, G0_1, true_and, and_true, and_self, implies_true, List.length_nil, List.length_cons, Nat.reduceAdd, Nat.reduceLeDiff, Nat.zero_le, beq_self_eq_true, Nat.reduceBEq, decide_true, Bool.and_self, reduceCtorEq, ne_eq, not_true_eq_false, not_false_eq_true, false_implies, true_implies, Nat.reduceLT, Nat.reduceEqDiff, or_true, true_or, or_false, false_or, or_self, Int.reduceEq, Int.reduceNe, Int.reduceLT, Int.reduceLE, Int.reduceAdd, Int.reduceSub, Int.reduceMul, Int.reduceNeg, Int.reduceToNat, if_true, if_false, Classical.not_not, Int.cast_ofNat_Int, kd176, kd177, kd178, kd179, kd180, kd181, kd182, kd183, kd184, kd185, kd186, kd187, kd188, kd189, kd190, kd191, kd192, kd193, kd194, rf176_1, rf176_2, rf176_4, rf176_5, rf176_6, rf176_8, rf176_9, rf176_10, rf176_11, rf176_12, rf176_13, rf176_14, rf176_16, rf176_17, rf176_18, rf176_19, rf176_20, rf176_23, i0, i1, i2, i3, i4, j0, j1, j2, j3, j4, z0, z1, z2, z3, z4, mWr_of, Int.toNat_natCast, h0, v0, v1, v2, ct108 hw]
  · have v0 : μ 194 (5 * K + 1) = V 0 := hV 0 (by decide)
    have b6 := hw.1.2.2.2.2.2.2
    have e : rO (μ 177) 45 V = rDrop (μ 177) (V 0) := by unfold rO; rw [if_neg (by omega), if_neg (by omega), if_neg (by omega), if_neg (by omega)]
    rw [e]
    unfold rDrop
    by_cases p : 0 ≤ V 0 ∧ V 0 < μ 177 6
    · rw [if_pos (show isK (μ 177) (V 0) from p)]
      simp (disch := first | omega | exact rfl) only [x136_0, x136_1, x136_4, x136_5, x136_6_d, x136_171, x136_172, x136_173, x136_176, x136_177, x136_178, x136_179, x136_180, x136_183, x136_186, x136_187, x136_191, isF, isK, isH, mK, nl_i, nl_n, nl_o, nl_r, c1_i, c1_r, mPush, mRv, G0_1, true_and, and_true, and_self, implies_true, List.length_nil, List.length_cons, Nat.reduceAdd, Nat.reduceLeDiff, Nat.zero_le, beq_self_eq_true, Nat.reduceBEq, decide_true, Bool.and_self, reduceCtorEq, ne_eq, not_true_eq_false, not_false_eq_true, false_implies, true_implies, Nat.reduceLT, Nat.reduceEqDiff, or_true, true_or, or_false, false_or, or_self, Int.reduceEq, Int.reduceNe, Int.reduceLT, Int.reduceLE, Int.reduceAdd, Int.reduceSub, Int.reduceMul, Int.reduceNeg, Int.reduceToNat, if_true, if_false, Classical.not_not, Int.cast_ofNat_Int, kd176, kd177, kd178, kd179, kd180, kd181, kd182, kd183, kd184, kd185, kd186, kd187, kd188, kd189, kd190, kd191, kd192, kd193, kd194, rf176_1, rf176_2, rf176_4, rf176_5, rf176_6, rf176_8, rf176_9, rf176_10, rf176_11, rf176_12, rf176_13, rf176_14, rf176_16, rf176_17, rf176_18, rf176_19, rf176_20, rf176_23, i0, i1, i2, i3, i4, j0, j1, j2, j3, j4, z0, z1, z2, z3, z4, mWr_of, Int.toNat_natCast, h0, v0, ct81, if_pos p]
    · rw [if_neg (show ¬ isK (μ 177) (V 0) from p)]
      simp (disch := first | omega | exact rfl) only [x136_0, x136_1, x136_4, x136_5, x136_6_d, x136_171, x136_172, x136_173, x136_176, x136_177, x136_178, x136_179, x136_180, x136_183, x136_190, x136_191, isF, isK, isH, mK, nl_i, nl_n, nl_o, nl_r, c1_i, c1_r, mPush, mRv, G0_1, true_and, and_true, and_self, implies_true, List.length_nil, List.length_cons, Nat.reduceAdd, Nat.reduceLeDiff, Nat.zero_le, beq_self_eq_true, Nat.reduceBEq, decide_true, Bool.and_self, reduceCtorEq, ne_eq, not_true_eq_false, not_false_eq_true, false_implies, true_implies, Nat.reduceLT, Nat.reduceEqDiff, or_true, true_or, or_false, false_or, or_self, Int.reduceEq, Int.reduceNe, Int.reduceLT, Int.reduceLE, Int.reduceAdd, Int.reduceSub, Int.reduceMul, Int.reduceNeg, Int.reduceToNat, if_true, if_false, Classical.not_not, Int.cast_ofNat_Int, kd176, kd177, kd178, kd179, kd180, kd181, kd182, kd183, kd184, kd185, kd186, kd187, kd188, kd189, kd190, kd191, kd192, kd193, kd194, rf176_1, rf176_2, rf176_4, rf176_5, rf176_6, rf176_8, rf176_9, rf176_10, rf176_11, rf176_12, rf176_13, rf176_14, rf176_16, rf176_17, rf176_18, rf176_19, rf176_20, rf176_23, i0, i1, i2, i3, i4, j0, j1, j2, j3, j4, z0, z1, z2, z3, z4, mWr_of, Int.toNat_natCast, h0, v0, ct81, if_neg p]
theorem ct137 {μ : MU} {s : Row} {c : Int} {V : Nat → Int} {K : Nat} (hK : K ≤ 40) (hs : μ 177 = s) (hw : wf s) (hc : isL c) (h0 : μ 194 (5 * K) = c) (hV : ∀ j, j < nN (mk_txt (shx c)) → μ 194 (5 * K + 1 + j) = V j) (hr : rO s c V = 0)
    (hQ : Q none G0 (mRow μ (lO s c V))) : Wp E 137 0 [some (.inr (.inr (.inl 176))), some (.inl ((5 * K : Nat) : Int))] [] G0 μ Q := by
  subst hs
  have i0 : (0 : Int) ≤ ((5 * K : Nat) : Int) := by omega
  have j0 : ((5 * K : Nat) : Int) < 240 := by omega
  have z1 : ((5 * K : Nat) : Int) + 1 = ((5 * K + 1 : Nat) : Int) := by omega
  have z2 : ((5 * K : Nat) : Int) + 2 = ((5 * K + 2 : Nat) : Int) := by omega
  have z3 : ((5 * K : Nat) : Int) + 3 = ((5 * K + 3 : Nat) : Int) := by omega
  have z4 : ((5 * K : Nat) : Int) + 4 = ((5 * K + 4 : Nat) : Int) := by omega
  have i1 : (0 : Int) ≤ ((5 * K + 1 : Nat) : Int) := by omega
  have j1 : ((5 * K + 1 : Nat) : Int) < 240 := by omega
  have i2 : (0 : Int) ≤ ((5 * K + 2 : Nat) : Int) := by omega
  have j2 : ((5 * K + 2 : Nat) : Int) < 240 := by omega
  have i3 : (0 : Int) ≤ ((5 * K + 3 : Nat) : Int) := by omega
  have j3 : ((5 * K + 3 : Nat) : Int) < 240 := by omega
  have i4 : (0 : Int) ≤ ((5 * K + 4 : Nat) : Int) := by omega
  have j4 : ((5 * K + 4 : Nat) : Int) < 240 := by omega
  have z0 : True := trivial
  rcases hc with z | z | z | z | z <;> subst z
  · have v0 : μ 194 (5 * K + 1) = V 0 := hV 0 (by decide)
    have v1 : μ 194 (5 * K + 2) = V 1 := hV 1 (by decide)
    have v2 : μ 194 (5 * K + 3) = V 2 := hV 2 (by decide)
    have e : rO (μ 177) 102 V = rFilm (μ 177) (V 0) (V 1) (V 2) := if_pos rfl
    have el : lO (μ 177) 102 V = lFilm (μ 177) (V 0) (V 1) (V 2) := if_pos rfl
    rw [e] at hr
    rw [el] at hQ
    have b5 := hw.1.2.2.2.2.2.1
    unfold rFilm at hr
    simp (disch := first | omega | exact rfl) only [x137_0, x137_1, x137_4, x137_5, x137_6_102, x137_48, x137_49, x137_50, x137_53, x137_54, x137_55, x137_56, x137_57, x137_58, x137_61, x137_62, x137_63, x137_64, x137_65, x137_66, x137_69, x137_70, x137_71, x137_72, x137_73, isF, isK, isH, mK, nl_i, nl_n, nl_o, nl_r, c1_i, c1_r, mPush, mRv, G0_1, true_and, and_true, and_self, implies_true, List.length_nil, List.length_cons, Nat.reduceAdd, Nat.reduceLeDiff, Nat.zero_le, beq_self_eq_true, Nat.reduceBEq, decide_true, Bool.and_self, reduceCtorEq, ne_eq, not_true_eq_false, not_false_eq_true, false_implies, true_implies, Nat.reduceLT, Nat.reduceEqDiff, or_true, true_or, or_false, false_or, or_self, Int.reduceEq, Int.reduceNe, Int.reduceLT, Int.reduceLE, Int.reduceAdd, Int.reduceSub, Int.reduceMul, Int.reduceNeg, Int.reduceToNat, if_true, if_false, Classical.not_not, Int.cast_ofNat_Int, kd176, kd177, kd178, kd179, kd180, kd181, kd182, kd183, kd184, kd185, kd186, kd187, kd188, kd189, kd190, kd191, kd192, kd193, kd194, rf176_1, rf176_2, rf176_4, rf176_5, rf176_6, rf176_8, rf176_9, rf176_10, rf176_11, rf176_12, rf176_13, rf176_14, rf176_16, rf176_17, rf176_18, rf176_19, rf176_20, rf176_23, i0, i1, i2, i3, i4, j0, j1, j2, j3, j4, z0, z1, z2, z3, z4, mWr_of, Int.toNat_natCast, h0, v0, v1, v2]
    refine ct98 (by omega) ?_
    simp (disch := first | omega | exact rfl) only [x137_76, x137_77, x137_208, isF, isK, isH, mK, nl_i, nl_n, nl_o, nl_r, c1_i, c1_r, mPush, mRv, G0_1, true_and, and_true, and_self, implies_true, List.length_nil, List.length_cons, Nat.reduceAdd, Nat.reduceLeDiff, Nat.zero_le, beq_self_eq_true, Nat.reduceBEq, decide_true, Bool.and_self, reduceCtorEq, ne_eq, not_true_eq_false, not_false_eq_true, false_implies, true_implies, Nat.reduceLT, Nat.reduceEqDiff, or_true, true_or, or_false, false_or, or_self, Int.reduceEq, Int.reduceNe, Int.reduceLT, Int.reduceLE, Int.reduceAdd, Int.reduceSub, Int.reduceMul, Int.reduceNeg, Int.reduceToNat, if_true, if_false, Classical.not_not, Int.cast_ofNat_Int]
    exact hQ
  · have v0 : μ 194 (5 * K + 1) = V 0 := hV 0 (by decide)
    have v1 : μ 194 (5 * K + 2) = V 1 := hV 1 (by decide)
    have v2 : μ 194 (5 * K + 3) = V 2 := hV 2 (by decide)
    have v3 : μ 194 (5 * K + 4) = V 3 := hV 3 (by decide)
    have e : rO (μ 177) 115 V = rShow (μ 177) (V 0) (V 1) (V 2) (V 3) := by unfold rO; rw [if_neg (by omega), if_pos rfl]
    have el : lO (μ 177) 115 V = lShow (μ 177) (V 0) (V 1) (V 2) (V 3) := by unfold lO; rw [if_neg (by omega), if_pos rfl]
    rw [e] at hr
    rw [el] at hQ
    have b6 := hw.1.2.2.2.2.2.2
    unfold rShow at hr
    simp (disch := first | omega | exact rfl) only [x137_0, x137_1, x137_4, x137_5, x137_6_115, x137_80, x137_81, x137_82, x137_85, x137_86, x137_87, x137_88, x137_89, x137_90, x137_93, x137_94, x137_95, x137_96, x137_97, x137_98, x137_101, x137_102, x137_103, x137_104, x137_105, x137_106, x137_109, x137_110, x137_111, x137_112, x137_113, isF, isK, isH, mK, nl_i, nl_n, nl_o, nl_r, c1_i, c1_r, mPush, mRv, G0_1, true_and, and_true, and_self, implies_true, List.length_nil, List.length_cons, Nat.reduceAdd, Nat.reduceLeDiff, Nat.zero_le, beq_self_eq_true, Nat.reduceBEq, decide_true, Bool.and_self, reduceCtorEq, ne_eq, not_true_eq_false, not_false_eq_true, false_implies, true_implies, Nat.reduceLT, Nat.reduceEqDiff, or_true, true_or, or_false, false_or, or_self, Int.reduceEq, Int.reduceNe, Int.reduceLT, Int.reduceLE, Int.reduceAdd, Int.reduceSub, Int.reduceMul, Int.reduceNeg, Int.reduceToNat, if_true, if_false, Classical.not_not, Int.cast_ofNat_Int, kd176, kd177, kd178, kd179, kd180, kd181, kd182, kd183, kd184, kd185, kd186, kd187, kd188, kd189, kd190, kd191, kd192, kd193, kd194, rf176_1, rf176_2, rf176_4, rf176_5, rf176_6, rf176_8, rf176_9, rf176_10, rf176_11, rf176_12, rf176_13, rf176_14, rf176_16, rf176_17, rf176_18, rf176_19, rf176_20, rf176_23, i0, i1, i2, i3, i4, j0, j1, j2, j3, j4, z0, z1, z2, z3, z4, mWr_of, Int.toNat_natCast, h0, v0, v1, v2, v3]
    refine ct104 (by omega) ?_
    simp (disch := first | omega | exact rfl) only [x137_116, x137_117, x137_208, isF, isK, isH, mK, nl_i, nl_n, nl_o, nl_r, c1_i, c1_r, mPush, mRv, G0_1, true_and, and_true, and_self, implies_true, List.length_nil, List.length_cons, Nat.reduceAdd, Nat.reduceLeDiff, Nat.zero_le, beq_self_eq_true, Nat.reduceBEq, decide_true, Bool.and_self, reduceCtorEq, ne_eq, not_true_eq_false, not_false_eq_true, false_implies, true_implies, Nat.reduceLT, Nat.reduceEqDiff, or_true, true_or, or_false, false_or, or_self, Int.reduceEq, Int.reduceNe, Int.reduceLT, Int.reduceLE, Int.reduceAdd, Int.reduceSub, Int.reduceMul, Int.reduceNeg, Int.reduceToNat, if_true, if_false, Classical.not_not, Int.cast_ofNat_Int]
    exact hQ
  · have v0 : μ 194 (5 * K + 1) = V 0 := hV 0 (by decide)
    have v1 : μ 194 (5 * K + 2) = V 1 := hV 1 (by decide)
    have v2 : μ 194 (5 * K + 3) = V 2 := hV 2 (by decide)
    have e : rO (μ 177) 119 V = rWay (V 0) (V 1) (V 2) := by unfold rO; rw [if_neg (by omega), if_neg (by omega), if_pos rfl]
    have el : lO (μ 177) 119 V = lWay (μ 177) (V 0) (V 1) (V 2) := by unfold lO; rw [if_neg (by omega), if_neg (by omega), if_pos rfl]
    rw [e] at hr
    rw [el] at hQ
    unfold rWay at hr
    simp (disch := first | omega | exact rfl) only [x137_0, x137_1, x137_4, x137_5, x137_6_119, x137_120, x137_121, x137_122, x137_125, x137_126, x137_127, x137_128, x137_129, x137_130, x137_133, x137_134, x137_135, x137_136, x137_137, x137_138, x137_141, x137_142, x137_143, x137_144, x137_145, isF, isK, isH, mK, nl_i, nl_n, nl_o, nl_r, c1_i, c1_r, mPush, mRv, G0_1, true_and, and_true, and_self, implies_true, List.length_nil, List.length_cons, Nat.reduceAdd, Nat.reduceLeDiff, Nat.zero_le, beq_self_eq_true, Nat.reduceBEq, decide_true, Bool.and_self, reduceCtorEq, ne_eq, not_true_eq_false, not_false_eq_true, false_implies, true_implies, Nat.reduceLT, Nat.reduceEqDiff, or_true, true_or, or_false, false_or, or_self, Int.reduceEq, Int.reduceNe, Int.reduceLT, Int.reduceLE, Int.reduceAdd, Int.reduceSub, Int.reduceMul, Int.reduceNeg, Int.reduceToNat, if_true, if_false, Classical.not_not, Int.cast_ofNat_Int, kd176, kd177, kd178, kd179, kd180, kd181, kd182, kd183, kd184, kd185, kd186, kd187, kd188, kd189, kd190, kd191, kd192, kd193, kd194, rf176_1, rf176_2, rf176_4, rf176_5, rf176_6, rf176_8, rf176_9, rf176_10, rf176_11, rf176_12, rf176_13, rf176_14, rf176_16, rf176_17, rf176_18, rf176_19, rf176_20, rf176_23, i0, i1, i2, i3, i4, j0, j1, j2, j3, j4, z0, z1, z2, z3, z4, mWr_of, Int.toNat_natCast, h0, v0, v1, v2]
    refine ct101 (by omega) (by omega) ?_
    simp (disch := first | omega | exact rfl) only [x137_148, x137_149, x137_208, isF, isK, isH, mK, nl_i, nl_n, nl_o, nl_r, c1_i, c1_r, mPush, mRv, G0_1, true_and, and_true, and_self, implies_true, List.length_nil, List.length_cons, Nat.reduceAdd, Nat.reduceLeDiff, Nat.zero_le, beq_self_eq_true, Nat.reduceBEq, decide_true, Bool.and_self, reduceCtorEq, ne_eq, not_true_eq_false, not_false_eq_true, false_implies, true_implies, Nat.reduceLT, Nat.reduceEqDiff, or_true, true_or, or_false, false_or, or_self, Int.reduceEq, Int.reduceNe, Int.reduceLT, Int.reduceLE, Int.reduceAdd, Int.reduceSub, Int.reduceMul, Int.reduceNeg, Int.reduceToNat, if_true, if_false, Classical.not_not, Int.cast_ofNat_Int]
    exact hQ
  · have v0 : μ 194 (5 * K + 1) = V 0 := hV 0 (by decide)
    have v1 : μ 194 (5 * K + 2) = V 1 := hV 1 (by decide)
    have v2 : μ 194 (5 * K + 3) = V 2 := hV 2 (by decide)
    have e : rO (μ 177) 116 V = rTear (μ 177) (V 0) (V 1) (V 2) := by unfold rO; rw [if_neg (by omega), if_neg (by omega), if_neg (by omega), if_pos rfl]
    have el : lO (μ 177) 116 V = lTear (μ 177) (V 0) (V 1) (V 2 + 1) := by unfold lO; rw [if_neg (by omega), if_neg (by omega), if_neg (by omega), if_pos rfl]
    rw [e] at hr
    rw [el] at hQ
    unfold rTear at hr
    by_cases p : isR (μ 177) (V 0) (V 1)
    · rw [if_neg (fun y => y p)] at hr
      obtain ⟨⟨p1, p2⟩, p3, p4⟩ := p
      have b5 := hw.1.2.2.2.2.2.1
      have bn := (hw.2.2.1 (V 0).toNat (by omega) (by omega)).1
      have ei : 23 + 9 * V 0 + 3 + V 1 = ((26 + 9 * (V 0).toNat + (V 1).toNat : Nat) : Int) := by omega
      have ei2 : (0 : Int) ≤ ((26 + 9 * (V 0).toNat + (V 1).toNat : Nat) : Int) := by omega
      have ei3 : ((26 + 9 * (V 0).toNat + (V 1).toNat : Nat) : Int) < 152 := by omega
      unfold lTear at hQ
      rw [← mUp_row] at hQ
      simp (disch := first | omega | exact rfl) only [x137_0, x137_1, x137_4, x137_5, x137_6_116, x137_152, x137_153, x137_156, x137_158, x137_160, x137_161, x137_164, x137_165, x137_166, x137_167, x137_168, x137_169, x137_170, x137_171, x137_172, x137_173, x137_176, x137_177, x137_178, x137_179, x137_180, x137_181, x137_182, x137_185, x137_186, x137_187, x137_188, x137_189, x137_190, x137_191, x137_192, x137_208, isF, isK, isH, mK, nl_i, nl_n, nl_o, nl_r, c1_i, c1_r, mPush, mRv, G0_1, true_and, and_true, and_self, implies_true, List.length_nil, List.length_cons, Nat.reduceAdd, Nat.reduceLeDiff, Nat.zero_le, beq_self_eq_true, Nat.reduceBEq, decide_true, Bool.and_self, reduceCtorEq, ne_eq, not_true_eq_false, not_false_eq_true, false_implies, true_implies, Nat.reduceLT, Nat.reduceEqDiff, or_true, true_or, or_false, false_or, or_self, Int.reduceEq, Int.reduceNe, Int.reduceLT, Int.reduceLE, Int.reduceAdd, Int.reduceSub, Int.reduceMul, Int.reduceNeg, Int.reduceToNat, if_true, if_false, Classical.not_not, Int.cast_ofNat_Int, kd176, kd177, kd178, kd179, kd180, kd181, kd182, kd183, kd184, kd185, kd186, kd187, kd188, kd189, kd190, kd191, kd192, kd193, kd194, rf176_1, rf176_2, rf176_4, rf176_5, rf176_6, rf176_8, rf176_9, rf176_10, rf176_11, rf176_12, rf176_13, rf176_14, rf176_16, rf176_17, rf176_18, rf176_19, rf176_20, rf176_23, i0, i1, i2, i3, i4, j0, j1, j2, j3, j4, z0, z1, z2, z3, z4, mWr_of, Int.toNat_natCast, h0, v0, v1, v2, ei, ei2, ei3]
      exact hQ
    · rw [if_pos p] at hr; omega
  · have v0 : μ 194 (5 * K + 1) = V 0 := hV 0 (by decide)
    have e : rO (μ 177) 45 V = rDrop (μ 177) (V 0) := by unfold rO; rw [if_neg (by omega), if_neg (by omega), if_neg (by omega), if_neg (by omega)]
    have el : lO (μ 177) 45 V = lDrop (μ 177) (V 0) := by unfold lO; rw [if_neg (by omega), if_neg (by omega), if_neg (by omega), if_neg (by omega)]
    rw [e] at hr
    rw [el] at hQ
    unfold rDrop at hr
    by_cases p : isK (μ 177) (V 0)
    · simp (disch := first | omega | exact rfl) only [x137_0, x137_1, x137_4, x137_5, x137_6_d, x137_195, x137_196, x137_197, x137_200, x137_201, x137_202, x137_203, x137_204, isF, isK, isH, mK, nl_i, nl_n, nl_o, nl_r, c1_i, c1_r, mPush, mRv, G0_1, true_and, and_true, and_self, implies_true, List.length_nil, List.length_cons, Nat.reduceAdd, Nat.reduceLeDiff, Nat.zero_le, beq_self_eq_true, Nat.reduceBEq, decide_true, Bool.and_self, reduceCtorEq, ne_eq, not_true_eq_false, not_false_eq_true, false_implies, true_implies, Nat.reduceLT, Nat.reduceEqDiff, or_true, true_or, or_false, false_or, or_self, Int.reduceEq, Int.reduceNe, Int.reduceLT, Int.reduceLE, Int.reduceAdd, Int.reduceSub, Int.reduceMul, Int.reduceNeg, Int.reduceToNat, if_true, if_false, Classical.not_not, Int.cast_ofNat_Int, kd176, kd177, kd178, kd179, kd180, kd181, kd182, kd183, kd184, kd185, kd186, kd187, kd188, kd189, kd190, kd191, kd192, kd193, kd194, rf176_1, rf176_2, rf176_4, rf176_5, rf176_6, rf176_8, rf176_9, rf176_10, rf176_11, rf176_12, rf176_13, rf176_14, rf176_16, rf176_17, rf176_18, rf176_19, rf176_20, rf176_23, i0, i1, i2, i3, i4, j0, j1, j2, j3, j4, z0, z1, z2, z3, z4, mWr_of, Int.toNat_natCast, h0, v0]
      refine ct106 hw p ?_
      simp (disch := first | omega | exact rfl) only [x137_207, x137_208, isF, isK, isH, mK, nl_i, nl_n, nl_o, nl_r, c1_i, c1_r, mPush, mRv, G0_1, true_and, and_true, and_self, implies_true, List.length_nil, List.length_cons, Nat.reduceAdd, Nat.reduceLeDiff, Nat.zero_le, beq_self_eq_true, Nat.reduceBEq, decide_true, Bool.and_self, reduceCtorEq, ne_eq, not_true_eq_false, not_false_eq_true, false_implies, true_implies, Nat.reduceLT, Nat.reduceEqDiff, or_true, true_or, or_false, false_or, or_self, Int.reduceEq, Int.reduceNe, Int.reduceLT, Int.reduceLE, Int.reduceAdd, Int.reduceSub, Int.reduceMul, Int.reduceNeg, Int.reduceToNat, if_true, if_false, Classical.not_not, Int.cast_ofNat_Int]
      exact hQ
    · rw [if_neg p] at hr; omega
end CAR2
