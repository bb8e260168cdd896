theorem kL {E : ME} : mk_len E 5 = E.1 := rfl
theorem kI {E : ME} {j : Nat} : mk_int E 5 j = E.2 j := rfl
theorem kI5 : mk_isI 5 = true := rfl
section LAW
variable {E : ME} {Q : Option MV → MG → MU → Prop} {μ : MU}
theorem lw_0 (hI : INV μ) {i : Nat} (hi : i + 5 ≤ E.1) (hE : E.1 ≤ 2560) (next : ∀ μ' : MU, INV μ' → Wp E 153 849 [some (mK 5), some (mR 0), some (mR 176), some (.inl i)] [] G0 μ' Q) :
    Wp E 153 32 [some (mK 5), some (mR 0), some (mR 176), some (.inl i)] [.inl 0] G0 μ Q := by
  have a1 : (0 : Int) ≤ (i : Int) + 1 := by omega
  have a2 : (0 : Int) ≤ (i : Int) + 2 := by omega
  have a3 : (0 : Int) ≤ (i : Int) + 3 := by omega
  have a4 : (0 : Int) ≤ (i : Int) + 4 := by omega
  have b1 : (i : Int) + 1 < (E.1 : Int) := by omega
  have b2 : (i : Int) + 2 < (E.1 : Int) := by omega
  have b3 : (i : Int) + 3 < (E.1 : Int) := by omega
  have b4 : (i : Int) + 4 < (E.1 : Int) := by omega
  simp (disch := first | omega | exact rfl) only [x153_32_0, x153_140, x153_141, x153_142, x153_143, x153_144, x153_145K (c := 5) rfl, x153_146, x153_147, x153_148, x153_149, x153_150K (c := 5) rfl, x153_151, isF, isK, isH, mK, nl_i, nl_n, nl_o, nl_r, c1_i, c1_r, mPush, mRv, G0_1, true_and, and_true, and_self, implies_true, List.length_nil, List.length_cons, Nat.reduceAdd, Nat.reduceLeDiff, Nat.zero_le, beq_self_eq_true, Nat.reduceBEq, decide_true, Bool.and_self, reduceCtorEq, ne_eq, not_true_eq_false, not_false_eq_true, false_implies, true_implies, Nat.reduceLT, Nat.reduceEqDiff, or_true, true_or, or_false, false_or, or_self, Int.reduceEq, Int.reduceNe, Int.reduceLT, Int.reduceLE, Int.reduceAdd, Int.reduceSub, Int.reduceMul, Int.reduceNeg, Int.reduceToNat, if_true, if_false, Classical.not_not, Int.cast_ofNat_Int, kd0, rf0_0, rf0_1, rf0_2, rf0_3, rf0_4, rf0_5, rf0_6, rf0_7, rf0_8, kL, kI, kI5, mWr_of, a1, a2, a3, a4, b1, b2, b3, b4]
  refine Wp_mono (op40 hI) ?_
  rintro r g' μ1 ⟨v, rfl, rfl, h2⟩
  refine ⟨⟨rfl, rfl⟩, ?_⟩
  simp (disch := first | omega | exact rfl) only [x153_154, x153_155, x153_156, x153_157, x153_158, x153_159K (c := 5) rfl, x153_160, x153_161, x153_162, x153_163, x153_164K (c := 5) rfl, x153_165, isF, isK, isH, mK, nl_i, nl_n, nl_o, nl_r, c1_i, c1_r, mPush, mRv, G0_1, true_and, and_true, and_self, implies_true, List.length_nil, List.length_cons, Nat.reduceAdd, Nat.reduceLeDiff, Nat.zero_le, beq_self_eq_true, Nat.reduceBEq, decide_true, Bool.and_self, reduceCtorEq, ne_eq, not_true_eq_false, not_false_eq_true, false_implies, true_implies, Nat.reduceLT, Nat.reduceEqDiff, or_true, true_or, or_false, false_or, or_self, Int.reduceEq, Int.reduceNe, Int.reduceLT, Int.reduceLE, Int.reduceAdd, Int.reduceSub, Int.reduceMul, Int.reduceNeg, Int.reduceToNat, if_true, if_false, Classical.not_not, Int.cast_ofNat_Int, kd176, kd177, kd178, kd179, kd180, kd181, kd182, kd183, kd184, kd185, kd186, kd187, kd188, kd189, kd190, kd191, kd192, kd193, kd194, rf176_1, rf176_2, rf176_4, rf176_5, rf176_6, rf176_8, rf176_9, rf176_10, rf176_11, rf176_12, rf176_13, rf176_14, rf176_16, rf176_17, rf176_18, rf176_19, rf176_20, rf176_23, kL, kI, kI5, mWr_of, a1, a2, a3, a4, b1, b2, b3, b4]
  refine Wp_mono h2 ?_
  rintro r2 g2 μ2 ⟨rfl, rfl, hI2⟩
  refine ⟨⟨rfl, rfl⟩, ?_⟩
  simp (disch := first | omega | exact rfl) only [x153_168, isF, isK, isH, mK, nl_i, nl_n, nl_o, nl_r, c1_i, c1_r, mPush, mRv, G0_1, true_and, and_true, and_self, implies_true, List.length_nil, List.length_cons, Nat.reduceAdd, Nat.reduceLeDiff, Nat.zero_le, beq_self_eq_true, Nat.reduceBEq, decide_true, Bool.and_self, reduceCtorEq, ne_eq, not_true_eq_false, not_false_eq_true, false_implies, true_implies, Nat.reduceLT, Nat.reduceEqDiff, or_true, true_or, or_false, false_or, or_self, Int.reduceEq, Int.reduceNe, Int.reduceLT, Int.reduceLE, Int.reduceAdd, Int.reduceSub, Int.reduceMul, Int.reduceNeg, Int.reduceToNat, if_true, if_false, Classical.not_not, Int.cast_ofNat_Int]
  exact next μ2 hI2
theorem lw_1 (hI : INV μ) {i : Nat} (hi : i + 5 ≤ E.1) (hE : E.1 ≤ 2560) (next : ∀ μ' : MU, INV μ' → Wp E 153 849 [some (mK 5), some (mR 0), some (mR 176), some (.inl i)] [] G0 μ' Q) :
    Wp E 153 32 [some (mK 5), some (mR 0), some (mR 176), some (.inl i)] [.inl 1] G0 μ Q := by
  have a1 : (0 : Int) ≤ (i : Int) + 1 := by omega
  have a2 : (0 : Int) ≤ (i : Int) + 2 := by omega
  have a3 : (0 : Int) ≤ (i : Int) + 3 := by omega
  have a4 : (0 : Int) ≤ (i : Int) + 4 := by omega
  have b1 : (i : Int) + 1 < (E.1 : Int) := by omega
  have b2 : (i : Int) + 2 < (E.1 : Int) := by omega
  have b3 : (i : Int) + 3 < (E.1 : Int) := by omega
  have b4 : (i : Int) + 4 < (E.1 : Int) := by omega
  simp (disch := first | omega | exact rfl) only [x153_32_1, x153_173, x153_174, x153_175, x153_176, x153_177, x153_178K (c := 5) rfl, x153_179, x153_180, x153_181, x153_182, x153_183K (c := 5) rfl, x153_184, x153_185, x153_186, x153_187, x153_188K (c := 5) rfl, x153_189, isF, isK, isH, mK, nl_i, nl_n, nl_o, nl_r, c1_i, c1_r, mPush, mRv, G0_1, true_and, and_true, and_self, implies_true, List.length_nil, List.length_cons, Nat.reduceAdd, Nat.reduceLeDiff, Nat.zero_le, beq_self_eq_true, Nat.reduceBEq, decide_true, Bool.and_self, reduceCtorEq, ne_eq, not_true_eq_false, not_false_eq_true, false_implies, true_implies, Nat.reduceLT, Nat.reduceEqDiff, or_true, true_or, or_false, false_or, or_self, Int.reduceEq, Int.reduceNe, Int.reduceLT, Int.reduceLE, Int.reduceAdd, Int.reduceSub, Int.reduceMul, Int.reduceNeg, Int.reduceToNat, if_true, if_false, Classical.not_not, Int.cast_ofNat_Int, kd0, rf0_0, rf0_1, rf0_2, rf0_3, rf0_4, rf0_5, rf0_6, rf0_7, rf0_8, kL, kI, kI5, mWr_of, a1, a2, a3, a4, b1, b2, b3, b4]
  refine Wp_mono (op41 hI) ?_
  rintro r g' μ1 ⟨v, rfl, rfl, h2⟩
  refine ⟨⟨rfl, rfl⟩, ?_⟩
  simp (disch := first | omega | exact rfl) only [x153_192, x153_193, x153_194, x153_195, x153_196, x153_197K (c := 5) rfl, x153_198, x153_199, x153_200, x153_201, x153_202K (c := 5) rfl, x153_203, x153_204, x153_205, x153_206, x153_207K (c := 5) rfl, x153_208, isF, isK, isH, mK, nl_i, nl_n, nl_o, nl_r, c1_i, c1_r, mPush, mRv, G0_1, true_and, and_true, and_self, implies_true, List.length_nil, List.length_cons, Nat.reduceAdd, Nat.reduceLeDiff, Nat.zero_le, beq_self_eq_true, Nat.reduceBEq, decide_true, Bool.and_self, reduceCtorEq, ne_eq, not_true_eq_false, not_false_eq_true, false_implies, true_implies, Nat.reduceLT, Nat.reduceEqDiff, or_true, true_or, or_false, false_or, or_self, Int.reduceEq, Int.reduceNe, Int.reduceLT, Int.reduceLE, Int.reduceAdd, Int.reduceSub, Int.reduceMul, Int.reduceNeg, Int.reduceToNat, if_true, if_false, Classical.not_not, Int.cast_ofNat_Int, kd176, kd177, kd178, kd179, kd180, kd181, kd182, kd183, kd184, kd185, kd186, kd187, kd188, kd189, kd190, kd191, kd192, kd193, kd194, rf176_1, rf176_2, rf176_4, rf176_5, rf176_6, rf176_8, rf176_9, rf176_10, rf176_11, rf176_12, rf176_13, rf176_14, rf176_16, rf176_17, rf176_18, rf176_19, rf176_20, rf176_23, kL, kI, kI5, mWr_of, a1, a2, a3, a4, b1, b2, b3, b4]
  refine Wp_mono h2 ?_
  rintro r2 g2 μ2 ⟨rfl, rfl, hI2⟩
  refine ⟨⟨rfl, rfl⟩, ?_⟩
  simp (disch := first | omega | exact rfl) only [x153_211, isF, isK, isH, mK, nl_i, nl_n, nl_o, nl_r, c1_i, c1_r, mPush, mRv, G0_1, true_and, and_true, and_self, implies_true, List.length_nil, List.length_cons, Nat.reduceAdd, Nat.reduceLeDiff, Nat.zero_le, beq_self_eq_true, Nat.reduceBEq, decide_true, Bool.and_self, reduceCtorEq, ne_eq, not_true_eq_false, not_false_eq_true, false_implies, true_implies, Nat.reduceLT, Nat.reduceEqDiff, or_true, true_or, or_false, false_or, or_self, Int.reduceEq, Int.reduceNe, Int.reduceLT, Int.reduceLE, Int.reduceAdd, Int.reduceSub, Int.reduceMul, Int.reduceNeg, Int.reduceToNat, if_true, if_false, Classical.not_not, Int.cast_ofNat_Int]
  exact next μ2 hI2
theorem lw_2 (hI : INV μ) {i : Nat} (hi : i + 5 ≤ E.1) (hE : E.1 ≤ 2560) (next : ∀ μ' : MU, INV μ' → Wp E 153 849 [some (mK 5), some (mR 0), some (mR 176), some (.inl i)] [] G0 μ' Q) :
    Wp E 153 32 [some (mK 5), some (mR 0), some (mR 176), some (.inl i)] [.inl 2] G0 μ Q := by
  have a1 : (0 : Int) ≤ (i : Int) + 1 := by omega
  have a2 : (0 : Int) ≤ (i : Int) + 2 := by omega
  have a3 : (0 : Int) ≤ (i : Int) + 3 := by omega
  have a4 : (0 : Int) ≤ (i : Int) + 4 := by omega
  have b1 : (i : Int) + 1 < (E.1 : Int) := by omega
  have b2 : (i : Int) + 2 < (E.1 : Int) := by omega
  have b3 : (i : Int) + 3 < (E.1 : Int) := by omega
  have b4 : (i : Int) + 4 < (E.1 : Int) := by omega
  simp (disch := first | omega | exact rfl) only [x153_32_2, x153_216, x153_217, x153_218, x153_219, x153_220, x153_221K (c := 5) rfl, x153_222, x153_223, x153_224, x153_225, x153_226K (c := 5) rfl, x153_227, x153_228, x153_229, x153_230, x153_231K (c := 5) rfl, x153_232, isF, isK, isH, mK, nl_i, nl_n, nl_o, nl_r, c1_i, c1_r, mPush, mRv, G0_1, true_and, and_true, and_self, implies_true, List.length_nil, List.length_cons, Nat.reduceAdd, Nat.reduceLeDiff, Nat.zero_le, beq_self_eq_true, Nat.reduceBEq, decide_true, Bool.and_self, reduceCtorEq, ne_eq, not_true_eq_false, not_false_eq_true, false_implies, true_implies, Nat.reduceLT, Nat.reduceEqDiff, or_true, true_or, or_false, false_or, or_self, Int.reduceEq, Int.reduceNe, Int.reduceLT, Int.reduceLE, Int.reduceAdd, Int.reduceSub, Int.reduceMul, Int.reduceNeg, Int.reduceToNat, if_true, if_false, Classical.not_not, Int.cast_ofNat_Int, kd0, rf0_0, rf0_1, rf0_2, rf0_3, rf0_4, rf0_5, rf0_6, rf0_7, rf0_8, kL, kI, kI5, mWr_of, a1, a2, a3, a4, b1, b2, b3, b4]
  refine Wp_mono (op42 hI) ?_
  rintro r g' μ1 ⟨v, rfl, rfl, h2⟩
  refine ⟨⟨rfl, rfl⟩, ?_⟩
  simp (disch := first | omega | exact rfl) only [x153_235, x153_236, x153_237, x153_238, x153_239, x153_240K (c := 5) rfl, x153_241, x153_242, x153_243, x153_244, x153_245K (c := 5) rfl, x153_246, x153_247, x153_248, x153_249, x153_250K (c := 5) rfl, x153_251, isF, isK, isH, mK, nl_i, nl_n, nl_o, nl_r, c1_i, c1_r, mPush, mRv, G0_1, true_and, and_true, and_self, implies_true, List.length_nil, List.length_cons, Nat.reduceAdd, Nat.reduceLeDiff, Nat.zero_le, beq_self_eq_true, Nat.reduceBEq, decide_true, Bool.and_self, reduceCtorEq, ne_eq, not_true_eq_false, not_false_eq_true, false_implies, true_implies, Nat.reduceLT, Nat.reduceEqDiff, or_true, true_or, or_false, false_or, or_self, Int.reduceEq, Int.reduceNe, Int.reduceLT, Int.reduceLE, Int.reduceAdd, Int.reduceSub, Int.reduceMul, Int.reduceNeg, Int.reduceToNat, if_true, if_false, Classical.not_not, Int.cast_ofNat_Int, kd176, kd177, kd178, kd179, kd180, kd181, kd182, kd183, kd184, kd185, kd186, kd187, kd188, kd189, kd190, kd191, kd192, kd193, kd194, rf176_1, rf176_2, rf176_4, rf176_5, rf176_6, rf176_8, rf176_9, rf176_10, rf176_11, rf176_12, rf176_13, rf176_14, rf176_16, rf176_17, rf176_18, rf176_19, rf176_20, rf176_23, kL, kI, kI5, mWr_of, a1, a2, a3, a4, b1, b2, b3, b4]
  refine Wp_mono h2 ?_
  rintro r2 g2 μ2 ⟨rfl, rfl, hI2⟩
  refine ⟨⟨rfl, rfl⟩, ?_⟩
  simp (disch := first | omega | exact rfl) only [x153_254, isF, isK, isH, mK, nl_i, nl_n, nl_o, nl_r, c1_i, c1_r, mPush, mRv, G0_1, true_and, and_true, and_self, implies_true, List.length_nil, List.length_cons, Nat.reduceAdd, Nat.reduceLeDiff, Nat.zero_le, beq_self_eq_true, Nat.reduceBEq, decide_true, Bool.and_self, reduceCtorEq, ne_eq, not_true_eq_false, not_false_eq_true, false_implies, true_implies, Nat.reduceLT, Nat.reduceEqDiff, or_true, true_or, or_false, false_or, or_self, Int.reduceEq, Int.reduceNe, Int.reduceLT, Int.reduceLE, Int.reduceAdd, Int.reduceSub, Int.reduceMul, Int.reduceNeg, Int.reduceToNat, if_true, if_false, Classical.not_not, Int.cast_ofNat_Int]
  exact next μ2 hI2
theorem lw_3 (hI : INV μ) {i : Nat} (hi : i + 5 ≤ E.1) (hE : E.1 ≤ 2560) (next : ∀ μ' : MU, INV μ' → Wp E 153 849 [some (mK 5), some (mR 0), some (mR 176), some (.inl i)] [] G0 μ' Q) :
    Wp E 153 32 [some (mK 5), some (mR 0), some (mR 176), some (.inl i)] [.inl 3] G0 μ Q := by
  have a1 : (0 : Int) ≤ (i : Int) + 1 := by omega
  have a2 : (0 : Int) ≤ (i : Int) + 2 := by omega
  have a3 : (0 : Int) ≤ (i : Int) + 3 := by omega
  have a4 : (0 : Int) ≤ (i : Int) + 4 := by omega
  have b1 : (i : Int) + 1 < (E.1 : Int) := by omega
  have b2 : (i : Int) + 2 < (E.1 : Int) := by omega
  have b3 : (i : Int) + 3 < (E.1 : Int) := by omega
  have b4 : (i : Int) + 4 < (E.1 : Int) := by omega
  simp (disch := first | omega | exact rfl) only [x153_32_3, x153_259, x153_260, x153_261, x153_262, x153_263, x153_264K (c := 5) rfl, x153_265, x153_266, x153_267, x153_268, x153_269K (c := 5) rfl, x153_270, x153_271, x153_272, x153_273, x153_274K (c := 5) rfl, x153_275, x153_276, x153_277, x153_278, x153_279K (c := 5) rfl, x153_280, isF, isK, isH, mK, nl_i, nl_n, nl_o, nl_r, c1_i, c1_r, mPush, mRv, G0_1, true_and, and_true, and_self, implies_true, List.length_nil, List.length_cons, Nat.reduceAdd, Nat.reduceLeDiff, Nat.zero_le, beq_self_eq_true, Nat.reduceBEq, decide_true, Bool.and_self, reduceCtorEq, ne_eq, not_true_eq_false, not_false_eq_true, false_implies, true_implies, Nat.reduceLT, Nat.reduceEqDiff, or_true, true_or, or_false, false_or, or_self, Int.reduceEq, Int.reduceNe, Int.reduceLT, Int.reduceLE, Int.reduceAdd, Int.reduceSub, Int.reduceMul, Int.reduceNeg, Int.reduceToNat, if_true, if_false, Classical.not_not, Int.cast_ofNat_Int, kd0, rf0_0, rf0_1, rf0_2, rf0_3, rf0_4, rf0_5, rf0_6, rf0_7, rf0_8, kL, kI, kI5, mWr_of, a1, a2, a3, a4, b1, b2, b3, b4]
  refine Wp_mono (op43 hI) ?_
  rintro r g' μ1 ⟨v, rfl, rfl, h2⟩
  refine ⟨⟨rfl, rfl⟩, ?_⟩
  simp (disch := first | omega | exact rfl) only [x153_283, x153_284, x153_285, x153_286, x153_287, x153_288K (c := 5) rfl, x153_289, x153_290, x153_291, x153_292, x153_293K (c := 5) rfl, x153_294, x153_295, x153_296, x153_297, x153_298K (c := 5) rfl, x153_299, x153_300, x153_301, x153_302, x153_303K (c := 5) rfl, x153_304, isF, isK, isH, mK, nl_i, nl_n, nl_o, nl_r, c1_i, c1_r, mPush, mRv, G0_1, true_and, and_true, and_self, implies_true, List.length_nil, List.length_cons, Nat.reduceAdd, Nat.reduceLeDiff, Nat.zero_le, beq_self_eq_true, Nat.reduceBEq, decide_true, Bool.and_self, reduceCtorEq, ne_eq, not_true_eq_false, not_false_eq_true, false_implies, true_implies, Nat.reduceLT, Nat.reduceEqDiff, or_true, true_or, or_false, false_or, or_self, Int.reduceEq, Int.reduceNe, Int.reduceLT, Int.reduceLE, Int.reduceAdd, Int.reduceSub, Int.reduceMul, Int.reduceNeg, Int.reduceToNat, if_true, if_false, Classical.not_not, Int.cast_ofNat_Int, kd176, kd177, kd178, kd179, kd180, kd181, kd182, kd183, kd184, kd185, kd186, kd187, kd188, kd189, kd190, kd191, kd192, kd193, kd194, rf176_1, rf176_2, rf176_4, rf176_5, rf176_6, rf176_8, rf176_9, rf176_10, rf176_11, rf176_12, rf176_13, rf176_14, rf176_16, rf176_17, rf176_18, rf176_19, rf176_20, rf176_23, kL, kI, kI5, mWr_of, a1, a2, a3, a4, b1, b2, b3, b4]
  refine Wp_mono h2 ?_
  rintro r2 g2 μ2 ⟨rfl, rfl, hI2⟩
  refine ⟨⟨rfl, rfl⟩, ?_⟩
  simp (disch := first | omega | exact rfl) only [x153_307, isF, isK, isH, mK, nl_i, nl_n, nl_o, nl_r, c1_i, c1_r, mPush, mRv, G0_1, true_and, and_true, and_self, implies_true, List.length_nil, List.length_cons, Nat.reduceAdd, Nat.reduceLeDiff, Nat.zero_le, beq_self_eq_true, Nat.reduceBEq, decide_true, Bool.and_self, reduceCtorEq, ne_eq, not_true_eq_false, not_false_eq_true, false_implies, true_implies, Nat.reduceLT, Nat.reduceEqDiff, or_true, true_or, or_false, false_or, or_self, Int.reduceEq, Int.reduceNe, Int.reduceLT, Int.reduceLE, Int.reduceAdd, Int.reduceSub, Int.reduceMul, Int.reduceNeg, Int.reduceToNat, if_true, if_false, Classical.not_not, Int.cast_ofNat_Int]
  exact next μ2 hI2
theorem lw_4 (hI : INV μ) {i : Nat} (hi : i + 5 ≤ E.1) (hE : E.1 ≤ 2560) (next : ∀ μ' : MU, INV μ' → Wp E 153 849 [some (mK 5), some (mR 0), some (mR 176), some (.inl i)] [] G0 μ' Q) :
    Wp E 153 32 [some (mK 5), some (mR 0), some (mR 176), some (.inl i)] [.inl 4] G0 μ Q := by
  have a1 : (0 : Int) ≤ (i : Int) + 1 := by omega
  have a2 : (0 : Int) ≤ (i : Int) + 2 := by omega
  have a3 : (0 : Int) ≤ (i : Int) + 3 := by omega
  have a4 : (0 : Int) ≤ (i : Int) + 4 := by omega
  have b1 : (i : Int) + 1 < (E.1 : Int) := by omega
  have b2 : (i : Int) + 2 < (E.1 : Int) := by omega
  have b3 : (i : Int) + 3 < (E.1 : Int) := by omega
  have b4 : (i : Int) + 4 < (E.1 : Int) := by omega
  simp (disch := first | omega | exact rfl) only [x153_32_4, x153_312, x153_313, x153_314, x153_315, x153_316, x153_317K (c := 5) rfl, x153_318, isF, isK, isH, mK, nl_i, nl_n, nl_o, nl_r, c1_i, c1_r, mPush, mRv, G0_1, true_and, and_true, and_self, implies_true, List.length_nil, List.length_cons, Nat.reduceAdd, Nat.reduceLeDiff, Nat.zero_le, beq_self_eq_true, Nat.reduceBEq, decide_true, Bool.and_self, reduceCtorEq, ne_eq, not_true_eq_false, not_false_eq_true, false_implies, true_implies, Nat.reduceLT, Nat.reduceEqDiff, or_true, true_or, or_false, false_or, or_self, Int.reduceEq, Int.reduceNe, Int.reduceLT, Int.reduceLE, Int.reduceAdd, Int.reduceSub, Int.reduceMul, Int.reduceNeg, Int.reduceToNat, if_true, if_false, Classical.not_not, Int.cast_ofNat_Int, kd0, rf0_0, rf0_1, rf0_2, rf0_3, rf0_4, rf0_5, rf0_6, rf0_7, rf0_8, kL, kI, kI5, mWr_of, a1, a2, a3, a4, b1, b2, b3, b4]
  refine Wp_mono (op44 hI) ?_
  rintro r g' μ1 ⟨v, rfl, rfl, h2⟩
  refine ⟨⟨rfl, rfl⟩, ?_⟩
  simp (disch := first | omega | exact rfl) only [x153_321, x153_322, x153_323, x153_324, x153_325, x153_326K (c := 5) rfl, x153_327, isF, isK, isH, mK, nl_i, nl_n, nl_o, nl_r, c1_i, c1_r, mPush, mRv, G0_1, true_and, and_true, and_self, implies_true, List.length_nil, List.length_cons, Nat.reduceAdd, Nat.reduceLeDiff, Nat.zero_le, beq_self_eq_true, Nat.reduceBEq, decide_true, Bool.and_self, reduceCtorEq, ne_eq, not_true_eq_false, not_false_eq_true, false_implies, true_implies, Nat.reduceLT, Nat.reduceEqDiff, or_true, true_or, or_false, false_or, or_self, Int.reduceEq, Int.reduceNe, Int.reduceLT, Int.reduceLE, Int.reduceAdd, Int.reduceSub, Int.reduceMul, Int.reduceNeg, Int.reduceToNat, if_true, if_false, Classical.not_not, Int.cast_ofNat_Int, kd176, kd177, kd178, kd179, kd180, kd181, kd182, kd183, kd184, kd185, kd186, kd187, kd188, kd189, kd190, kd191, kd192, kd193, kd194, rf176_1, rf176_2, rf176_4, rf176_5, rf176_6, rf176_8, rf176_9, rf176_10, rf176_11, rf176_12, rf176_13, rf176_14, rf176_16, rf176_17, rf176_18, rf176_19, rf176_20, rf176_23, kL, kI, kI5, mWr_of, a1, a2, a3, a4, b1, b2, b3, b4]
  refine Wp_mono h2 ?_
  rintro r2 g2 μ2 ⟨rfl, rfl, hI2⟩
  refine ⟨⟨rfl, rfl⟩, ?_⟩
  simp (disch := first | omega | exact rfl) only [x153_330, isF, isK, isH, mK, nl_i, nl_n, nl_o, nl_r, c1_i, c1_r, mPush, mRv, G0_1, true_and, and_true, and_self, implies_true, List.length_nil, List.length_cons, Nat.reduceAdd, Nat.reduceLeDiff, Nat.zero_le, beq_self_eq_true, Nat.reduceBEq, decide_true, Bool.and_self, reduceCtorEq, ne_eq, not_true_eq_false, not_false_eq_true, false_implies, true_implies, Nat.reduceLT, Nat.reduceEqDiff, or_true, true_or, or_false, false_or, or_self, Int.reduceEq, Int.reduceNe, Int.reduceLT, Int.reduceLE, Int.reduceAdd, Int.reduceSub, Int.reduceMul, Int.reduceNeg, Int.reduceToNat, if_true, if_false, Classical.not_not, Int.cast_ofNat_Int]
  exact next μ2 hI2
theorem lw_5 (hI : INV μ) {i : Nat} (hi : i + 5 ≤ E.1) (hE : E.1 ≤ 2560) (next : ∀ μ' : MU, INV μ' → Wp E 153 849 [some (mK 5), some (mR 0), some (mR 176), some (.inl i)] [] G0 μ' Q) :
    Wp E 153 32 [some (mK 5), some (mR 0), some (mR 176), some (.inl i)] [.inl 5] G0 μ Q := by
  have a1 : (0 : Int) ≤ (i : Int) + 1 := by omega
  have a2 : (0 : Int) ≤ (i : Int) + 2 := by omega
  have a3 : (0 : Int) ≤ (i : Int) + 3 := by omega
  have a4 : (0 : Int) ≤ (i : Int) + 4 := by omega
  have b1 : (i : Int) + 1 < (E.1 : Int) := by omega
  have b2 : (i : Int) + 2 < (E.1 : Int) := by omega
  have b3 : (i : Int) + 3 < (E.1 : Int) := by omega
  have b4 : (i : Int) + 4 < (E.1 : Int) := by omega
  simp (disch := first | omega | exact rfl) only [x153_32_5, x153_335, x153_336, x153_337, x153_338, x153_339, x153_340K (c := 5) rfl, x153_341, x153_342, x153_343, x153_344, x153_345K (c := 5) rfl, x153_346, x153_347, x153_348, x153_349, x153_350K (c := 5) rfl, x153_351, isF, isK, isH, mK, nl_i, nl_n, nl_o, nl_r, c1_i, c1_r, mPush, mRv, G0_1, true_and, and_true, and_self, implies_true, List.length_nil, List.length_cons, Nat.reduceAdd, Nat.reduceLeDiff, Nat.zero_le, beq_self_eq_true, Nat.reduceBEq, decide_true, Bool.and_self, reduceCtorEq, ne_eq, not_true_eq_false, not_false_eq_true, false_implies, true_implies, Nat.reduceLT, Nat.reduceEqDiff, or_true, true_or, or_false, false_or, or_self, Int.reduceEq, Int.reduceNe, Int.reduceLT, Int.reduceLE, Int.reduceAdd, Int.reduceSub, Int.reduceMul, Int.reduceNeg, Int.reduceToNat, if_true, if_false, Classical.not_not, Int.cast_ofNat_Int, kd0, rf0_0, rf0_1, rf0_2, rf0_3, rf0_4, rf0_5, rf0_6, rf0_7, rf0_8, kL, kI, kI5, mWr_of, a1, a2, a3, a4, b1, b2, b3, b4]
  refine Wp_mono (op45 hI) ?_
  rintro r g' μ1 ⟨v, rfl, rfl, h2⟩
  refine ⟨⟨rfl, rfl⟩, ?_⟩
  simp (disch := first | omega | exact rfl) only [x153_354, x153_355, x153_356, x153_357, x153_358, x153_359K (c := 5) rfl, x153_360, x153_361, x153_362, x153_363, x153_364K (c := 5) rfl, x153_365, x153_366, x153_367, x153_368, x153_369K (c := 5) rfl, x153_370, isF, isK, isH, mK, nl_i, nl_n, nl_o, nl_r, c1_i, c1_r, mPush, mRv, G0_1, true_and, and_true, and_self, implies_true, List.length_nil, List.length_cons, Nat.reduceAdd, Nat.reduceLeDiff, Nat.zero_le, beq_self_eq_true, Nat.reduceBEq, decide_true, Bool.and_self, reduceCtorEq, ne_eq, not_true_eq_false, not_false_eq_true, false_implies, true_implies, Nat.reduceLT, Nat.reduceEqDiff, or_true, true_or, or_false, false_or, or_self, Int.reduceEq, Int.reduceNe, Int.reduceLT, Int.reduceLE, Int.reduceAdd, Int.reduceSub, Int.reduceMul, Int.reduceNeg, Int.reduceToNat, if_true, if_false, Classical.not_not, Int.cast_ofNat_Int, kd176, kd177, kd178, kd179, kd180, kd181, kd182, kd183, kd184, kd185, kd186, kd187, kd188, kd189, kd190, kd191, kd192, kd193, kd194, rf176_1, rf176_2, rf176_4, rf176_5, rf176_6, rf176_8, rf176_9, rf176_10, rf176_11, rf176_12, rf176_13, rf176_14, rf176_16, rf176_17, rf176_18, rf176_19, rf176_20, rf176_23, kL, kI, kI5, mWr_of, a1, a2, a3, a4, b1, b2, b3, b4]
  refine Wp_mono h2 ?_
  rintro r2 g2 μ2 ⟨rfl, rfl, hI2⟩
  refine ⟨⟨rfl, rfl⟩, ?_⟩
  simp (disch := first | omega | exact rfl) only [x153_373, isF, isK, isH, mK, nl_i, nl_n, nl_o, nl_r, c1_i, c1_r, mPush, mRv, G0_1, true_and, and_true, and_self, implies_true, List.length_nil, List.length_cons, Nat.reduceAdd, Nat.reduceLeDiff, Nat.zero_le, beq_self_eq_true, Nat.reduceBEq, decide_true, Bool.and_self, reduceCtorEq, ne_eq, not_true_eq_false, not_false_eq_true, false_implies, true_implies, Nat.reduceLT, Nat.reduceEqDiff, or_true, true_or, or_false, false_or, or_self, Int.reduceEq, Int.reduceNe, Int.reduceLT, Int.reduceLE, Int.reduceAdd, Int.reduceSub, Int.reduceMul, Int.reduceNeg, Int.reduceToNat, if_true, if_false, Classical.not_not, Int.cast_ofNat_Int]
  exact next μ2 hI2
theorem lw_6 (hI : INV μ) {i : Nat} (hi : i + 5 ≤ E.1) (hE : E.1 ≤ 2560) (next : ∀ μ' : MU, INV μ' → Wp E 153 849 [some (mK 5), some (mR 0), some (mR 176), some (.inl i)] [] G0 μ' Q) :
    Wp E 153 32 [some (mK 5), some (mR 0), some (mR 176), some (.inl i)] [.inl 6] G0 μ Q := by
  have a1 : (0 : Int) ≤ (i : Int) + 1 := by omega
  have a2 : (0 : Int) ≤ (i : Int) + 2 := by omega
  have a3 : (0 : Int) ≤ (i : Int) + 3 := by omega
  have a4 : (0 : Int) ≤ (i : Int) + 4 := by omega
  have b1 : (i : Int) + 1 < (E.1 : Int) := by omega
  have b2 : (i : Int) + 2 < (E.1 : Int) := by omega
  have b3 : (i : Int) + 3 < (E.1 : Int) := by omega
  have b4 : (i : Int) + 4 < (E.1 : Int) := by omega
  simp (disch := first | omega | exact rfl) only [x153_32_6, x153_378, x153_379, x153_380, x153_381, x153_382, x153_383K (c := 5) rfl, x153_384, x153_385, x153_386, x153_387, x153_388K (c := 5) rfl, x153_389, isF, isK, isH, mK, nl_i, nl_n, nl_o, nl_r, c1_i, c1_r, mPush, mRv, G0_1, true_and, and_true, and_self, implies_true, List.length_nil, List.length_cons, Nat.reduceAdd, Nat.reduceLeDiff, Nat.zero_le, beq_self_eq_true, Nat.reduceBEq, decide_true, Bool.and_self, reduceCtorEq, ne_eq, not_true_eq_false, not_false_eq_true, false_implies, true_implies, Nat.reduceLT, Nat.reduceEqDiff, or_true, true_or, or_false, false_or, or_self, Int.reduceEq, Int.reduceNe, Int.reduceLT, Int.reduceLE, Int.reduceAdd, Int.reduceSub, Int.reduceMul, Int.reduceNeg, Int.reduceToNat, if_true, if_false, Classical.not_not, Int.cast_ofNat_Int, kd0, rf0_0, rf0_1, rf0_2, rf0_3, rf0_4, rf0_5, rf0_6, rf0_7, rf0_8, kL, kI, kI5, mWr_of, a1, a2, a3, a4, b1, b2, b3, b4]
  refine Wp_mono (op46 hI) ?_
  rintro r g' μ1 ⟨v, rfl, rfl, h2⟩
  refine ⟨⟨rfl, rfl⟩, ?_⟩
  simp (disch := first | omega | exact rfl) only [x153_392, x153_393, x153_394, x153_395, x153_396, x153_397K (c := 5) rfl, x153_398, x153_399, x153_400, x153_401, x153_402K (c := 5) rfl, x153_403, isF, isK, isH, mK, nl_i, nl_n, nl_o, nl_r, c1_i, c1_r, mPush, mRv, G0_1, true_and, and_true, and_self, implies_true, List.length_nil, List.length_cons, Nat.reduceAdd, Nat.reduceLeDiff, Nat.zero_le, beq_self_eq_true, Nat.reduceBEq, decide_true, Bool.and_self, reduceCtorEq, ne_eq, not_true_eq_false, not_false_eq_true, false_implies, true_implies, Nat.reduceLT, Nat.reduceEqDiff, or_true, true_or, or_false, false_or, or_self, Int.reduceEq, Int.reduceNe, Int.reduceLT, Int.reduceLE, Int.reduceAdd, Int.reduceSub, Int.reduceMul, Int.reduceNeg, Int.reduceToNat, if_true, if_false, Classical.not_not, Int.cast_ofNat_Int, kd176, kd177, kd178, kd179, kd180, kd181, kd182, kd183, kd184, kd185, kd186, kd187, kd188, kd189, kd190, kd191, kd192, kd193, kd194, rf176_1, rf176_2, rf176_4, rf176_5, rf176_6, rf176_8, rf176_9, rf176_10, rf176_11, rf176_12, rf176_13, rf176_14, rf176_16, rf176_17, rf176_18, rf176_19, rf176_20, rf176_23, kL, kI, kI5, mWr_of, a1, a2, a3, a4, b1, b2, b3, b4]
  refine Wp_mono h2 ?_
  rintro r2 g2 μ2 ⟨rfl, rfl, hI2⟩
  refine ⟨⟨rfl, rfl⟩, ?_⟩
  simp (disch := first | omega | exact rfl) only [x153_406, isF, isK, isH, mK, nl_i, nl_n, nl_o, nl_r, c1_i, c1_r, mPush, mRv, G0_1, true_and, and_true, and_self, implies_true, List.length_nil, List.length_cons, Nat.reduceAdd, Nat.reduceLeDiff, Nat.zero_le, beq_self_eq_true, Nat.reduceBEq, decide_true, Bool.and_self, reduceCtorEq, ne_eq, not_true_eq_false, not_false_eq_true, false_implies, true_implies, Nat.reduceLT, Nat.reduceEqDiff, or_true, true_or, or_false, false_or, or_self, Int.reduceEq, Int.reduceNe, Int.reduceLT, Int.reduceLE, Int.reduceAdd, Int.reduceSub, Int.reduceMul, Int.reduceNeg, Int.reduceToNat, if_true, if_false, Classical.not_not, Int.cast_ofNat_Int]
  exact next μ2 hI2
theorem lw_7 (hI : INV μ) {i : Nat} (hi : i + 5 ≤ E.1) (hE : E.1 ≤ 2560) (next : ∀ μ' : MU, INV μ' → Wp E 153 849 [some (mK 5), some (mR 0), some (mR 176), some (.inl i)] [] G0 μ' Q) :
    Wp E 153 32 [some (mK 5), some (mR 0), some (mR 176), some (.inl i)] [.inl 7] G0 μ Q := by
  have a1 : (0 : Int) ≤ (i : Int) + 1 := by omega
  have a2 : (0 : Int) ≤ (i : Int) + 2 := by omega
  have a3 : (0 : Int) ≤ (i : Int) + 3 := by omega
  have a4 : (0 : Int) ≤ (i : Int) + 4 := by omega
  have b1 : (i : Int) + 1 < (E.1 : Int) := by omega
  have b2 : (i : Int) + 2 < (E.1 : Int) := by omega
  have b3 : (i : Int) + 3 < (E.1 : Int) := by omega
  have b4 : (i : Int) + 4 < (E.1 : Int) := by omega
  simp (disch := first | omega | exact rfl) only [x153_32_7, x153_411, x153_412, x153_413, x153_414, x153_415, x153_416K (c := 5) rfl, x153_417, x153_418, x153_419, x153_420, x153_421K (c := 5) rfl, x153_422, isF, isK, isH, mK, nl_i, nl_n, nl_o, nl_r, c1_i, c1_r, mPush, mRv, G0_1, true_and, and_true, and_self, implies_true, List.length_nil, List.length_cons, Nat.reduceAdd, Nat.reduceLeDiff, Nat.zero_le, beq_self_eq_true, Nat.reduceBEq, decide_true, Bool.and_self, reduceCtorEq, ne_eq, not_true_eq_false, not_false_eq_true, false_implies, true_implies, Nat.reduceLT, Nat.reduceEqDiff, or_true, true_or, or_false, false_or, or_self, Int.reduceEq, Int.reduceNe, Int.reduceLT, Int.reduceLE, Int.reduceAdd, Int.reduceSub, Int.reduceMul, Int.reduceNeg, Int.reduceToNat, if_true, if_false, Classical.not_not, Int.cast_ofNat_Int, kd0, rf0_0, rf0_1, rf0_2, rf0_3, rf0_4, rf0_5, rf0_6, rf0_7, rf0_8, kL, kI, kI5, mWr_of, a1, a2, a3, a4, b1, b2, b3, b4]
  refine Wp_mono (op48 hI) ?_
  rintro r g' μ1 ⟨v, rfl, rfl, h2⟩
  refine ⟨⟨rfl, rfl⟩, ?_⟩
  simp (disch := first | omega | exact rfl) only [x153_425, x153_426, x153_427, x153_428, x153_429, x153_430K (c := 5) rfl, x153_431, x153_432, x153_433, x153_434, x153_435K (c := 5) rfl, x153_436, isF, isK, isH, mK, nl_i, nl_n, nl_o, nl_r, c1_i, c1_r, mPush, mRv, G0_1, true_and, and_true, and_self, implies_true, List.length_nil, List.length_cons, Nat.reduceAdd, Nat.reduceLeDiff, Nat.zero_le, beq_self_eq_true, Nat.reduceBEq, decide_true, Bool.and_self, reduceCtorEq, ne_eq, not_true_eq_false, not_false_eq_true, false_implies, true_implies, Nat.reduceLT, Nat.reduceEqDiff, or_true, true_or, or_false, false_or, or_self, Int.reduceEq, Int.reduceNe, Int.reduceLT, Int.reduceLE, Int.reduceAdd, Int.reduceSub, Int.reduceMul, Int.reduceNeg, Int.reduceToNat, if_true, if_false, Classical.not_not, Int.cast_ofNat_Int, kd176, kd177, kd178, kd179, kd180, kd181, kd182, kd183, kd184, kd185, kd186, kd187, kd188, kd189, kd190, kd191, kd192, kd193, kd194, rf176_1, rf176_2, rf176_4, rf176_5, rf176_6, rf176_8, rf176_9, rf176_10, rf176_11, rf176_12, rf176_13, rf176_14, rf176_16, rf176_17, rf176_18, rf176_19, rf176_20, rf176_23, kL, kI, kI5, mWr_of, a1, a2, a3, a4, b1, b2, b3, b4]
  refine Wp_mono h2 ?_
  rintro r2 g2 μ2 ⟨rfl, rfl, hI2⟩
  refine ⟨⟨rfl, rfl⟩, ?_⟩
  simp (disch := first | omega | exact rfl) only [x153_439, isF, isK, isH, mK, nl_i, nl_n, nl_o, nl_r, c1_i, c1_r, mPush, mRv, G0_1, true_and, and_true, and_self, implies_true, List.length_nil, List.length_cons, Nat.reduceAdd, Nat.reduceLeDiff, Nat.zero_le, beq_self_eq_true, Nat.reduceBEq, decide_true, Bool.and_self, reduceCtorEq, ne_eq, not_true_eq_false, not_false_eq_true, false_implies, true_implies, Nat.reduceLT, Nat.reduceEqDiff, or_true, true_or, or_false, false_or, or_self, Int.reduceEq, Int.reduceNe, Int.reduceLT, Int.reduceLE, Int.reduceAdd, Int.reduceSub, Int.reduceMul, Int.reduceNeg, Int.reduceToNat, if_true, if_false, Classical.not_not, Int.cast_ofNat_Int]
  exact next μ2 hI2
theorem lw_8 (hI : INV μ) {i : Nat} (hi : i + 5 ≤ E.1) (hE : E.1 ≤ 2560) (next : ∀ μ' : MU, INV μ' → Wp E 153 849 [some (mK 5), some (mR 0), some (mR 176), some (.inl i)] [] G0 μ' Q) :
    Wp E 153 32 [some (mK 5), some (mR 0), some (mR 176), some (.inl i)] [.inl 8] G0 μ Q := by
  have a1 : (0 : Int) ≤ (i : Int) + 1 := by omega
  have a2 : (0 : Int) ≤ (i : Int) + 2 := by omega
  have a3 : (0 : Int) ≤ (i : Int) + 3 := by omega
  have a4 : (0 : Int) ≤ (i : Int) + 4 := by omega
  have b1 : (i : Int) + 1 < (E.1 : Int) := by omega
  have b2 : (i : Int) + 2 < (E.1 : Int) := by omega
  have b3 : (i : Int) + 3 < (E.1 : Int) := by omega
  have b4 : (i : Int) + 4 < (E.1 : Int) := by omega
  simp (disch := first | omega | exact rfl) only [x153_32_8, x153_444, x153_445, x153_446, x153_447, x153_448, x153_449K (c := 5) rfl, x153_450, x153_451, x153_452, x153_453, x153_454K (c := 5) rfl, x153_455, isF, isK, isH, mK, nl_i, nl_n, nl_o, nl_r, c1_i, c1_r, mPush, mRv, G0_1, true_and, and_true, and_self, implies_true, List.length_nil, List.length_cons, Nat.reduceAdd, Nat.reduceLeDiff, Nat.zero_le, beq_self_eq_true, Nat.reduceBEq, decide_true, Bool.and_self, reduceCtorEq, ne_eq, not_true_eq_false, not_false_eq_true, false_implies, true_implies, Nat.reduceLT, Nat.reduceEqDiff, or_true, true_or, or_false, false_or, or_self, Int.reduceEq, Int.reduceNe, Int.reduceLT, Int.reduceLE, Int.reduceAdd, Int.reduceSub, Int.reduceMul, Int.reduceNeg, Int.reduceToNat, if_true, if_false, Classical.not_not, Int.cast_ofNat_Int, kd0, rf0_0, rf0_1, rf0_2, rf0_3, rf0_4, rf0_5, rf0_6, rf0_7, rf0_8, kL, kI, kI5, mWr_of, a1, a2, a3, a4, b1, b2, b3, b4]
  refine Wp_mono (op49 hI) ?_
  rintro r g' μ1 ⟨v, rfl, rfl, h2⟩
  refine ⟨⟨rfl, rfl⟩, ?_⟩
  simp (disch := first | omega | exact rfl) only [x153_458, x153_459, x153_460, x153_461, x153_462, x153_463K (c := 5) rfl, x153_464, x153_465, x153_466, x153_467, x153_468K (c := 5) rfl, x153_469, isF, isK, isH, mK, nl_i, nl_n, nl_o, nl_r, c1_i, c1_r, mPush, mRv, G0_1, true_and, and_true, and_self, implies_true, List.length_nil, List.length_cons, Nat.reduceAdd, Nat.reduceLeDiff, Nat.zero_le, beq_self_eq_true, Nat.reduceBEq, decide_true, Bool.and_self, reduceCtorEq, ne_eq, not_true_eq_false, not_false_eq_true, false_implies, true_implies, Nat.reduceLT, Nat.reduceEqDiff, or_true, true_or, or_false, false_or, or_self, Int.reduceEq, Int.reduceNe, Int.reduceLT, Int.reduceLE, Int.reduceAdd, Int.reduceSub, Int.reduceMul, Int.reduceNeg, Int.reduceToNat, if_true, if_false, Classical.not_not, Int.cast_ofNat_Int, kd176, kd177, kd178, kd179, kd180, kd181, kd182, kd183, kd184, kd185, kd186, kd187, kd188, kd189, kd190, kd191, kd192, kd193, kd194, rf176_1, rf176_2, rf176_4, rf176_5, rf176_6, rf176_8, rf176_9, rf176_10, rf176_11, rf176_12, rf176_13, rf176_14, rf176_16, rf176_17, rf176_18, rf176_19, rf176_20, rf176_23, kL, kI, kI5, mWr_of, a1, a2, a3, a4, b1, b2, b3, b4]
  refine Wp_mono h2 ?_
  rintro r2 g2 μ2 ⟨rfl, rfl, hI2⟩
  refine ⟨⟨rfl, rfl⟩, ?_⟩
  simp (disch := first | omega | exact rfl) only [x153_472, isF, isK, isH, mK, nl_i, nl_n, nl_o, nl_r, c1_i, c1_r, mPush, mRv, G0_1, true_and, and_true, and_self, implies_true, List.length_nil, List.length_cons, Nat.reduceAdd, Nat.reduceLeDiff, Nat.zero_le, beq_self_eq_true, Nat.reduceBEq, decide_true, Bool.and_self, reduceCtorEq, ne_eq, not_true_eq_false, not_false_eq_true, false_implies, true_implies, Nat.reduceLT, Nat.reduceEqDiff, or_true, true_or, or_false, false_or, or_self, Int.reduceEq, Int.reduceNe, Int.reduceLT, Int.reduceLE, Int.reduceAdd, Int.reduceSub, Int.reduceMul, Int.reduceNeg, Int.reduceToNat, if_true, if_false, Classical.not_not, Int.cast_ofNat_Int]
  exact next μ2 hI2
theorem lw_9 (hI : INV μ) {i : Nat} (hi : i + 5 ≤ E.1) (hE : E.1 ≤ 2560) (next : ∀ μ' : MU, INV μ' → Wp E 153 849 [some (mK 5), some (mR 0), some (mR 176), some (.inl i)] [] G0 μ' Q) :
    Wp E 153 32 [some (mK 5), some (mR 0), some (mR 176), some (.inl i)] [.inl 9] G0 μ Q := by
  have a1 : (0 : Int) ≤ (i : Int) + 1 := by omega
  have a2 : (0 : Int) ≤ (i : Int) + 2 := by omega
  have a3 : (0 : Int) ≤ (i : Int) + 3 := by omega
  have a4 : (0 : Int) ≤ (i : Int) + 4 := by omega
  have b1 : (i : Int) + 1 < (E.1 : Int) := by omega
  have b2 : (i : Int) + 2 < (E.1 : Int) := by omega
  have b3 : (i : Int) + 3 < (E.1 : Int) := by omega
  have b4 : (i : Int) + 4 < (E.1 : Int) := by omega
  simp (disch := first | omega | exact rfl) only [x153_32_9, x153_477, x153_478, x153_479, x153_480, x153_481, x153_482K (c := 5) rfl, x153_483, x153_484, x153_485, x153_486, x153_487K (c := 5) rfl, x153_488, isF, isK, isH, mK, nl_i, nl_n, nl_o, nl_r, c1_i, c1_r, mPush, mRv, G0_1, true_and, and_true, and_self, implies_true, List.length_nil, List.length_cons, Nat.reduceAdd, Nat.reduceLeDiff, Nat.zero_le, beq_self_eq_true, Nat.reduceBEq, decide_true, Bool.and_self, reduceCtorEq, ne_eq, not_true_eq_false, not_false_eq_true, false_implies, true_implies, Nat.reduceLT, Nat.reduceEqDiff, or_true, true_or, or_false, false_or, or_self, Int.reduceEq, Int.reduceNe, Int.reduceLT, Int.reduceLE, Int.reduceAdd, Int.reduceSub, Int.reduceMul, Int.reduceNeg, Int.reduceToNat, if_true, if_false, Classical.not_not, Int.cast_ofNat_Int, kd0, rf0_0, rf0_1, rf0_2, rf0_3, rf0_4, rf0_5, rf0_6, rf0_7, rf0_8, kL, kI, kI5, mWr_of, a1, a2, a3, a4, b1, b2, b3, b4]
  refine Wp_mono (op50 hI) ?_
  rintro r g' μ1 ⟨v, rfl, rfl, h2⟩
  refine ⟨⟨rfl, rfl⟩, ?_⟩
  simp (disch := first | omega | exact rfl) only [x153_491, x153_492, x153_493, x153_494, x153_495, x153_496K (c := 5) rfl, x153_497, x153_498, x153_499, x153_500, x153_501K (c := 5) rfl, x153_502, isF, isK, isH, mK, nl_i, nl_n, nl_o, nl_r, c1_i, c1_r, mPush, mRv, G0_1, true_and, and_true, and_self, implies_true, List.length_nil, List.length_cons, Nat.reduceAdd, Nat.reduceLeDiff, Nat.zero_le, beq_self_eq_true, Nat.reduceBEq, decide_true, Bool.and_self, reduceCtorEq, ne_eq, not_true_eq_false, not_false_eq_true, false_implies, true_implies, Nat.reduceLT, Nat.reduceEqDiff, or_true, true_or, or_false, false_or, or_self, Int.reduceEq, Int.reduceNe, Int.reduceLT, Int.reduceLE, Int.reduceAdd, Int.reduceSub, Int.reduceMul, Int.reduceNeg, Int.reduceToNat, if_true, if_false, Classical.not_not, Int.cast_ofNat_Int, kd176, kd177, kd178, kd179, kd180, kd181, kd182, kd183, kd184, kd185, kd186, kd187, kd188, kd189, kd190, kd191, kd192, kd193, kd194, rf176_1, rf176_2, rf176_4, rf176_5, rf176_6, rf176_8, rf176_9, rf176_10, rf176_11, rf176_12, rf176_13, rf176_14, rf176_16, rf176_17, rf176_18, rf176_19, rf176_20, rf176_23, kL, kI, kI5, mWr_of, a1, a2, a3, a4, b1, b2, b3, b4]
  refine Wp_mono h2 ?_
  rintro r2 g2 μ2 ⟨rfl, rfl, hI2⟩
  refine ⟨⟨rfl, rfl⟩, ?_⟩
  simp (disch := first | omega | exact rfl) only [x153_505, isF, isK, isH, mK, nl_i, nl_n, nl_o, nl_r, c1_i, c1_r, mPush, mRv, G0_1, true_and, and_true, and_self, implies_true, List.length_nil, List.length_cons, Nat.reduceAdd, Nat.reduceLeDiff, Nat.zero_le, beq_self_eq_true, Nat.reduceBEq, decide_true, Bool.and_self, reduceCtorEq, ne_eq, not_true_eq_false, not_false_eq_true, false_implies, true_implies, Nat.reduceLT, Nat.reduceEqDiff, or_true, true_or, or_false, false_or, or_self, Int.reduceEq, Int.reduceNe, Int.reduceLT, Int.reduceLE, Int.reduceAdd, Int.reduceSub, Int.reduceMul, Int.reduceNeg, Int.reduceToNat, if_true, if_false, Classical.not_not, Int.cast_ofNat_Int]
  exact next μ2 hI2
theorem lw_10 (hI : INV μ) {i : Nat} (hi : i + 5 ≤ E.1) (hE : E.1 ≤ 2560) (next : ∀ μ' : MU, INV μ' → Wp E 153 849 [some (mK 5), some (mR 0), some (mR 176), some (.inl i)] [] G0 μ' Q) :
    Wp E 153 32 [some (mK 5), some (mR 0), some (mR 176), some (.inl i)] [.inl 10] G0 μ Q := by
  have a1 : (0 : Int) ≤ (i : Int) + 1 := by omega
  have a2 : (0 : Int) ≤ (i : Int) + 2 := by omega
  have a3 : (0 : Int) ≤ (i : Int) + 3 := by omega
  have a4 : (0 : Int) ≤ (i : Int) + 4 := by omega
  have b1 : (i : Int) + 1 < (E.1 : Int) := by omega
  have b2 : (i : Int) + 2 < (E.1 : Int) := by omega
  have b3 : (i : Int) + 3 < (E.1 : Int) := by omega
  have b4 : (i : Int) + 4 < (E.1 : Int) := by omega
  simp (disch := first | omega | exact rfl) only [x153_32_10, x153_510, x153_511, x153_512, x153_513, x153_514, x153_515K (c := 5) rfl, x153_516, x153_517, x153_518, x153_519, x153_520K (c := 5) rfl, x153_521, x153_522, x153_523, x153_524, x153_525K (c := 5) rfl, x153_526, isF, isK, isH, mK, nl_i, nl_n, nl_o, nl_r, c1_i, c1_r, mPush, mRv, G0_1, true_and, and_true, and_self, implies_true, List.length_nil, List.length_cons, Nat.reduceAdd, Nat.reduceLeDiff, Nat.zero_le, beq_self_eq_true, Nat.reduceBEq, decide_true, Bool.and_self, reduceCtorEq, ne_eq, not_true_eq_false, not_false_eq_true, false_implies, true_implies, Nat.reduceLT, Nat.reduceEqDiff, or_true, true_or, or_false, false_or, or_self, Int.reduceEq, Int.reduceNe, Int.reduceLT, Int.reduceLE, Int.reduceAdd, Int.reduceSub, Int.reduceMul, Int.reduceNeg, Int.reduceToNat, if_true, if_false, Classical.not_not, Int.cast_ofNat_Int, kd0, rf0_0, rf0_1, rf0_2, rf0_3, rf0_4, rf0_5, rf0_6, rf0_7, rf0_8, kL, kI, kI5, mWr_of, a1, a2, a3, a4, b1, b2, b3, b4]
  refine Wp_mono (op51 hI) ?_
  rintro r g' μ1 ⟨v, rfl, rfl, h2⟩
  refine ⟨⟨rfl, rfl⟩, ?_⟩
  simp (disch := first | omega | exact rfl) only [x153_529, x153_530, x153_531, x153_532, x153_533, x153_534K (c := 5) rfl, x153_535, x153_536, x153_537, x153_538, x153_539K (c := 5) rfl, x153_540, x153_541, x153_542, x153_543, x153_544K (c := 5) rfl, x153_545, isF, isK, isH, mK, nl_i, nl_n, nl_o, nl_r, c1_i, c1_r, mPush, mRv, G0_1, true_and, and_true, and_self, implies_true, List.length_nil, List.length_cons, Nat.reduceAdd, Nat.reduceLeDiff, Nat.zero_le, beq_self_eq_true, Nat.reduceBEq, decide_true, Bool.and_self, reduceCtorEq, ne_eq, not_true_eq_false, not_false_eq_true, false_implies, true_implies, Nat.reduceLT, Nat.reduceEqDiff, or_true, true_or, or_false, false_or, or_self, Int.reduceEq, Int.reduceNe, Int.reduceLT, Int.reduceLE, Int.reduceAdd, Int.reduceSub, Int.reduceMul, Int.reduceNeg, Int.reduceToNat, if_true, if_false, Classical.not_not, Int.cast_ofNat_Int, kd176, kd177, kd178, kd179, kd180, kd181, kd182, kd183, kd184, kd185, kd186, kd187, kd188, kd189, kd190, kd191, kd192, kd193, kd194, rf176_1, rf176_2, rf176_4, rf176_5, rf176_6, rf176_8, rf176_9, rf176_10, rf176_11, rf176_12, rf176_13, rf176_14, rf176_16, rf176_17, rf176_18, rf176_19, rf176_20, rf176_23, kL, kI, kI5, mWr_of, a1, a2, a3, a4, b1, b2, b3, b4]
  refine Wp_mono h2 ?_
  rintro r2 g2 μ2 ⟨rfl, rfl, hI2⟩
  refine ⟨⟨rfl, rfl⟩, ?_⟩
  simp (disch := first | omega | exact rfl) only [x153_548, isF, isK, isH, mK, nl_i, nl_n, nl_o, nl_r, c1_i, c1_r, mPush, mRv, G0_1, true_and, and_true, and_self, implies_true, List.length_nil, List.length_cons, Nat.reduceAdd, Nat.reduceLeDiff, Nat.zero_le, beq_self_eq_true, Nat.reduceBEq, decide_true, Bool.and_self, reduceCtorEq, ne_eq, not_true_eq_false, not_false_eq_true, false_implies, true_implies, Nat.reduceLT, Nat.reduceEqDiff, or_true, true_or, or_false, false_or, or_self, Int.reduceEq, Int.reduceNe, Int.reduceLT, Int.reduceLE, Int.reduceAdd, Int.reduceSub, Int.reduceMul, Int.reduceNeg, Int.reduceToNat, if_true, if_false, Classical.not_not, Int.cast_ofNat_Int]
  exact next μ2 hI2
theorem lw_11 (hI : INV μ) {i : Nat} (hi : i + 5 ≤ E.1) (hE : E.1 ≤ 2560) (next : ∀ μ' : MU, INV μ' → Wp E 153 849 [some (mK 5), some (mR 0), some (mR 176), some (.inl i)] [] G0 μ' Q) :
    Wp E 153 32 [some (mK 5), some (mR 0), some (mR 176), some (.inl i)] [.inl 11] G0 μ Q := by
  have a1 : (0 : Int) ≤ (i : Int) + 1 := by omega
  have a2 : (0 : Int) ≤ (i : Int) + 2 := by omega
  have a3 : (0 : Int) ≤ (i : Int) + 3 := by omega
  have a4 : (0 : Int) ≤ (i : Int) + 4 := by omega
  have b1 : (i : Int) + 1 < (E.1 : Int) := by omega
  have b2 : (i : Int) + 2 < (E.1 : Int) := by omega
  have b3 : (i : Int) + 3 < (E.1 : Int) := by omega
  have b4 : (i : Int) + 4 < (E.1 : Int) := by omega
  simp (disch := first | omega | exact rfl) only [x153_32_11, x153_553, x153_554, x153_555, x153_556, x153_557, x153_558K (c := 5) rfl, x153_559, isF, isK, isH, mK, nl_i, nl_n, nl_o, nl_r, c1_i, c1_r, mPush, mRv, G0_1, true_and, and_true, and_self, implies_true, List.length_nil, List.length_cons, Nat.reduceAdd, Nat.reduceLeDiff, Nat.zero_le, beq_self_eq_true, Nat.reduceBEq, decide_true, Bool.and_self, reduceCtorEq, ne_eq, not_true_eq_false, not_false_eq_true, false_implies, true_implies, Nat.reduceLT, Nat.reduceEqDiff, or_true, true_or, or_false, false_or, or_self, Int.reduceEq, Int.reduceNe, Int.reduceLT, Int.reduceLE, Int.reduceAdd, Int.reduceSub, Int.reduceMul, Int.reduceNeg, Int.reduceToNat, if_true, if_false, Classical.not_not, Int.cast_ofNat_Int, kd0, rf0_0, rf0_1, rf0_2, rf0_3, rf0_4, rf0_5, rf0_6, rf0_7, rf0_8, kL, kI, kI5, mWr_of, a1, a2, a3, a4, b1, b2, b3, b4]
  refine Wp_mono (op52 hI) ?_
  rintro r g' μ1 ⟨v, rfl, rfl, h2⟩
  refine ⟨⟨rfl, rfl⟩, ?_⟩
  simp (disch := first | omega | exact rfl) only [x153_562, x153_563, x153_564, x153_565, x153_566, x153_567K (c := 5) rfl, x153_568, isF, isK, isH, mK, nl_i, nl_n, nl_o, nl_r, c1_i, c1_r, mPush, mRv, G0_1, true_and, and_true, and_self, implies_true, List.length_nil, List.length_cons, Nat.reduceAdd, Nat.reduceLeDiff, Nat.zero_le, beq_self_eq_true, Nat.reduceBEq, decide_true, Bool.and_self, reduceCtorEq, ne_eq, not_true_eq_false, not_false_eq_true, false_implies, true_implies, Nat.reduceLT, Nat.reduceEqDiff, or_true, true_or, or_false, false_or, or_self, Int.reduceEq, Int.reduceNe, Int.reduceLT, Int.reduceLE, Int.reduceAdd, Int.reduceSub, Int.reduceMul, Int.reduceNeg, Int.reduceToNat, if_true, if_false, Classical.not_not, Int.cast_ofNat_Int, kd176, kd177, kd178, kd179, kd180, kd181, kd182, kd183, kd184, kd185, kd186, kd187, kd188, kd189, kd190, kd191, kd192, kd193, kd194, rf176_1, rf176_2, rf176_4, rf176_5, rf176_6, rf176_8, rf176_9, rf176_10, rf176_11, rf176_12, rf176_13, rf176_14, rf176_16, rf176_17, rf176_18, rf176_19, rf176_20, rf176_23, kL, kI, kI5, mWr_of, a1, a2, a3, a4, b1, b2, b3, b4]
  refine Wp_mono h2 ?_
  rintro r2 g2 μ2 ⟨rfl, rfl, hI2⟩
  refine ⟨⟨rfl, rfl⟩, ?_⟩
  simp (disch := first | omega | exact rfl) only [x153_571, isF, isK, isH, mK, nl_i, nl_n, nl_o, nl_r, c1_i, c1_r, mPush, mRv, G0_1, true_and, and_true, and_self, implies_true, List.length_nil, List.length_cons, Nat.reduceAdd, Nat.reduceLeDiff, Nat.zero_le, beq_self_eq_true, Nat.reduceBEq, decide_true, Bool.and_self, reduceCtorEq, ne_eq, not_true_eq_false, not_false_eq_true, false_implies, true_implies, Nat.reduceLT, Nat.reduceEqDiff, or_true, true_or, or_false, false_or, or_self, Int.reduceEq, Int.reduceNe, Int.reduceLT, Int.reduceLE, Int.reduceAdd, Int.reduceSub, Int.reduceMul, Int.reduceNeg, Int.reduceToNat, if_true, if_false, Classical.not_not, Int.cast_ofNat_Int]
  exact next μ2 hI2
theorem lw_12 (hI : INV μ) {i : Nat} (hi : i + 5 ≤ E.1) (hE : E.1 ≤ 2560) (next : ∀ μ' : MU, INV μ' → Wp E 153 849 [some (mK 5), some (mR 0), some (mR 176), some (.inl i)] [] G0 μ' Q) :
    Wp E 153 32 [some (mK 5), some (mR 0), some (mR 176), some (.inl i)] [.inl 12] G0 μ Q := by
  have a1 : (0 : Int) ≤ (i : Int) + 1 := by omega
  have a2 : (0 : Int) ≤ (i : Int) + 2 := by omega
  have a3 : (0 : Int) ≤ (i : Int) + 3 := by omega
  have a4 : (0 : Int) ≤ (i : Int) + 4 := by omega
  have b1 : (i : Int) + 1 < (E.1 : Int) := by omega
  have b2 : (i : Int) + 2 < (E.1 : Int) := by omega
  have b3 : (i : Int) + 3 < (E.1 : Int) := by omega
  have b4 : (i : Int) + 4 < (E.1 : Int) := by omega
  simp (disch := first | omega | exact rfl) only [x153_32_12, x153_576, x153_577, x153_578, x153_579, x153_580, x153_581K (c := 5) rfl, x153_582, x153_583, x153_584, x153_585, x153_586K (c := 5) rfl, x153_587, isF, isK, isH, mK, nl_i, nl_n, nl_o, nl_r, c1_i, c1_r, mPush, mRv, G0_1, true_and, and_true, and_self, implies_true, List.length_nil, List.length_cons, Nat.reduceAdd, Nat.reduceLeDiff, Nat.zero_le, beq_self_eq_true, Nat.reduceBEq, decide_true, Bool.and_self, reduceCtorEq, ne_eq, not_true_eq_false, not_false_eq_true, false_implies, true_implies, Nat.reduceLT, Nat.reduceEqDiff, or_true, true_or, or_false, false_or, or_self, Int.reduceEq, Int.reduceNe, Int.reduceLT, Int.reduceLE, Int.reduceAdd, Int.reduceSub, Int.reduceMul, Int.reduceNeg, Int.reduceToNat, if_true, if_false, Classical.not_not, Int.cast_ofNat_Int, kd0, rf0_0, rf0_1, rf0_2, rf0_3, rf0_4, rf0_5, rf0_6, rf0_7, rf0_8, kL, kI, kI5, mWr_of, a1, a2, a3, a4, b1, b2, b3, b4]
  refine Wp_mono (op53 hI) ?_
  rintro r g' μ1 ⟨v, rfl, rfl, h2⟩
  refine ⟨⟨rfl, rfl⟩, ?_⟩
  simp (disch := first | omega | exact rfl) only [x153_590, x153_591, x153_592, x153_593, x153_594, x153_595K (c := 5) rfl, x153_596, x153_597, x153_598, x153_599, x153_600K (c := 5) rfl, x153_601, isF, isK, isH, mK, nl_i, nl_n, nl_o, nl_r, c1_i, c1_r, mPush, mRv, G0_1, true_and, and_true, and_self, implies_true, List.length_nil, List.length_cons, Nat.reduceAdd, Nat.reduceLeDiff, Nat.zero_le, beq_self_eq_true, Nat.reduceBEq, decide_true, Bool.and_self, reduceCtorEq, ne_eq, not_true_eq_false, not_false_eq_true, false_implies, true_implies, Nat.reduceLT, Nat.reduceEqDiff, or_true, true_or, or_false, false_or, or_self, Int.reduceEq, Int.reduceNe, Int.reduceLT, Int.reduceLE, Int.reduceAdd, Int.reduceSub, Int.reduceMul, Int.reduceNeg, Int.reduceToNat, if_true, if_false, Classical.not_not, Int.cast_ofNat_Int, kd176, kd177, kd178, kd179, kd180, kd181, kd182, kd183, kd184, kd185, kd186, kd187, kd188, kd189, kd190, kd191, kd192, kd193, kd194, rf176_1, rf176_2, rf176_4, rf176_5, rf176_6, rf176_8, rf176_9, rf176_10, rf176_11, rf176_12, rf176_13, rf176_14, rf176_16, rf176_17, rf176_18, rf176_19, rf176_20, rf176_23, kL, kI, kI5, mWr_of, a1, a2, a3, a4, b1, b2, b3, b4]
  refine Wp_mono h2 ?_
  rintro r2 g2 μ2 ⟨rfl, rfl, hI2⟩
  refine ⟨⟨rfl, rfl⟩, ?_⟩
  simp (disch := first | omega | exact rfl) only [x153_604, isF, isK, isH, mK, nl_i, nl_n, nl_o, nl_r, c1_i, c1_r, mPush, mRv, G0_1, true_and, and_true, and_self, implies_true, List.length_nil, List.length_cons, Nat.reduceAdd, Nat.reduceLeDiff, Nat.zero_le, beq_self_eq_true, Nat.reduceBEq, decide_true, Bool.and_self, reduceCtorEq, ne_eq, not_true_eq_false, not_false_eq_true, false_implies, true_implies, Nat.reduceLT, Nat.reduceEqDiff, or_true, true_or, or_false, false_or, or_self, Int.reduceEq, Int.reduceNe, Int.reduceLT, Int.reduceLE, Int.reduceAdd, Int.reduceSub, Int.reduceMul, Int.reduceNeg, Int.reduceToNat, if_true, if_false, Classical.not_not, Int.cast_ofNat_Int]
  exact next μ2 hI2
theorem lw_13 (hI : INV μ) {i : Nat} (hi : i + 5 ≤ E.1) (hE : E.1 ≤ 2560) (next : ∀ μ' : MU, INV μ' → Wp E 153 849 [some (mK 5), some (mR 0), some (mR 176), some (.inl i)] [] G0 μ' Q) :
    Wp E 153 32 [some (mK 5), some (mR 0), some (mR 176), some (.inl i)] [.inl 13] G0 μ Q := by
  have a1 : (0 : Int) ≤ (i : Int) + 1 := by omega
  have a2 : (0 : Int) ≤ (i : Int) + 2 := by omega
  have a3 : (0 : Int) ≤ (i : Int) + 3 := by omega
  have a4 : (0 : Int) ≤ (i : Int) + 4 := by omega
  have b1 : (i : Int) + 1 < (E.1 : Int) := by omega
  have b2 : (i : Int) + 2 < (E.1 : Int) := by omega
  have b3 : (i : Int) + 3 < (E.1 : Int) := by omega
  have b4 : (i : Int) + 4 < (E.1 : Int) := by omega
  simp (disch := first | omega | exact rfl) only [x153_32_13, x153_609, x153_610, x153_611, x153_612, x153_613, x153_614K (c := 5) rfl, x153_615, isF, isK, isH, mK, nl_i, nl_n, nl_o, nl_r, c1_i, c1_r, mPush, mRv, G0_1, true_and, and_true, and_self, implies_true, List.length_nil, List.length_cons, Nat.reduceAdd, Nat.reduceLeDiff, Nat.zero_le, beq_self_eq_true, Nat.reduceBEq, decide_true, Bool.and_self, reduceCtorEq, ne_eq, not_true_eq_false, not_false_eq_true, false_implies, true_implies, Nat.reduceLT, Nat.reduceEqDiff, or_true, true_or, or_false, false_or, or_self, Int.reduceEq, Int.reduceNe, Int.reduceLT, Int.reduceLE, Int.reduceAdd, Int.reduceSub, Int.reduceMul, Int.reduceNeg, Int.reduceToNat, if_true, if_false, Classical.not_not, Int.cast_ofNat_Int, kd0, rf0_0, rf0_1, rf0_2, rf0_3, rf0_4, rf0_5, rf0_6, rf0_7, rf0_8, kL, kI, kI5, mWr_of, a1, a2, a3, a4, b1, b2, b3, b4]
  refine Wp_mono (op54 hI) ?_
  rintro r g' μ1 ⟨v, rfl, rfl, h2⟩
  refine ⟨⟨rfl, rfl⟩, ?_⟩
  simp (disch := first | omega | exact rfl) only [x153_618, x153_619, x153_620, x153_621, x153_622, x153_623K (c := 5) rfl, x153_624, isF, isK, isH, mK, nl_i, nl_n, nl_o, nl_r, c1_i, c1_r, mPush, mRv, G0_1, true_and, and_true, and_self, implies_true, List.length_nil, List.length_cons, Nat.reduceAdd, Nat.reduceLeDiff, Nat.zero_le, beq_self_eq_true, Nat.reduceBEq, decide_true, Bool.and_self, reduceCtorEq, ne_eq, not_true_eq_false, not_false_eq_true, false_implies, true_implies, Nat.reduceLT, Nat.reduceEqDiff, or_true, true_or, or_false, false_or, or_self, Int.reduceEq, Int.reduceNe, Int.reduceLT, Int.reduceLE, Int.reduceAdd, Int.reduceSub, Int.reduceMul, Int.reduceNeg, Int.reduceToNat, if_true, if_false, Classical.not_not, Int.cast_ofNat_Int, kd176, kd177, kd178, kd179, kd180, kd181, kd182, kd183, kd184, kd185, kd186, kd187, kd188, kd189, kd190, kd191, kd192, kd193, kd194, rf176_1, rf176_2, rf176_4, rf176_5, rf176_6, rf176_8, rf176_9, rf176_10, rf176_11, rf176_12, rf176_13, rf176_14, rf176_16, rf176_17, rf176_18, rf176_19, rf176_20, rf176_23, kL, kI, kI5, mWr_of, a1, a2, a3, a4, b1, b2, b3, b4]
  refine Wp_mono h2 ?_
  rintro r2 g2 μ2 ⟨rfl, rfl, hI2⟩
  refine ⟨⟨rfl, rfl⟩, ?_⟩
  simp (disch := first | omega | exact rfl) only [x153_627, isF, isK, isH, mK, nl_i, nl_n, nl_o, nl_r, c1_i, c1_r, mPush, mRv, G0_1, true_and, and_true, and_self, implies_true, List.length_nil, List.length_cons, Nat.reduceAdd, Nat.reduceLeDiff, Nat.zero_le, beq_self_eq_true, Nat.reduceBEq, decide_true, Bool.and_self, reduceCtorEq, ne_eq, not_true_eq_false, not_false_eq_true, false_implies, true_implies, Nat.reduceLT, Nat.reduceEqDiff, or_true, true_or, or_false, false_or, or_self, Int.reduceEq, Int.reduceNe, Int.reduceLT, Int.reduceLE, Int.reduceAdd, Int.reduceSub, Int.reduceMul, Int.reduceNeg, Int.reduceToNat, if_true, if_false, Classical.not_not, Int.cast_ofNat_Int]
  exact next μ2 hI2
theorem lw_14 (hI : INV μ) {i : Nat} (hi : i + 5 ≤ E.1) (hE : E.1 ≤ 2560) (next : ∀ μ' : MU, INV μ' → Wp E 153 849 [some (mK 5), some (mR 0), some (mR 176), some (.inl i)] [] G0 μ' Q) :
    Wp E 153 32 [some (mK 5), some (mR 0), some (mR 176), some (.inl i)] [.inl 14] G0 μ Q := by
  have a1 : (0 : Int) ≤ (i : Int) + 1 := by omega
  have a2 : (0 : Int) ≤ (i : Int) + 2 := by omega
  have a3 : (0 : Int) ≤ (i : Int) + 3 := by omega
  have a4 : (0 : Int) ≤ (i : Int) + 4 := by omega
  have b1 : (i : Int) + 1 < (E.1 : Int) := by omega
  have b2 : (i : Int) + 2 < (E.1 : Int) := by omega
  have b3 : (i : Int) + 3 < (E.1 : Int) := by omega
  have b4 : (i : Int) + 4 < (E.1 : Int) := by omega
  simp (disch := first | omega | exact rfl) only [x153_32_14, x153_632, x153_633, x153_634, x153_635, x153_636, x153_637K (c := 5) rfl, x153_638, x153_639, x153_640, x153_641, x153_642K (c := 5) rfl, x153_643, x153_644, x153_645, x153_646, x153_647K (c := 5) rfl, x153_648, isF, isK, isH, mK, nl_i, nl_n, nl_o, nl_r, c1_i, c1_r, mPush, mRv, G0_1, true_and, and_true, and_self, implies_true, List.length_nil, List.length_cons, Nat.reduceAdd, Nat.reduceLeDiff, Nat.zero_le, beq_self_eq_true, Nat.reduceBEq, decide_true, Bool.and_self, reduceCtorEq, ne_eq, not_true_eq_false, not_false_eq_true, false_implies, true_implies, Nat.reduceLT, Nat.reduceEqDiff, or_true, true_or, or_false, false_or, or_self, Int.reduceEq, Int.reduceNe, Int.reduceLT, Int.reduceLE, Int.reduceAdd, Int.reduceSub, Int.reduceMul, Int.reduceNeg, Int.reduceToNat, if_true, if_false, Classical.not_not, Int.cast_ofNat_Int, kd0, rf0_0, rf0_1, rf0_2, rf0_3, rf0_4, rf0_5, rf0_6, rf0_7, rf0_8, kL, kI, kI5, mWr_of, a1, a2, a3, a4, b1, b2, b3, b4]
  refine Wp_mono (op60 hI) ?_
  rintro r g' μ1 ⟨v, rfl, rfl, h2⟩
  refine ⟨⟨rfl, rfl⟩, ?_⟩
  simp (disch := first | omega | exact rfl) only [x153_651, x153_652, x153_653, x153_654, x153_655, x153_656K (c := 5) rfl, x153_657, x153_658, x153_659, x153_660, x153_661K (c := 5) rfl, x153_662, x153_663, x153_664, x153_665, x153_666K (c := 5) rfl, x153_667, isF, isK, isH, mK, nl_i, nl_n, nl_o, nl_r, c1_i, c1_r, mPush, mRv, G0_1, true_and, and_true, and_self, implies_true, List.length_nil, List.length_cons, Nat.reduceAdd, Nat.reduceLeDiff, Nat.zero_le, beq_self_eq_true, Nat.reduceBEq, decide_true, Bool.and_self, reduceCtorEq, ne_eq, not_true_eq_false, not_false_eq_true, false_implies, true_implies, Nat.reduceLT, Nat.reduceEqDiff, or_true, true_or, or_false, false_or, or_self, Int.reduceEq, Int.reduceNe, Int.reduceLT, Int.reduceLE, Int.reduceAdd, Int.reduceSub, Int.reduceMul, Int.reduceNeg, Int.reduceToNat, if_true, if_false, Classical.not_not, Int.cast_ofNat_Int, kd176, kd177, kd178, kd179, kd180, kd181, kd182, kd183, kd184, kd185, kd186, kd187, kd188, kd189, kd190, kd191, kd192, kd193, kd194, rf176_1, rf176_2, rf176_4, rf176_5, rf176_6, rf176_8, rf176_9, rf176_10, rf176_11, rf176_12, rf176_13, rf176_14, rf176_16, rf176_17, rf176_18, rf176_19, rf176_20, rf176_23, kL, kI, kI5, mWr_of, a1, a2, a3, a4, b1, b2, b3, b4]
  refine Wp_mono h2 ?_
  rintro r2 g2 μ2 ⟨rfl, rfl, hI2⟩
  refine ⟨⟨rfl, rfl⟩, ?_⟩
  simp (disch := first | omega | exact rfl) only [x153_670, isF, isK, isH, mK, nl_i, nl_n, nl_o, nl_r, c1_i, c1_r, mPush, mRv, G0_1, true_and, and_true, and_self, implies_true, List.length_nil, List.length_cons, Nat.reduceAdd, Nat.reduceLeDiff, Nat.zero_le, beq_self_eq_true, Nat.reduceBEq, decide_true, Bool.and_self, reduceCtorEq, ne_eq, not_true_eq_false, not_false_eq_true, false_implies, true_implies, Nat.reduceLT, Nat.reduceEqDiff, or_true, true_or, or_false, false_or, or_self, Int.reduceEq, Int.reduceNe, Int.reduceLT, Int.reduceLE, Int.reduceAdd, Int.reduceSub, Int.reduceMul, Int.reduceNeg, Int.reduceToNat, if_true, if_false, Classical.not_not, Int.cast_ofNat_Int]
  exact next μ2 hI2
theorem lw_15 (hI : INV μ) {i : Nat} (hi : i + 5 ≤ E.1) (hE : E.1 ≤ 2560) (next : ∀ μ' : MU, INV μ' → Wp E 153 849 [some (mK 5), some (mR 0), some (mR 176), some (.inl i)] [] G0 μ' Q) :
    Wp E 153 32 [some (mK 5), some (mR 0), some (mR 176), some (.inl i)] [.inl 15] G0 μ Q := by
  have a1 : (0 : Int) ≤ (i : Int) + 1 := by omega
  have a2 : (0 : Int) ≤ (i : Int) + 2 := by omega
  have a3 : (0 : Int) ≤ (i : Int) + 3 := by omega
  have a4 : (0 : Int) ≤ (i : Int) + 4 := by omega
  have b1 : (i : Int) + 1 < (E.1 : Int) := by omega
  have b2 : (i : Int) + 2 < (E.1 : Int) := by omega
  have b3 : (i : Int) + 3 < (E.1 : Int) := by omega
  have b4 : (i : Int) + 4 < (E.1 : Int) := by omega
  simp (disch := first | omega | exact rfl) only [x153_32_15, x153_675, x153_676, x153_677, x153_678, x153_679, x153_680K (c := 5) rfl, x153_681, isF, isK, isH, mK, nl_i, nl_n, nl_o, nl_r, c1_i, c1_r, mPush, mRv, G0_1, true_and, and_true, and_self, implies_true, List.length_nil, List.length_cons, Nat.reduceAdd, Nat.reduceLeDiff, Nat.zero_le, beq_self_eq_true, Nat.reduceBEq, decide_true, Bool.and_self, reduceCtorEq, ne_eq, not_true_eq_false, not_false_eq_true, false_implies, true_implies, Nat.reduceLT, Nat.reduceEqDiff, or_true, true_or, or_false, false_or, or_self, Int.reduceEq, Int.reduceNe, Int.reduceLT, Int.reduceLE, Int.reduceAdd, Int.reduceSub, Int.reduceMul, Int.reduceNeg, Int.reduceToNat, if_true, if_false, Classical.not_not, Int.cast_ofNat_Int, kd0, rf0_0, rf0_1, rf0_2, rf0_3, rf0_4, rf0_5, rf0_6, rf0_7, rf0_8, kL, kI, kI5, mWr_of, a1, a2, a3, a4, b1, b2, b3, b4]
  refine Wp_mono (op61 hI) ?_
  rintro r g' μ1 ⟨v, rfl, rfl, h2⟩
  refine ⟨⟨rfl, rfl⟩, ?_⟩
  simp (disch := first | omega | exact rfl) only [x153_684, x153_685, x153_686, x153_687, x153_688, x153_689K (c := 5) rfl, x153_690, isF, isK, isH, mK, nl_i, nl_n, nl_o, nl_r, c1_i, c1_r, mPush, mRv, G0_1, true_and, and_true, and_self, implies_true, List.length_nil, List.length_cons, Nat.reduceAdd, Nat.reduceLeDiff, Nat.zero_le, beq_self_eq_true, Nat.reduceBEq, decide_true, Bool.and_self, reduceCtorEq, ne_eq, not_true_eq_false, not_false_eq_true, false_implies, true_implies, Nat.reduceLT, Nat.reduceEqDiff, or_true, true_or, or_false, false_or, or_self, Int.reduceEq, Int.reduceNe, Int.reduceLT, Int.reduceLE, Int.reduceAdd, Int.reduceSub, Int.reduceMul, Int.reduceNeg, Int.reduceToNat, if_true, if_false, Classical.not_not, Int.cast_ofNat_Int, kd176, kd177, kd178, kd179, kd180, kd181, kd182, kd183, kd184, kd185, kd186, kd187, kd188, kd189, kd190, kd191, kd192, kd193, kd194, rf176_1, rf176_2, rf176_4, rf176_5, rf176_6, rf176_8, rf176_9, rf176_10, rf176_11, rf176_12, rf176_13, rf176_14, rf176_16, rf176_17, rf176_18, rf176_19, rf176_20, rf176_23, kL, kI, kI5, mWr_of, a1, a2, a3, a4, b1, b2, b3, b4]
  refine Wp_mono h2 ?_
  rintro r2 g2 μ2 ⟨rfl, rfl, hI2⟩
  refine ⟨⟨rfl, rfl⟩, ?_⟩
  simp (disch := first | omega | exact rfl) only [x153_693, isF, isK, isH, mK, nl_i, nl_n, nl_o, nl_r, c1_i, c1_r, mPush, mRv, G0_1, true_and, and_true, and_self, implies_true, List.length_nil, List.length_cons, Nat.reduceAdd, Nat.reduceLeDiff, Nat.zero_le, beq_self_eq_true, Nat.reduceBEq, decide_true, Bool.and_self, reduceCtorEq, ne_eq, not_true_eq_false, not_false_eq_true, false_implies, true_implies, Nat.reduceLT, Nat.reduceEqDiff, or_true, true_or, or_false, false_or, or_self, Int.reduceEq, Int.reduceNe, Int.reduceLT, Int.reduceLE, Int.reduceAdd, Int.reduceSub, Int.reduceMul, Int.reduceNeg, Int.reduceToNat, if_true, if_false, Classical.not_not, Int.cast_ofNat_Int]
  exact next μ2 hI2
theorem lw_16 (hI : INV μ) {i : Nat} (hi : i + 5 ≤ E.1) (hE : E.1 ≤ 2560) (next : ∀ μ' : MU, INV μ' → Wp E 153 849 [some (mK 5), some (mR 0), some (mR 176), some (.inl i)] [] G0 μ' Q) :
    Wp E 153 32 [some (mK 5), some (mR 0), some (mR 176), some (.inl i)] [.inl 16] G0 μ Q := by
  have a1 : (0 : Int) ≤ (i : Int) + 1 := by omega
  have a2 : (0 : Int) ≤ (i : Int) + 2 := by omega
  have a3 : (0 : Int) ≤ (i : Int) + 3 := by omega
  have a4 : (0 : Int) ≤ (i : Int) + 4 := by omega
  have b1 : (i : Int) + 1 < (E.1 : Int) := by omega
  have b2 : (i : Int) + 2 < (E.1 : Int) := by omega
  have b3 : (i : Int) + 3 < (E.1 : Int) := by omega
  have b4 : (i : Int) + 4 < (E.1 : Int) := by omega
  simp (disch := first | omega | exact rfl) only [x153_32_16, x153_698, x153_699, x153_700, x153_701, x153_702, x153_703K (c := 5) rfl, x153_704, x153_705, x153_707, x153_708, x153_709, x153_710, x153_711, x153_712K (c := 5) rfl, x153_713, x153_714, x153_717, x153_718, x153_719, isF, isK, isH, mK, nl_i, nl_n, nl_o, nl_r, c1_i, c1_r, mPush, mRv, G0_1, true_and, and_true, and_self, implies_true, List.length_nil, List.length_cons, Nat.reduceAdd, Nat.reduceLeDiff, Nat.zero_le, beq_self_eq_true, Nat.reduceBEq, decide_true, Bool.and_self, reduceCtorEq, ne_eq, not_true_eq_false, not_false_eq_true, false_implies, true_implies, Nat.reduceLT, Nat.reduceEqDiff, or_true, true_or, or_false, false_or, or_self, Int.reduceEq, Int.reduceNe, Int.reduceLT, Int.reduceLE, Int.reduceAdd, Int.reduceSub, Int.reduceMul, Int.reduceNeg, Int.reduceToNat, if_true, if_false, Classical.not_not, Int.cast_ofNat_Int, kd0, rf0_0, rf0_1, rf0_2, rf0_3, rf0_4, rf0_5, rf0_6, rf0_7, rf0_8, kL, kI, kI5, mWr_of, a1, a2, a3, a4, b1, b2, b3, b4]
  refine Wp_mono (op64 hI) ?_
  rintro r g' μ1 ⟨v, rfl, rfl, h2⟩
  refine ⟨⟨rfl, rfl⟩, ?_⟩
  simp (disch := first | omega | exact rfl) only [x153_722, x153_723, x153_724, x153_725, x153_726, x153_727K (c := 5) rfl, x153_728, x153_729, x153_731, x153_732, x153_733, x153_734, x153_735, x153_736K (c := 5) rfl, x153_737, x153_738, x153_741, x153_742, x153_743, isF, isK, isH, mK, nl_i, nl_n, nl_o, nl_r, c1_i, c1_r, mPush, mRv, G0_1, true_and, and_true, and_self, implies_true, List.length_nil, List.length_cons, Nat.reduceAdd, Nat.reduceLeDiff, Nat.zero_le, beq_self_eq_true, Nat.reduceBEq, decide_true, Bool.and_self, reduceCtorEq, ne_eq, not_true_eq_false, not_false_eq_true, false_implies, true_implies, Nat.reduceLT, Nat.reduceEqDiff, or_true, true_or, or_false, false_or, or_self, Int.reduceEq, Int.reduceNe, Int.reduceLT, Int.reduceLE, Int.reduceAdd, Int.reduceSub, Int.reduceMul, Int.reduceNeg, Int.reduceToNat, if_true, if_false, Classical.not_not, Int.cast_ofNat_Int, kd176, kd177, kd178, kd179, kd180, kd181, kd182, kd183, kd184, kd185, kd186, kd187, kd188, kd189, kd190, kd191, kd192, kd193, kd194, rf176_1, rf176_2, rf176_4, rf176_5, rf176_6, rf176_8, rf176_9, rf176_10, rf176_11, rf176_12, rf176_13, rf176_14, rf176_16, rf176_17, rf176_18, rf176_19, rf176_20, rf176_23, kL, kI, kI5, mWr_of, a1, a2, a3, a4, b1, b2, b3, b4]
  refine Wp_mono h2 ?_
  rintro r2 g2 μ2 ⟨rfl, rfl, hI2⟩
  refine ⟨⟨rfl, rfl⟩, ?_⟩
  simp (disch := first | omega | exact rfl) only [x153_746, isF, isK, isH, mK, nl_i, nl_n, nl_o, nl_r, c1_i, c1_r, mPush, mRv, G0_1, true_and, and_true, and_self, implies_true, List.length_nil, List.length_cons, Nat.reduceAdd, Nat.reduceLeDiff, Nat.zero_le, beq_self_eq_true, Nat.reduceBEq, decide_true, Bool.and_self, reduceCtorEq, ne_eq, not_true_eq_false, not_false_eq_true, false_implies, true_implies, Nat.reduceLT, Nat.reduceEqDiff, or_true, true_or, or_false, false_or, or_self, Int.reduceEq, Int.reduceNe, Int.reduceLT, Int.reduceLE, Int.reduceAdd, Int.reduceSub, Int.reduceMul, Int.reduceNeg, Int.reduceToNat, if_true, if_false, Classical.not_not, Int.cast_ofNat_Int]
  exact next μ2 hI2
theorem lw_17 (hI : INV μ) {i : Nat} (hi : i + 5 ≤ E.1) (hE : E.1 ≤ 2560) (next : ∀ μ' : MU, INV μ' → Wp E 153 849 [some (mK 5), some (mR 0), some (mR 176), some (.inl i)] [] G0 μ' Q) :
    Wp E 153 32 [some (mK 5), some (mR 0), some (mR 176), some (.inl i)] [.inl 17] G0 μ Q := by
  have a1 : (0 : Int) ≤ (i : Int) + 1 := by omega
  have a2 : (0 : Int) ≤ (i : Int) + 2 := by omega
  have a3 : (0 : Int) ≤ (i : Int) + 3 := by omega
  have a4 : (0 : Int) ≤ (i : Int) + 4 := by omega
  have b1 : (i : Int) + 1 < (E.1 : Int) := by omega
  have b2 : (i : Int) + 2 < (E.1 : Int) := by omega
  have b3 : (i : Int) + 3 < (E.1 : Int) := by omega
  have b4 : (i : Int) + 4 < (E.1 : Int) := by omega
  simp (disch := first | omega | exact rfl) only [x153_32_17, x153_751, x153_752, isF, isK, isH, mK, nl_i, nl_n, nl_o, nl_r, c1_i, c1_r, mPush, mRv, G0_1, true_and, and_true, and_self, implies_true, List.length_nil, List.length_cons, Nat.reduceAdd, Nat.reduceLeDiff, Nat.zero_le, beq_self_eq_true, Nat.reduceBEq, decide_true, Bool.and_self, reduceCtorEq, ne_eq, not_true_eq_false, not_false_eq_true, false_implies, true_implies, Nat.reduceLT, Nat.reduceEqDiff, or_true, true_or, or_false, false_or, or_self, Int.reduceEq, Int.reduceNe, Int.reduceLT, Int.reduceLE, Int.reduceAdd, Int.reduceSub, Int.reduceMul, Int.reduceNeg, Int.reduceToNat, if_true, if_false, Classical.not_not, Int.cast_ofNat_Int, kd0, rf0_0, rf0_1, rf0_2, rf0_3, rf0_4, rf0_5, rf0_6, rf0_7, rf0_8, kL, kI, kI5, mWr_of, a1, a2, a3, a4, b1, b2, b3, b4]
  refine Wp_mono (op65 hI) ?_
  rintro r g' μ1 ⟨v, rfl, rfl, h2⟩
  refine ⟨⟨rfl, rfl⟩, ?_⟩
  simp (disch := first | omega | exact rfl) only [x153_755, x153_756, isF, isK, isH, mK, nl_i, nl_n, nl_o, nl_r, c1_i, c1_r, mPush, mRv, G0_1, true_and, and_true, and_self, implies_true, List.length_nil, List.length_cons, Nat.reduceAdd, Nat.reduceLeDiff, Nat.zero_le, beq_self_eq_true, Nat.reduceBEq, decide_true, Bool.and_self, reduceCtorEq, ne_eq, not_true_eq_false, not_false_eq_true, false_implies, true_implies, Nat.reduceLT, Nat.reduceEqDiff, or_true, true_or, or_false, false_or, or_self, Int.reduceEq, Int.reduceNe, Int.reduceLT, Int.reduceLE, Int.reduceAdd, Int.reduceSub, Int.reduceMul, Int.reduceNeg, Int.reduceToNat, if_true, if_false, Classical.not_not, Int.cast_ofNat_Int, kd176, kd177, kd178, kd179, kd180, kd181, kd182, kd183, kd184, kd185, kd186, kd187, kd188, kd189, kd190, kd191, kd192, kd193, kd194, rf176_1, rf176_2, rf176_4, rf176_5, rf176_6, rf176_8, rf176_9, rf176_10, rf176_11, rf176_12, rf176_13, rf176_14, rf176_16, rf176_17, rf176_18, rf176_19, rf176_20, rf176_23, kL, kI, kI5, mWr_of, a1, a2, a3, a4, b1, b2, b3, b4]
  refine Wp_mono h2 ?_
  rintro r2 g2 μ2 ⟨rfl, rfl, hI2⟩
  refine ⟨⟨rfl, rfl⟩, ?_⟩
  simp (disch := first | omega | exact rfl) only [x153_759, isF, isK, isH, mK, nl_i, nl_n, nl_o, nl_r, c1_i, c1_r, mPush, mRv, G0_1, true_and, and_true, and_self, implies_true, List.length_nil, List.length_cons, Nat.reduceAdd, Nat.reduceLeDiff, Nat.zero_le, beq_self_eq_true, Nat.reduceBEq, decide_true, Bool.and_self, reduceCtorEq, ne_eq, not_true_eq_false, not_false_eq_true, false_implies, true_implies, Nat.reduceLT, Nat.reduceEqDiff, or_true, true_or, or_false, false_or, or_self, Int.reduceEq, Int.reduceNe, Int.reduceLT, Int.reduceLE, Int.reduceAdd, Int.reduceSub, Int.reduceMul, Int.reduceNeg, Int.reduceToNat, if_true, if_false, Classical.not_not, Int.cast_ofNat_Int]
  exact next μ2 hI2
theorem lw_18 (hI : INV μ) {i : Nat} (hi : i + 5 ≤ E.1) (hE : E.1 ≤ 2560) (next : ∀ μ' : MU, INV μ' → Wp E 153 849 [some (mK 5), some (mR 0), some (mR 176), some (.inl i)] [] G0 μ' Q) :
    Wp E 153 32 [some (mK 5), some (mR 0), some (mR 176), some (.inl i)] [.inl 18] G0 μ Q := by
  have a1 : (0 : Int) ≤ (i : Int) + 1 := by omega
  have a2 : (0 : Int) ≤ (i : Int) + 2 := by omega
  have a3 : (0 : Int) ≤ (i : Int) + 3 := by omega
  have a4 : (0 : Int) ≤ (i : Int) + 4 := by omega
  have b1 : (i : Int) + 1 < (E.1 : Int) := by omega
  have b2 : (i : Int) + 2 < (E.1 : Int) := by omega
  have b3 : (i : Int) + 3 < (E.1 : Int) := by omega
  have b4 : (i : Int) + 4 < (E.1 : Int) := by omega
  simp (disch := first | omega | exact rfl) only [x153_32_18, x153_764, x153_765, isF, isK, isH, mK, nl_i, nl_n, nl_o, nl_r, c1_i, c1_r, mPush, mRv, G0_1, true_and, and_true, and_self, implies_true, List.length_nil, List.length_cons, Nat.reduceAdd, Nat.reduceLeDiff, Nat.zero_le, beq_self_eq_true, Nat.reduceBEq, decide_true, Bool.and_self, reduceCtorEq, ne_eq, not_true_eq_false, not_false_eq_true, false_implies, true_implies, Nat.reduceLT, Nat.reduceEqDiff, or_true, true_or, or_false, false_or, or_self, Int.reduceEq, Int.reduceNe, Int.reduceLT, Int.reduceLE, Int.reduceAdd, Int.reduceSub, Int.reduceMul, Int.reduceNeg, Int.reduceToNat, if_true, if_false, Classical.not_not, Int.cast_ofNat_Int, kd0, rf0_0, rf0_1, rf0_2, rf0_3, rf0_4, rf0_5, rf0_6, rf0_7, rf0_8, kL, kI, kI5, mWr_of, a1, a2, a3, a4, b1, b2, b3, b4]
  refine Wp_mono (op66 hI) ?_
  rintro r g' μ1 ⟨v, rfl, rfl, h2⟩
  refine ⟨⟨rfl, rfl⟩, ?_⟩
  simp (disch := first | omega | exact rfl) only [x153_768, x153_769, isF, isK, isH, mK, nl_i, nl_n, nl_o, nl_r, c1_i, c1_r, mPush, mRv, G0_1, true_and, and_true, and_self, implies_true, List.length_nil, List.length_cons, Nat.reduceAdd, Nat.reduceLeDiff, Nat.zero_le, beq_self_eq_true, Nat.reduceBEq, decide_true, Bool.and_self, reduceCtorEq, ne_eq, not_true_eq_false, not_false_eq_true, false_implies, true_implies, Nat.reduceLT, Nat.reduceEqDiff, or_true, true_or, or_false, false_or, or_self, Int.reduceEq, Int.reduceNe, Int.reduceLT, Int.reduceLE, Int.reduceAdd, Int.reduceSub, Int.reduceMul, Int.reduceNeg, Int.reduceToNat, if_true, if_false, Classical.not_not, Int.cast_ofNat_Int, kd176, kd177, kd178, kd179, kd180, kd181, kd182, kd183, kd184, kd185, kd186, kd187, kd188, kd189, kd190, kd191, kd192, kd193, kd194, rf176_1, rf176_2, rf176_4, rf176_5, rf176_6, rf176_8, rf176_9, rf176_10, rf176_11, rf176_12, rf176_13, rf176_14, rf176_16, rf176_17, rf176_18, rf176_19, rf176_20, rf176_23, kL, kI, kI5, mWr_of, a1, a2, a3, a4, b1, b2, b3, b4]
  refine Wp_mono h2 ?_
  rintro r2 g2 μ2 ⟨rfl, rfl, hI2⟩
  refine ⟨⟨rfl, rfl⟩, ?_⟩
  simp (disch := first | omega | exact rfl) only [x153_772, isF, isK, isH, mK, nl_i, nl_n, nl_o, nl_r, c1_i, c1_r, mPush, mRv, G0_1, true_and, and_true, and_self, implies_true, List.length_nil, List.length_cons, Nat.reduceAdd, Nat.reduceLeDiff, Nat.zero_le, beq_self_eq_true, Nat.reduceBEq, decide_true, Bool.and_self, reduceCtorEq, ne_eq, not_true_eq_false, not_false_eq_true, false_implies, true_implies, Nat.reduceLT, Nat.reduceEqDiff, or_true, true_or, or_false, false_or, or_self, Int.reduceEq, Int.reduceNe, Int.reduceLT, Int.reduceLE, Int.reduceAdd, Int.reduceSub, Int.reduceMul, Int.reduceNeg, Int.reduceToNat, if_true, if_false, Classical.not_not, Int.cast_ofNat_Int]
  exact next μ2 hI2
theorem lw_19 (hI : INV μ) {i : Nat} (hi : i + 5 ≤ E.1) (hE : E.1 ≤ 2560) (next : ∀ μ' : MU, INV μ' → Wp E 153 849 [some (mK 5), some (mR 0), some (mR 176), some (.inl i)] [] G0 μ' Q) :
    Wp E 153 32 [some (mK 5), some (mR 0), some (mR 176), some (.inl i)] [.inl 19] G0 μ Q := by
  have a1 : (0 : Int) ≤ (i : Int) + 1 := by omega
  have a2 : (0 : Int) ≤ (i : Int) + 2 := by omega
  have a3 : (0 : Int) ≤ (i : Int) + 3 := by omega
  have a4 : (0 : Int) ≤ (i : Int) + 4 := by omega
  have b1 : (i : Int) + 1 < (E.1 : Int) := by omega
  have b2 : (i : Int) + 2 < (E.1 : Int) := by omega
  have b3 : (i : Int) + 3 < (E.1 : Int) := by omega
  have b4 : (i : Int) + 4 < (E.1 : Int) := by omega
  simp (disch := first | omega | exact rfl) only [x153_32_19, x153_777, x153_778, isF, isK, isH, mK, nl_i, nl_n, nl_o, nl_r, c1_i, c1_r, mPush, mRv, G0_1, true_and, and_true, and_self, implies_true, List.length_nil, List.length_cons, Nat.reduceAdd, Nat.reduceLeDiff, Nat.zero_le, beq_self_eq_true, Nat.reduceBEq, decide_true, Bool.and_self, reduceCtorEq, ne_eq, not_true_eq_false, not_false_eq_true, false_implies, true_implies, Nat.reduceLT, Nat.reduceEqDiff, or_true, true_or, or_false, false_or, or_self, Int.reduceEq, Int.reduceNe, Int.reduceLT, Int.reduceLE, Int.reduceAdd, Int.reduceSub, Int.reduceMul, Int.reduceNeg, Int.reduceToNat, if_true, if_false, Classical.not_not, Int.cast_ofNat_Int, kd0, rf0_0, rf0_1, rf0_2, rf0_3, rf0_4, rf0_5, rf0_6, rf0_7, rf0_8, kL, kI, kI5, mWr_of, a1, a2, a3, a4, b1, b2, b3, b4]
  refine Wp_mono (op67 hI) ?_
  rintro r g' μ1 ⟨v, rfl, rfl, h2⟩
  refine ⟨⟨rfl, rfl⟩, ?_⟩
  simp (disch := first | omega | exact rfl) only [x153_781, x153_782, isF, isK, isH, mK, nl_i, nl_n, nl_o, nl_r, c1_i, c1_r, mPush, mRv, G0_1, true_and, and_true, and_self, implies_true, List.length_nil, List.length_cons, Nat.reduceAdd, Nat.reduceLeDiff, Nat.zero_le, beq_self_eq_true, Nat.reduceBEq, decide_true, Bool.and_self, reduceCtorEq, ne_eq, not_true_eq_false, not_false_eq_true, false_implies, true_implies, Nat.reduceLT, Nat.reduceEqDiff, or_true, true_or, or_false, false_or, or_self, Int.reduceEq, Int.reduceNe, Int.reduceLT, Int.reduceLE, Int.reduceAdd, Int.reduceSub, Int.reduceMul, Int.reduceNeg, Int.reduceToNat, if_true, if_false, Classical.not_not, Int.cast_ofNat_Int, kd176, kd177, kd178, kd179, kd180, kd181, kd182, kd183, kd184, kd185, kd186, kd187, kd188, kd189, kd190, kd191, kd192, kd193, kd194, rf176_1, rf176_2, rf176_4, rf176_5, rf176_6, rf176_8, rf176_9, rf176_10, rf176_11, rf176_12, rf176_13, rf176_14, rf176_16, rf176_17, rf176_18, rf176_19, rf176_20, rf176_23, kL, kI, kI5, mWr_of, a1, a2, a3, a4, b1, b2, b3, b4]
  refine Wp_mono h2 ?_
  rintro r2 g2 μ2 ⟨rfl, rfl, hI2⟩
  refine ⟨⟨rfl, rfl⟩, ?_⟩
  simp (disch := first | omega | exact rfl) only [x153_785, isF, isK, isH, mK, nl_i, nl_n, nl_o, nl_r, c1_i, c1_r, mPush, mRv, G0_1, true_and, and_true, and_self, implies_true, List.length_nil, List.length_cons, Nat.reduceAdd, Nat.reduceLeDiff, Nat.zero_le, beq_self_eq_true, Nat.reduceBEq, decide_true, Bool.and_self, reduceCtorEq, ne_eq, not_true_eq_false, not_false_eq_true, false_implies, true_implies, Nat.reduceLT, Nat.reduceEqDiff, or_true, true_or, or_false, false_or, or_self, Int.reduceEq, Int.reduceNe, Int.reduceLT, Int.reduceLE, Int.reduceAdd, Int.reduceSub, Int.reduceMul, Int.reduceNeg, Int.reduceToNat, if_true, if_false, Classical.not_not, Int.cast_ofNat_Int]
  exact next μ2 hI2
theorem lw_20 (hI : INV μ) {i : Nat} (hi : i + 5 ≤ E.1) (hE : E.1 ≤ 2560) (next : ∀ μ' : MU, INV μ' → Wp E 153 849 [some (mK 5), some (mR 0), some (mR 176), some (.inl i)] [] G0 μ' Q) :
    Wp E 153 32 [some (mK 5), some (mR 0), some (mR 176), some (.inl i)] [.inl 20] G0 μ Q := by
  have a1 : (0 : Int) ≤ (i : Int) + 1 := by omega
  have a2 : (0 : Int) ≤ (i : Int) + 2 := by omega
  have a3 : (0 : Int) ≤ (i : Int) + 3 := by omega
  have a4 : (0 : Int) ≤ (i : Int) + 4 := by omega
  have b1 : (i : Int) + 1 < (E.1 : Int) := by omega
  have b2 : (i : Int) + 2 < (E.1 : Int) := by omega
  have b3 : (i : Int) + 3 < (E.1 : Int) := by omega
  have b4 : (i : Int) + 4 < (E.1 : Int) := by omega
  simp (disch := first | omega | exact rfl) only [x153_32_20, x153_790, x153_791, isF, isK, isH, mK, nl_i, nl_n, nl_o, nl_r, c1_i, c1_r, mPush, mRv, G0_1, true_and, and_true, and_self, implies_true, List.length_nil, List.length_cons, Nat.reduceAdd, Nat.reduceLeDiff, Nat.zero_le, beq_self_eq_true, Nat.reduceBEq, decide_true, Bool.and_self, reduceCtorEq, ne_eq, not_true_eq_false, not_false_eq_true, false_implies, true_implies, Nat.reduceLT, Nat.reduceEqDiff, or_true, true_or, or_false, false_or, or_self, Int.reduceEq, Int.reduceNe, Int.reduceLT, Int.reduceLE, Int.reduceAdd, Int.reduceSub, Int.reduceMul, Int.reduceNeg, Int.reduceToNat, if_true, if_false, Classical.not_not, Int.cast_ofNat_Int, kd0, rf0_0, rf0_1, rf0_2, rf0_3, rf0_4, rf0_5, rf0_6, rf0_7, rf0_8, kL, kI, kI5, mWr_of, a1, a2, a3, a4, b1, b2, b3, b4]
  refine Wp_mono (op70 hI) ?_
  rintro r g' μ1 ⟨v, rfl, rfl, h2⟩
  refine ⟨⟨rfl, rfl⟩, ?_⟩
  simp (disch := first | omega | exact rfl) only [x153_794, x153_795, isF, isK, isH, mK, nl_i, nl_n, nl_o, nl_r, c1_i, c1_r, mPush, mRv, G0_1, true_and, and_true, and_self, implies_true, List.length_nil, List.length_cons, Nat.reduceAdd, Nat.reduceLeDiff, Nat.zero_le, beq_self_eq_true, Nat.reduceBEq, decide_true, Bool.and_self, reduceCtorEq, ne_eq, not_true_eq_false, not_false_eq_true, false_implies, true_implies, Nat.reduceLT, Nat.reduceEqDiff, or_true, true_or, or_false, false_or, or_self, Int.reduceEq, Int.reduceNe, Int.reduceLT, Int.reduceLE, Int.reduceAdd, Int.reduceSub, Int.reduceMul, Int.reduceNeg, Int.reduceToNat, if_true, if_false, Classical.not_not, Int.cast_ofNat_Int, kd176, kd177, kd178, kd179, kd180, kd181, kd182, kd183, kd184, kd185, kd186, kd187, kd188, kd189, kd190, kd191, kd192, kd193, kd194, rf176_1, rf176_2, rf176_4, rf176_5, rf176_6, rf176_8, rf176_9, rf176_10, rf176_11, rf176_12, rf176_13, rf176_14, rf176_16, rf176_17, rf176_18, rf176_19, rf176_20, rf176_23, kL, kI, kI5, mWr_of, a1, a2, a3, a4, b1, b2, b3, b4]
  refine Wp_mono h2 ?_
  rintro r2 g2 μ2 ⟨rfl, rfl, hI2⟩
  refine ⟨⟨rfl, rfl⟩, ?_⟩
  simp (disch := first | omega | exact rfl) only [x153_798, isF, isK, isH, mK, nl_i, nl_n, nl_o, nl_r, c1_i, c1_r, mPush, mRv, G0_1, true_and, and_true, and_self, implies_true, List.length_nil, List.length_cons, Nat.reduceAdd, Nat.reduceLeDiff, Nat.zero_le, beq_self_eq_true, Nat.reduceBEq, decide_true, Bool.and_self, reduceCtorEq, ne_eq, not_true_eq_false, not_false_eq_true, false_implies, true_implies, Nat.reduceLT, Nat.reduceEqDiff, or_true, true_or, or_false, false_or, or_self, Int.reduceEq, Int.reduceNe, Int.reduceLT, Int.reduceLE, Int.reduceAdd, Int.reduceSub, Int.reduceMul, Int.reduceNeg, Int.reduceToNat, if_true, if_false, Classical.not_not, Int.cast_ofNat_Int]
  exact next μ2 hI2
theorem lw_21 (hI : INV μ) {i : Nat} (hi : i + 5 ≤ E.1) (hE : E.1 ≤ 2560) (next : ∀ μ' : MU, INV μ' → Wp E 153 849 [some (mK 5), some (mR 0), some (mR 176), some (.inl i)] [] G0 μ' Q) :
    Wp E 153 32 [some (mK 5), some (mR 0), some (mR 176), some (.inl i)] [.inl 21] G0 μ Q := by
  have a1 : (0 : Int) ≤ (i : Int) + 1 := by omega
  have a2 : (0 : Int) ≤ (i : Int) + 2 := by omega
  have a3 : (0 : Int) ≤ (i : Int) + 3 := by omega
  have a4 : (0 : Int) ≤ (i : Int) + 4 := by omega
  have b1 : (i : Int) + 1 < (E.1 : Int) := by omega
  have b2 : (i : Int) + 2 < (E.1 : Int) := by omega
  have b3 : (i : Int) + 3 < (E.1 : Int) := by omega
  have b4 : (i : Int) + 4 < (E.1 : Int) := by omega
  simp (disch := first | omega | exact rfl) only [x153_32_21, x153_803, x153_804, x153_805, x153_806, x153_807, x153_808K (c := 5) rfl, x153_809, isF, isK, isH, mK, nl_i, nl_n, nl_o, nl_r, c1_i, c1_r, mPush, mRv, G0_1, true_and, and_true, and_self, implies_true, List.length_nil, List.length_cons, Nat.reduceAdd, Nat.reduceLeDiff, Nat.zero_le, beq_self_eq_true, Nat.reduceBEq, decide_true, Bool.and_self, reduceCtorEq, ne_eq, not_true_eq_false, not_false_eq_true, false_implies, true_implies, Nat.reduceLT, Nat.reduceEqDiff, or_true, true_or, or_false, false_or, or_self, Int.reduceEq, Int.reduceNe, Int.reduceLT, Int.reduceLE, Int.reduceAdd, Int.reduceSub, Int.reduceMul, Int.reduceNeg, Int.reduceToNat, if_true, if_false, Classical.not_not, Int.cast_ofNat_Int, kd0, rf0_0, rf0_1, rf0_2, rf0_3, rf0_4, rf0_5, rf0_6, rf0_7, rf0_8, kL, kI, kI5, mWr_of, a1, a2, a3, a4, b1, b2, b3, b4]
  refine Wp_mono (op71 hI) ?_
  rintro r g' μ1 ⟨v, rfl, rfl, h2⟩
  refine ⟨⟨rfl, rfl⟩, ?_⟩
  simp (disch := first | omega | exact rfl) only [x153_812, x153_813, x153_814, x153_815, x153_816, x153_817K (c := 5) rfl, x153_818, isF, isK, isH, mK, nl_i, nl_n, nl_o, nl_r, c1_i, c1_r, mPush, mRv, G0_1, true_and, and_true, and_self, implies_true, List.length_nil, List.length_cons, Nat.reduceAdd, Nat.reduceLeDiff, Nat.zero_le, beq_self_eq_true, Nat.reduceBEq, decide_true, Bool.and_self, reduceCtorEq, ne_eq, not_true_eq_false, not_false_eq_true, false_implies, true_implies, Nat.reduceLT, Nat.reduceEqDiff, or_true, true_or, or_false, false_or, or_self, Int.reduceEq, Int.reduceNe, Int.reduceLT, Int.reduceLE, Int.reduceAdd, Int.reduceSub, Int.reduceMul, Int.reduceNeg, Int.reduceToNat, if_true, if_false, Classical.not_not, Int.cast_ofNat_Int, kd176, kd177, kd178, kd179, kd180, kd181, kd182, kd183, kd184, kd185, kd186, kd187, kd188, kd189, kd190, kd191, kd192, kd193, kd194, rf176_1, rf176_2, rf176_4, rf176_5, rf176_6, rf176_8, rf176_9, rf176_10, rf176_11, rf176_12, rf176_13, rf176_14, rf176_16, rf176_17, rf176_18, rf176_19, rf176_20, rf176_23, kL, kI, kI5, mWr_of, a1, a2, a3, a4, b1, b2, b3, b4]
  refine Wp_mono h2 ?_
  rintro r2 g2 μ2 ⟨rfl, rfl, hI2⟩
  refine ⟨⟨rfl, rfl⟩, ?_⟩
  simp (disch := first | omega | exact rfl) only [x153_821, isF, isK, isH, mK, nl_i, nl_n, nl_o, nl_r, c1_i, c1_r, mPush, mRv, G0_1, true_and, and_true, and_self, implies_true, List.length_nil, List.length_cons, Nat.reduceAdd, Nat.reduceLeDiff, Nat.zero_le, beq_self_eq_true, Nat.reduceBEq, decide_true, Bool.and_self, reduceCtorEq, ne_eq, not_true_eq_false, not_false_eq_true, false_implies, true_implies, Nat.reduceLT, Nat.reduceEqDiff, or_true, true_or, or_false, false_or, or_self, Int.reduceEq, Int.reduceNe, Int.reduceLT, Int.reduceLE, Int.reduceAdd, Int.reduceSub, Int.reduceMul, Int.reduceNeg, Int.reduceToNat, if_true, if_false, Classical.not_not, Int.cast_ofNat_Int]
  exact next μ2 hI2
theorem lw_22 (hI : INV μ) {i : Nat} (hi : i + 5 ≤ E.1) (hE : E.1 ≤ 2560) (next : ∀ μ' : MU, INV μ' → Wp E 153 849 [some (mK 5), some (mR 0), some (mR 176), some (.inl i)] [] G0 μ' Q) :
    Wp E 153 32 [some (mK 5), some (mR 0), some (mR 176), some (.inl i)] [.inl 22] G0 μ Q := by
  have a1 : (0 : Int) ≤ (i : Int) + 1 := by omega
  have a2 : (0 : Int) ≤ (i : Int) + 2 := by omega
  have a3 : (0 : Int) ≤ (i : Int) + 3 := by omega
  have a4 : (0 : Int) ≤ (i : Int) + 4 := by omega
  have b1 : (i : Int) + 1 < (E.1 : Int) := by omega
  have b2 : (i : Int) + 2 < (E.1 : Int) := by omega
  have b3 : (i : Int) + 3 < (E.1 : Int) := by omega
  have b4 : (i : Int) + 4 < (E.1 : Int) := by omega
  simp (disch := first | omega | exact rfl) only [x153_32_22, x153_826, x153_827, x153_828, x153_829, x153_830, x153_831K (c := 5) rfl, x153_832, isF, isK, isH, mK, nl_i, nl_n, nl_o, nl_r, c1_i, c1_r, mPush, mRv, G0_1, true_and, and_true, and_self, implies_true, List.length_nil, List.length_cons, Nat.reduceAdd, Nat.reduceLeDiff, Nat.zero_le, beq_self_eq_true, Nat.reduceBEq, decide_true, Bool.and_self, reduceCtorEq, ne_eq, not_true_eq_false, not_false_eq_true, false_implies, true_implies, Nat.reduceLT, Nat.reduceEqDiff, or_true, true_or, or_false, false_or, or_self, Int.reduceEq, Int.reduceNe, Int.reduceLT, Int.reduceLE, Int.reduceAdd, Int.reduceSub, Int.reduceMul, Int.reduceNeg, Int.reduceToNat, if_true, if_false, Classical.not_not, Int.cast_ofNat_Int, kd0, rf0_0, rf0_1, rf0_2, rf0_3, rf0_4, rf0_5, rf0_6, rf0_7, rf0_8, kL, kI, kI5, mWr_of, a1, a2, a3, a4, b1, b2, b3, b4]
  refine Wp_mono (op72 hI) ?_
  rintro r g' μ1 ⟨v, rfl, rfl, h2⟩
  refine ⟨⟨rfl, rfl⟩, ?_⟩
  simp (disch := first | omega | exact rfl) only [x153_835, x153_836, x153_837, x153_838, x153_839, x153_840K (c := 5) rfl, x153_841, isF, isK, isH, mK, nl_i, nl_n, nl_o, nl_r, c1_i, c1_r, mPush, mRv, G0_1, true_and, and_true, and_self, implies_true, List.length_nil, List.length_cons, Nat.reduceAdd, Nat.reduceLeDiff, Nat.zero_le, beq_self_eq_true, Nat.reduceBEq, decide_true, Bool.and_self, reduceCtorEq, ne_eq, not_true_eq_false, not_false_eq_true, false_implies, true_implies, Nat.reduceLT, Nat.reduceEqDiff, or_true, true_or, or_false, false_or, or_self, Int.reduceEq, Int.reduceNe, Int.reduceLT, Int.reduceLE, Int.reduceAdd, Int.reduceSub, Int.reduceMul, Int.reduceNeg, Int.reduceToNat, if_true, if_false, Classical.not_not, Int.cast_ofNat_Int, kd176, kd177, kd178, kd179, kd180, kd181, kd182, kd183, kd184, kd185, kd186, kd187, kd188, kd189, kd190, kd191, kd192, kd193, kd194, rf176_1, rf176_2, rf176_4, rf176_5, rf176_6, rf176_8, rf176_9, rf176_10, rf176_11, rf176_12, rf176_13, rf176_14, rf176_16, rf176_17, rf176_18, rf176_19, rf176_20, rf176_23, kL, kI, kI5, mWr_of, a1, a2, a3, a4, b1, b2, b3, b4]
  refine Wp_mono h2 ?_
  rintro r2 g2 μ2 ⟨rfl, rfl, hI2⟩
  refine ⟨⟨rfl, rfl⟩, ?_⟩
  simp (disch := first | omega | exact rfl) only [x153_844, isF, isK, isH, mK, nl_i, nl_n, nl_o, nl_r, c1_i, c1_r, mPush, mRv, G0_1, true_and, and_true, and_self, implies_true, List.length_nil, List.length_cons, Nat.reduceAdd, Nat.reduceLeDiff, Nat.zero_le, beq_self_eq_true, Nat.reduceBEq, decide_true, Bool.and_self, reduceCtorEq, ne_eq, not_true_eq_false, not_false_eq_true, false_implies, true_implies, Nat.reduceLT, Nat.reduceEqDiff, or_true, true_or, or_false, false_or, or_self, Int.reduceEq, Int.reduceNe, Int.reduceLT, Int.reduceLE, Int.reduceAdd, Int.reduceSub, Int.reduceMul, Int.reduceNeg, Int.reduceToNat, if_true, if_false, Classical.not_not, Int.cast_ofNat_Int]
  exact next μ2 hI2
theorem zlaw (hE : E.1 ≤ 2560) (hQ : ∀ μ : MU, Q (some (.inl 1)) G0 μ) : ∀ (n i : Nat), E.1 < i + n → i ≤ 2570 → ∀ μ : MU, INV μ → Wp E 153 18 [some (mK 5), some (mR 0), some (mR 176), some (.inl i)] [] G0 μ Q := by
  intro n
  induction n with
  | zero =>
    intro i hi hi2 μ hI
    have e1 : (E.1 : Int) - 5 < i := by omega
    have e2 : ¬ (i : Int) ≤ (E.1 : Int) - 5 := by omega
    simp (disch := first | omega | exact rfl) only [x153_18, x153_19, x153_20K, x153_21, x153_22, x153_23, x153_855, x153_856, isF, isK, isH, mK, nl_i, nl_n, nl_o, nl_r, c1_i, c1_r, mPush, mRv, G0_1, true_and, and_true, and_self, implies_true, List.length_nil, List.length_cons, Nat.reduceAdd, Nat.reduceLeDiff, Nat.zero_le, beq_self_eq_true, Nat.reduceBEq, decide_true, Bool.and_self, reduceCtorEq, ne_eq, not_true_eq_false, not_false_eq_true, false_implies, true_implies, Nat.reduceLT, Nat.reduceEqDiff, or_true, true_or, or_false, false_or, or_self, Int.reduceEq, Int.reduceNe, Int.reduceLT, Int.reduceLE, Int.reduceAdd, Int.reduceSub, Int.reduceMul, Int.reduceNeg, Int.reduceToNat, if_true, if_false, Classical.not_not, Int.cast_ofNat_Int, kL, kI5, mWr_of, e1, e2]
    exact hQ μ
  | succ n ih =>
    intro i hi hi2 μ hI
    by_cases q : E.1 < i + 5
    · have e1 : (E.1 : Int) - 5 < i := by omega
      have e2 : ¬ (i : Int) ≤ (E.1 : Int) - 5 := by omega
      simp (disch := first | omega | exact rfl) only [x153_18, x153_19, x153_20K, x153_21, x153_22, x153_23, x153_855, x153_856, isF, isK, isH, mK, nl_i, nl_n, nl_o, nl_r, c1_i, c1_r, mPush, mRv, G0_1, true_and, and_true, and_self, implies_true, List.length_nil, List.length_cons, Nat.reduceAdd, Nat.reduceLeDiff, Nat.zero_le, beq_self_eq_true, Nat.reduceBEq, decide_true, Bool.and_self, reduceCtorEq, ne_eq, not_true_eq_false, not_false_eq_true, false_implies, true_implies, Nat.reduceLT, Nat.reduceEqDiff, or_true, true_or, or_false, false_or, or_self, Int.reduceEq, Int.reduceNe, Int.reduceLT, Int.reduceLE, Int.reduceAdd, Int.reduceSub, Int.reduceMul, Int.reduceNeg, Int.reduceToNat, if_true, if_false, Classical.not_not, Int.cast_ofNat_Int, kL, kI5, mWr_of, e1, e2]
      exact hQ μ
    · have e1 : ¬ (E.1 : Int) - 5 < i := by omega
      have e2 : (i : Int) ≤ (E.1 : Int) - 5 := by omega
      have e3 : (0 : Int) ≤ i := by omega
      have e4 : (i : Int) < (E.1 : Int) := by omega
      have e5 : (i : Int) + 5 = ((i + 5 : Nat) : Int) := by omega
      have next : ∀ μ' : MU, INV μ' → Wp E 153 849 [some (mK 5), some (mR 0), some (mR 176), some (.inl i)] [] G0 μ' Q := by
        intro μ' hI'
        simp (disch := first | omega | exact rfl) only [x153_849, isF, isK, isH, mK, nl_i, nl_n, nl_o, nl_r, c1_i, c1_r, mPush, mRv, G0_1, true_and, and_true, and_self, implies_true, List.length_nil, List.length_cons, Nat.reduceAdd, Nat.reduceLeDiff, Nat.zero_le, beq_self_eq_true, Nat.reduceBEq, decide_true, Bool.and_self, reduceCtorEq, ne_eq, not_true_eq_false, not_false_eq_true, false_implies, true_implies, Nat.reduceLT, Nat.reduceEqDiff, or_true, true_or, or_false, false_or, or_self, Int.reduceEq, Int.reduceNe, Int.reduceLT, Int.reduceLE, Int.reduceAdd, Int.reduceSub, Int.reduceMul, Int.reduceNeg, Int.reduceToNat, if_true, if_false, Classical.not_not, Int.cast_ofNat_Int, mWr_of]
        rw [x153_852, e5]
        exact ih (i + 5) (by omega) (by omega) μ' hI'
      simp (disch := first | omega | exact rfl) only [x153_18, x153_19, x153_20K, x153_21, x153_22, x153_23, x153_26, x153_27, x153_28K (c := 5) rfl, x153_29, x153_31, isF, isK, isH, mK, nl_i, nl_n, nl_o, nl_r, c1_i, c1_r, mPush, mRv, G0_1, true_and, and_true, and_self, implies_true, List.length_nil, List.length_cons, Nat.reduceAdd, Nat.reduceLeDiff, Nat.zero_le, beq_self_eq_true, Nat.reduceBEq, decide_true, Bool.and_self, reduceCtorEq, ne_eq, not_true_eq_false, not_false_eq_true, false_implies, true_implies, Nat.reduceLT, Nat.reduceEqDiff, or_true, true_or, or_false, false_or, or_self, Int.reduceEq, Int.reduceNe, Int.reduceLT, Int.reduceLE, Int.reduceAdd, Int.reduceSub, Int.reduceMul, Int.reduceNeg, Int.reduceToNat, if_true, if_false, Classical.not_not, Int.cast_ofNat_Int, kL, kI, kI5, mWr_of, e1, e2, e3, e4]
      generalize mIand (E.2 (i : Int).toNat) 31 = sw
      by_cases c0 : sw = 0
      · rw [c0]; exact lw_0 hI (by omega) hE next
      by_cases c1 : sw = 1
      · rw [c1]; exact lw_1 hI (by omega) hE next
      by_cases c2 : sw = 2
      · rw [c2]; exact lw_2 hI (by omega) hE next
      by_cases c3 : sw = 3
      · rw [c3]; exact lw_3 hI (by omega) hE next
      by_cases c4 : sw = 4
      · rw [c4]; exact lw_4 hI (by omega) hE next
      by_cases c5 : sw = 5
      · rw [c5]; exact lw_5 hI (by omega) hE next
      by_cases c6 : sw = 6
      · rw [c6]; exact lw_6 hI (by omega) hE next
      by_cases c7 : sw = 7
      · rw [c7]; exact lw_7 hI (by omega) hE next
      by_cases c8 : sw = 8
      · rw [c8]; exact lw_8 hI (by omega) hE next
      by_cases c9 : sw = 9
      · rw [c9]; exact lw_9 hI (by omega) hE next
      by_cases c10 : sw = 10
      · rw [c10]; exact lw_10 hI (by omega) hE next
      by_cases c11 : sw = 11
      · rw [c11]; exact lw_11 hI (by omega) hE next
      by_cases c12 : sw = 12
      · rw [c12]; exact lw_12 hI (by omega) hE next
      by_cases c13 : sw = 13
      · rw [c13]; exact lw_13 hI (by omega) hE next
      by_cases c14 : sw = 14
      · rw [c14]; exact lw_14 hI (by omega) hE next
      by_cases c15 : sw = 15
      · rw [c15]; exact lw_15 hI (by omega) hE next
      by_cases c16 : sw = 16
      · rw [c16]; exact lw_16 hI (by omega) hE next
      by_cases c17 : sw = 17
      · rw [c17]; exact lw_17 hI (by omega) hE next
      by_cases c18 : sw = 18
      · rw [c18]; exact lw_18 hI (by omega) hE next
      by_cases c19 : sw = 19
      · rw [c19]; exact lw_19 hI (by omega) hE next
      by_cases c20 : sw = 20
      · rw [c20]; exact lw_20 hI (by omega) hE next
      by_cases c21 : sw = 21
      · rw [c21]; exact lw_21 hI (by omega) hE next
      by_cases c22 : sw = 22
      · rw [c22]; exact lw_22 hI (by omega) hE next
      rw [x153_32_d (by omega)]
      exact next μ hI
end LAW
