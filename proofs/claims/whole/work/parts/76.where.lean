section WHE2
variable {E : ME} {Q : Option MV → MG → MU → Prop} {S : Row} {μ : MU}
theorem zq117 (hS : RS μ S) (hw : wfR S) {N f r : Nat} {t : Int} (hN : S 6 = N) (hN20 : N ≤ 20) (hf : f < 5) (hf2 : (f : Int) < S 5) (hr : (r : Int) < S (23 + 9 * f)) (hM : MZ μ S N)
    (hQ : Q (some (.inl (wM S (ord (sT S) N) f r t N 0))) G0 μ) :
    ∀ (m k : Nat), k + m = N → wM S (ord (sT S) N) f r t m k = wM S (ord (sT S) N) f r t N 0 → ∀ o7 o8 : Option MV, mNl (some o7) = true → mNl (some o8) = true →
    Wp E 117 14 [some (.inr (.inr (.inl 176))), some (.inl f), some (.inl r), some (.inl t), some (.inl (fSt S (ord (sT S) N) f k 0 r)), some (.inl (fSt S (ord (sT S) N) f k 1 r)), some (.inl k), o7, o8] [] G0 μ Q := by
  have hO := isO_ord (T := sT S) N
  obtain ⟨_, ho, _, hz⟩ := hM
  generalize ord (sT S) N = o at *
  have hrn := (hw.2.2.1 f hf hf2).1
  have r1 : (0 : Int) ≤ r := by omega
  have r2 : (r : Int) < 6 := by omega
  have e6 : μ 177 6 = N := by rw [hS.1 6 (by omega)]; exact hN
  intro m
  induction m with
  | zero =>
    intro k hk hm o7 o8 n7 n8
    have ek : k = N := by omega
    subst ek
    simp (disch := first | omega | exact rfl) only [x117_14, x117_16, x117_17, x117_20, x117_22, x117_23, x117_146, x117_148, isF, isK, isH, mK, nl_i, nl_n, nl_o, nl_r, c1_i, c1_r, mPush, mRv, G0_1, true_and, and_true, and_self, implies_true, List.length_nil, List.length_cons, Nat.reduceAdd, Nat.reduceLeDiff, Nat.zero_le, beq_self_eq_true, Nat.reduceBEq, decide_true, Bool.and_self, reduceCtorEq, ne_eq, not_true_eq_false, not_false_eq_true, false_implies, true_implies, Nat.reduceLT, Nat.reduceEqDiff, or_true, true_or, or_false, false_or, or_self, Int.reduceEq, Int.reduceNe, Int.reduceLT, Int.reduceLE, Int.reduceAdd, Int.reduceSub, Int.reduceMul, Int.reduceNeg, Int.reduceToNat, if_true, if_false, Classical.not_not, Int.cast_ofNat_Int, kd176, kd177, kd178, kd179, kd180, kd181, kd182, kd183, kd184, kd185, kd186, kd187, kd188, kd189, kd190, kd191, kd192, kd193, kd194, rf176_1, rf176_2, rf176_4, rf176_5, rf176_6, rf176_8, rf176_9, rf176_10, rf176_11, rf176_12, rf176_13, rf176_14, rf176_16, rf176_17, rf176_18, rf176_19, rf176_20, rf176_23, e6, Int.le_refl, Int.lt_irrefl]
    simp only [wM] at hm
    rw [hm]
    exact hQ
  | succ m ih =>
    intro k hk hm o7 o8 n7 n8
    have ek : ¬ (N : Int) ≤ k := by omega
    have ek2 : (k : Int) < N := by omega
    have ek3 : (0 : Int) ≤ k := by omega
    have ek4 : (k : Int) < 21 := by omega
    have eI : (k : Int) + 1 = ((k + 1 : Nat) : Int) := by omega
    have eo := ho k (by omega)
    have hok := (hO.1 k (by omega)).1
    have eo2 : (0 : Int) ≤ o k := by omega
    have eo3 : (o k : Int) < 21 := by omega
    have e8 : μ 177 (68 + 4 * o k + 0) = S (68 + 4 * o k) := hS.1 _ (by omega)
    have e9 : μ 177 (68 + 4 * o k + 1) = S (69 + 4 * o k) := by rw [hS.1 _ (by omega)]; congr 1; omega
    simp only [wM] at hm
    have hq := fSt_q hw (o := o) (N := N) (by omega) (fun k hk => (hO.1 k hk).1) hf hf2 k (by omega)
    by_cases p : S (68 + 4 * o k) = f
    · rw [if_pos p] at hm
      rw [p] at e8
      have hsk := hw.2.2.2 (o k) (by omega) (by omega)
      have e2 : fSt S o f (k + 1) = sGo S f (o k) (fSt S o f k) := if_pos p
      have eP : oP S o k = fSt S o f (k + 1) := by unfold oP; rw [p, Int.toNat_natCast]
      have hz4 := (hz k (by omega)).2.2.2 r (by rw [p, Int.toNat_natCast]; exact hr)
      rw [eP] at hz4
      obtain ⟨z3, z4⟩ := hz4
      have hrr := (rRun_r hw (f := f) (r := r) hsk.2.1 hsk.2.2.1 hq.1 (S (23 + 9 * f)).toNat (by omega)).2 (by omega)
      have hd : rRun S f (S (69 + 4 * o k)) (S (70 + 4 * o k)) (S (23 + 9 * f)).toNat (sBeg (S (70 + 4 * o k)) (fSt S o f k)) = fSt S o f (k + 1) := e2.symm
      rw [hd] at hrr
      have ej : 6 * (o k : Int) + (r : Int) = ((6 * o k + r : Nat) : Int) := by omega
      have ej2 : ((6 * o k + r : Nat) : Int) < 126 := by omega
      have ej3 : (0 : Int) ≤ ((6 * o k + r : Nat) : Int) := by omega
      rcases hrr with ⟨w1, w2, w3⟩ | ⟨w1, w2, w3⟩
      · rw [w1] at z3
        simp (disch := first | omega | exact rfl) only [x117_14, x117_16, x117_17, x117_20, x117_22, x117_23, x117_26, x117_27, x117_30, x117_32, x117_33, x117_35, x117_36, x117_38, x117_39, x117_42, x117_43, x117_46, x117_47, x117_50, x117_52, x117_54, x117_55, x117_56, x117_57, x117_58, x117_60, x117_140, isF, isK, isH, mK, nl_i, nl_n, nl_o, nl_r, c1_i, c1_r, mPush, mRv, G0_1, true_and, and_true, and_self, implies_true, List.length_nil, List.length_cons, Nat.reduceAdd, Nat.reduceLeDiff, Nat.zero_le, beq_self_eq_true, Nat.reduceBEq, decide_true, Bool.and_self, reduceCtorEq, ne_eq, not_true_eq_false, not_false_eq_true, false_implies, true_implies, Nat.reduceLT, Nat.reduceEqDiff, or_true, true_or, or_false, false_or, or_self, Int.reduceEq, Int.reduceNe, Int.reduceLT, Int.reduceLE, Int.reduceAdd, Int.reduceSub, Int.reduceMul, Int.reduceNeg, Int.reduceToNat, if_true, if_false, Classical.not_not, Int.cast_ofNat_Int, kd176, kd177, kd178, kd179, kd180, kd181, kd182, kd183, kd184, kd185, kd186, kd187, kd188, kd189, kd190, kd191, kd192, kd193, kd194, rf176_1, rf176_2, rf176_4, rf176_5, rf176_6, rf176_8, rf176_9, rf176_10, rf176_11, rf176_12, rf176_13, rf176_14, rf176_16, rf176_17, rf176_18, rf176_19, rf176_20, rf176_23, mWr_of, Int.toNat_natCast, ct79, e6, ek, ek2, ek3, ek4, eo, eo2, eo3, n7, n8, e8, ej, ej2, ej3, z3]
        rw [x117_143, eI, ← w2, ← w3]
        refine ih (k + 1) (by omega) ?_ _ _ rfl n8
        by_cases q : t < fSt S o f k 1 r
        · rw [if_pos q] at hm
          rw [wM_free m (k + 1) (by rw [w3]; exact q), w2]; exact hm
        · rw [if_neg q, if_neg (fun y => y.1 w2)] at hm; exact hm
      · have z5 : ¬ μ 186 (6 * o k + r) = -6 := by rw [z3]; exact w1
        have z6 := z4 w1
        rw [← w3] at z6
        have hH0 : isH (fSt S o f k 0 r) := (hq.1 r (by omega)).1
        have hH1 : isH (S (69 + 4 * o k)) := hsk.2.1
        have gb := rGap_b hw (h := S (69 + 4 * o k)) hH1 (hq.1 r (by omega)).1
        have fb := (hq.1 r (by omega)).2.1
        by_cases q : t < fSt S o f k 1 r
        · have q2 : ¬ fSt S o f k 1 r ≤ t := by omega
          rw [if_pos q] at hm
          simp (disch := first | omega | exact rfl) only [x117_14, x117_16, x117_17, x117_20, x117_22, x117_23, x117_26, x117_27, x117_30, x117_32, x117_33, x117_35, x117_36, x117_38, x117_39, x117_42, x117_43, x117_46, x117_47, x117_50, x117_52, x117_54, x117_55, x117_56, x117_57, x117_58, x117_60, x117_63, x117_64, x117_66, x117_67, x117_70, x117_72, x117_73, x117_75, x117_101, x117_103, isF, isK, isH, mK, nl_i, nl_n, nl_o, nl_r, c1_i, c1_r, mPush, mRv, G0_1, true_and, and_true, and_self, implies_true, List.length_nil, List.length_cons, Nat.reduceAdd, Nat.reduceLeDiff, Nat.zero_le, beq_self_eq_true, Nat.reduceBEq, decide_true, Bool.and_self, reduceCtorEq, ne_eq, not_true_eq_false, not_false_eq_true, false_implies, true_implies, Nat.reduceLT, Nat.reduceEqDiff, or_true, true_or, or_false, false_or, or_self, Int.reduceEq, Int.reduceNe, Int.reduceLT, Int.reduceLE, Int.reduceAdd, Int.reduceSub, Int.reduceMul, Int.reduceNeg, Int.reduceToNat, if_true, if_false, Classical.not_not, Int.cast_ofNat_Int, kd176, kd177, kd178, kd179, kd180, kd181, kd182, kd183, kd184, kd185, kd186, kd187, kd188, kd189, kd190, kd191, kd192, kd193, kd194, rf176_1, rf176_2, rf176_4, rf176_5, rf176_6, rf176_8, rf176_9, rf176_10, rf176_11, rf176_12, rf176_13, rf176_14, rf176_16, rf176_17, rf176_18, rf176_19, rf176_20, rf176_23, mWr_of, Int.toNat_natCast, ct79, e6, ek, ek2, ek3, ek4, eo, eo2, eo3, n7, n8, e8, e9, ej, ej2, ej3, z5, q, q2]
          rw [hm]
          exact hQ
        · have q2 : fSt S o f k 1 r ≤ t := by omega
          rw [if_neg q, w2] at hm
          by_cases y : S (69 + 4 * o k) = fSt S o f k 0 r
          · rw [if_neg (fun v => v.1 y)] at hm
            by_cases x : t < fSt S o f (k + 1) 1 r
            · have x2 : ¬ fSt S o f (k + 1) 1 r ≤ t := by omega
              simp (disch := first | omega | exact rfl) only [x117_14, x117_16, x117_17, x117_20, x117_22, x117_23, x117_26, x117_27, x117_30, x117_32, x117_33, x117_35, x117_36, x117_38, x117_39, x117_42, x117_43, x117_46, x117_47, x117_50, x117_52, x117_54, x117_55, x117_56, x117_57, x117_58, x117_60, x117_63, x117_64, x117_66, x117_67, x117_70, x117_72, x117_73, x117_75, x117_78, x117_80, x117_82, x117_85, x117_86, x117_87, x117_90, x117_92, x117_94, x117_95, x117_96, x117_97, x117_98, x117_101, x117_103, isF, isK, isH, mK, nl_i, nl_n, nl_o, nl_r, c1_i, c1_r, mPush, mRv, G0_1, true_and, and_true, and_self, implies_true, List.length_nil, List.length_cons, Nat.reduceAdd, Nat.reduceLeDiff, Nat.zero_le, beq_self_eq_true, Nat.reduceBEq, decide_true, Bool.and_self, reduceCtorEq, ne_eq, not_true_eq_false, not_false_eq_true, false_implies, true_implies, Nat.reduceLT, Nat.reduceEqDiff, or_true, true_or, or_false, false_or, or_self, Int.reduceEq, Int.reduceNe, Int.reduceLT, Int.reduceLE, Int.reduceAdd, Int.reduceSub, Int.reduceMul, Int.reduceNeg, Int.reduceToNat, if_true, if_false, Classical.not_not, Int.cast_ofNat_Int, kd176, kd177, kd178, kd179, kd180, kd181, kd182, kd183, kd184, kd185, kd186, kd187, kd188, kd189, kd190, kd191, kd192, kd193, kd194, rf176_1, rf176_2, rf176_4, rf176_5, rf176_6, rf176_8, rf176_9, rf176_10, rf176_11, rf176_12, rf176_13, rf176_14, rf176_16, rf176_17, rf176_18, rf176_19, rf176_20, rf176_23, mWr_of, Int.toNat_natCast, ct79, e6, ek, ek2, ek3, ek4, eo, eo2, eo3, n7, n8, e8, e9, ej, ej2, ej3, z5, z6, q, q2, y, x, x2]
              rw [wM_free m (k + 1) x, w2] at hm
              rw [← y, hm]
              exact hQ
            · have x2 : fSt S o f (k + 1) 1 r ≤ t := by omega
              have g0 : rGap S (fSt S o f k 0 r) (fSt S o f k 0 r) = 0 := if_pos rfl
              simp (disch := first | omega | exact rfl) only [x117_14, x117_16, x117_17, x117_20, x117_22, x117_23, x117_26, x117_27, x117_30, x117_32, x117_33, x117_35, x117_36, x117_38, x117_39, x117_42, x117_43, x117_46, x117_47, x117_50, x117_52, x117_54, x117_55, x117_56, x117_57, x117_58, x117_60, x117_63, x117_64, x117_66, x117_67, x117_70, x117_72, x117_73, x117_75, x117_78, x117_80, x117_82, x117_85, x117_86, x117_87, x117_90, x117_92, x117_94, x117_95, x117_96, x117_97, x117_98, x117_104, x117_105, x117_107, x117_108, x117_110, x117_112, x117_115, x117_116, x117_122, x117_124, x117_126, x117_127, x117_130, x117_132, x117_134, x117_135, x117_136, x117_137, x117_138, x117_140, isF, isK, isH, mK, nl_i, nl_n, nl_o, nl_r, c1_i, c1_r, mPush, mRv, G0_1, true_and, and_true, and_self, implies_true, List.length_nil, List.length_cons, Nat.reduceAdd, Nat.reduceLeDiff, Nat.zero_le, beq_self_eq_true, Nat.reduceBEq, decide_true, Bool.and_self, reduceCtorEq, ne_eq, not_true_eq_false, not_false_eq_true, false_implies, true_implies, Nat.reduceLT, Nat.reduceEqDiff, or_true, true_or, or_false, false_or, or_self, Int.reduceEq, Int.reduceNe, Int.reduceLT, Int.reduceLE, Int.reduceAdd, Int.reduceSub, Int.reduceMul, Int.reduceNeg, Int.reduceToNat, if_true, if_false, Classical.not_not, Int.cast_ofNat_Int, kd176, kd177, kd178, kd179, kd180, kd181, kd182, kd183, kd184, kd185, kd186, kd187, kd188, kd189, kd190, kd191, kd192, kd193, kd194, rf176_1, rf176_2, rf176_4, rf176_5, rf176_6, rf176_8, rf176_9, rf176_10, rf176_11, rf176_12, rf176_13, rf176_14, rf176_16, rf176_17, rf176_18, rf176_19, rf176_20, rf176_23, mWr_of, Int.toNat_natCast, ct79, e6, ek, ek2, ek3, ek4, eo, eo2, eo3, n7, n8, e8, e9, ej, ej2, ej3, z5, z6, q, q2, y, x, x2, ct85 hS hH0 hH0, g0, Int.add_zero]
              rw [x117_143, eI]
              have ih2 := ih (k + 1) (by omega) hm (some (.inl (o k : Int))) (some (.inl (fSt S o f k 0 r))) rfl rfl
              rw [w2, y] at ih2
              exact ih2
          · by_cases x : t < fSt S o f k 1 r + rGap S (S (69 + 4 * o k)) (fSt S o f k 0 r)
            · have x2 : ¬ fSt S o f k 1 r + rGap S (S (69 + 4 * o k)) (fSt S o f k 0 r) ≤ t := by omega
              rw [if_pos ⟨y, x⟩] at hm
              simp (disch := first | omega | exact rfl) only [x117_14, x117_16, x117_17, x117_20, x117_22, x117_23, x117_26, x117_27, x117_30, x117_32, x117_33, x117_35, x117_36, x117_38, x117_39, x117_42, x117_43, x117_46, x117_47, x117_50, x117_52, x117_54, x117_55, x117_56, x117_57, x117_58, x117_60, x117_63, x117_64, x117_66, x117_67, x117_70, x117_72, x117_73, x117_75, x117_78, x117_80, x117_82, x117_104, x117_105, x117_107, x117_108, x117_110, x117_112, x117_115, x117_116, x117_119, x117_121, isF, isK, isH, mK, nl_i, nl_n, nl_o, nl_r, c1_i, c1_r, mPush, mRv, G0_1, true_and, and_true, and_self, implies_true, List.length_nil, List.length_cons, Nat.reduceAdd, Nat.reduceLeDiff, Nat.zero_le, beq_self_eq_true, Nat.reduceBEq, decide_true, Bool.and_self, reduceCtorEq, ne_eq, not_true_eq_false, not_false_eq_true, false_implies, true_implies, Nat.reduceLT, Nat.reduceEqDiff, or_true, true_or, or_false, false_or, or_self, Int.reduceEq, Int.reduceNe, Int.reduceLT, Int.reduceLE, Int.reduceAdd, Int.reduceSub, Int.reduceMul, Int.reduceNeg, Int.reduceToNat, if_true, if_false, Classical.not_not, Int.cast_ofNat_Int, kd176, kd177, kd178, kd179, kd180, kd181, kd182, kd183, kd184, kd185, kd186, kd187, kd188, kd189, kd190, kd191, kd192, kd193, kd194, rf176_1, rf176_2, rf176_4, rf176_5, rf176_6, rf176_8, rf176_9, rf176_10, rf176_11, rf176_12, rf176_13, rf176_14, rf176_16, rf176_17, rf176_18, rf176_19, rf176_20, rf176_23, mWr_of, Int.toNat_natCast, ct79, e6, ek, ek2, ek3, ek4, eo, eo2, eo3, n7, n8, e8, e9, ej, ej2, ej3, z5, z6, q, q2, y, x, x2, ct85 hS hH0 hH1]
              rw [hm]
              exact hQ
            · have x2 : fSt S o f k 1 r + rGap S (S (69 + 4 * o k)) (fSt S o f k 0 r) ≤ t := by omega
              rw [if_neg (fun v => x v.2)] at hm
              simp (disch := first | omega | exact rfl) only [x117_14, x117_16, x117_17, x117_20, x117_22, x117_23, x117_26, x117_27, x117_30, x117_32, x117_33, x117_35, x117_36, x117_38, x117_39, x117_42, x117_43, x117_46, x117_47, x117_50, x117_52, x117_54, x117_55, x117_56, x117_57, x117_58, x117_60, x117_63, x117_64, x117_66, x117_67, x117_70, x117_72, x117_73, x117_75, x117_78, x117_80, x117_82, x117_104, x117_105, x117_107, x117_108, x117_110, x117_112, x117_115, x117_116, x117_122, x117_124, x117_126, x117_127, x117_130, x117_132, x117_134, x117_135, x117_136, x117_137, x117_138, x117_140, isF, isK, isH, mK, nl_i, nl_n, nl_o, nl_r, c1_i, c1_r, mPush, mRv, G0_1, true_and, and_true, and_self, implies_true, List.length_nil, List.length_cons, Nat.reduceAdd, Nat.reduceLeDiff, Nat.zero_le, beq_self_eq_true, Nat.reduceBEq, decide_true, Bool.and_self, reduceCtorEq, ne_eq, not_true_eq_false, not_false_eq_true, false_implies, true_implies, Nat.reduceLT, Nat.reduceEqDiff, or_true, true_or, or_false, false_or, or_self, Int.reduceEq, Int.reduceNe, Int.reduceLT, Int.reduceLE, Int.reduceAdd, Int.reduceSub, Int.reduceMul, Int.reduceNeg, Int.reduceToNat, if_true, if_false, Classical.not_not, Int.cast_ofNat_Int, kd176, kd177, kd178, kd179, kd180, kd181, kd182, kd183, kd184, kd185, kd186, kd187, kd188, kd189, kd190, kd191, kd192, kd193, kd194, rf176_1, rf176_2, rf176_4, rf176_5, rf176_6, rf176_8, rf176_9, rf176_10, rf176_11, rf176_12, rf176_13, rf176_14, rf176_16, rf176_17, rf176_18, rf176_19, rf176_20, rf176_23, mWr_of, Int.toNat_natCast, ct79, e6, ek, ek2, ek3, ek4, eo, eo2, eo3, n7, n8, e8, e9, ej, ej2, ej3, z5, z6, q, q2, y, x, x2, ct85 hS hH0 hH1]
              rw [x117_143, eI]
              have ih2 := ih (k + 1) (by omega) hm (some (.inl (o k : Int))) (some (.inl (S (69 + 4 * o k)))) rfl rfl
              rw [w2] at ih2
              exact ih2
    · rw [if_neg p] at hm
      have e2 : fSt S o f (k + 1) = fSt S o f k := if_neg p
      simp (disch := first | omega | exact rfl) only [x117_14, x117_16, x117_17, x117_20, x117_22, x117_23, x117_26, x117_27, x117_30, x117_32, x117_33, x117_35, x117_36, x117_38, x117_39, x117_42, x117_43, x117_140, isF, isK, isH, mK, nl_i, nl_n, nl_o, nl_r, c1_i, c1_r, mPush, mRv, G0_1, true_and, and_true, and_self, implies_true, List.length_nil, List.length_cons, Nat.reduceAdd, Nat.reduceLeDiff, Nat.zero_le, beq_self_eq_true, Nat.reduceBEq, decide_true, Bool.and_self, reduceCtorEq, ne_eq, not_true_eq_false, not_false_eq_true, false_implies, true_implies, Nat.reduceLT, Nat.reduceEqDiff, or_true, true_or, or_false, false_or, or_self, Int.reduceEq, Int.reduceNe, Int.reduceLT, Int.reduceLE, Int.reduceAdd, Int.reduceSub, Int.reduceMul, Int.reduceNeg, Int.reduceToNat, if_true, if_false, Classical.not_not, Int.cast_ofNat_Int, kd176, kd177, kd178, kd179, kd180, kd181, kd182, kd183, kd184, kd185, kd186, kd187, kd188, kd189, kd190, kd191, kd192, kd193, kd194, rf176_1, rf176_2, rf176_4, rf176_5, rf176_6, rf176_8, rf176_9, rf176_10, rf176_11, rf176_12, rf176_13, rf176_14, rf176_16, rf176_17, rf176_18, rf176_19, rf176_20, rf176_23, mWr_of, Int.toNat_natCast, ct79, e6, ek, ek2, ek3, ek4, eo, eo2, eo3, n7, n8, e8, p]
      rw [x117_143, eI, ← e2]
      exact ih (k + 1) (by omega) hm _ _ rfl n8
theorem op51 (hI : INV μ) {a b d : Int} : OPS E 51 [some (.inl a), some (.inl b), some (.inl d)] 118 [some (.inl a), some (.inl b), some (.inl d)] μ := by
  obtain ⟨S, N, F, hS, hN, hN20, hw, hwf, hc, hF, hF5⟩ := inv_q hI
  unfold OPS
  have hINV : INV (mUp μ 176 0 0) := INV_fr hI ⟨fun x hx => mUp_ne (by omega), by rw [mUp_ne (by omega)], mUp_nj (by omega), mUp_nj (by omega)⟩
  have hwfu : wf ((mUp μ 176 0 0) 177) := by rw [e177u, hS]; exact hwf
  by_cases p : isR S a b
  · by_cases p2 : 0 ≤ d ∧ d ≤ 9999
    · simp (disch := first | omega | exact rfl) only [x51_0, x51_1, x51_4, x51_5, x51_6, x51_9, x51_14, x51_15, x51_16, x51_19, x51_22, x51_28, x51_29, x51_32, x51_33, x51_36, isF, isK, isH, mK, nl_i, nl_n, nl_o, nl_r, c1_i, c1_r, mPush, mRv, G0_1, true_and, and_true, and_self, implies_true, List.length_nil, List.length_cons, Nat.reduceAdd, Nat.reduceLeDiff, Nat.zero_le, beq_self_eq_true, Nat.reduceBEq, decide_true, Bool.and_self, reduceCtorEq, ne_eq, not_true_eq_false, not_false_eq_true, false_implies, true_implies, Nat.reduceLT, Nat.reduceEqDiff, or_true, true_or, or_false, false_or, or_self, Int.reduceEq, Int.reduceNe, Int.reduceLT, Int.reduceLE, Int.reduceAdd, Int.reduceSub, Int.reduceMul, Int.reduceNeg, Int.reduceToNat, if_true, if_false, Classical.not_not, Int.cast_ofNat_Int, kd0, rf0_0, rf0_1, rf0_2, rf0_3, rf0_4, rf0_5, rf0_6, rf0_7, rf0_8, kd1, kd12, ct3 gC1 hwf hc, if_pos p, ct74, if_pos p2]
      refine cq hI hS hN (fun μ1 k1 hI1 hS1 hc1 hC1 => ?_)
      obtain ⟨⟨p3, p4⟩, p5, p6⟩ := id p
      obtain ⟨f, hf⟩ := Int.eq_ofNat_of_zero_le p3
      obtain ⟨r, hr⟩ := Int.eq_ofNat_of_zero_le p5
      subst hf
      subst hr
      rw [Int.toNat_natCast] at p6
      have hb : (144 : Nat) ∈ gRs := by decide
      simp (disch := first | omega | exact rfl) only [x51_39, x51_40, x51_41, x51_42, x51_43, x56_0, x56_1, x56_4, x56_6, x56_8, x56_9, x56_12, x56_13, isF, isK, isH, mK, nl_i, nl_n, nl_o, nl_r, c1_i, c1_r, mPush, mRv, G0_1, true_and, and_true, and_self, implies_true, List.length_nil, List.length_cons, Nat.reduceAdd, Nat.reduceLeDiff, Nat.zero_le, beq_self_eq_true, Nat.reduceBEq, decide_true, Bool.and_self, reduceCtorEq, ne_eq, not_true_eq_false, not_false_eq_true, false_implies, true_implies, Nat.reduceLT, Nat.reduceEqDiff, or_true, true_or, or_false, false_or, or_self, Int.reduceEq, Int.reduceNe, Int.reduceLT, Int.reduceLE, Int.reduceAdd, Int.reduceSub, Int.reduceMul, Int.reduceNeg, Int.reduceToNat, if_true, if_false, Classical.not_not, Int.cast_ofNat_Int, kd0, rf0_0, rf0_1, rf0_2, rf0_3, rf0_4, rf0_5, rf0_6, rf0_7, rf0_8, kd144, kd1]
      refine ct35 gC1 hb hc1 (by omega) p4 (fun μ2 k2 k3 => ?_)
      simp (disch := first | omega | exact rfl) only [x56_16, x56_17, isF, isK, isH, mK, nl_i, nl_n, nl_o, nl_r, c1_i, c1_r, mPush, mRv, G0_1, true_and, and_true, and_self, implies_true, List.length_nil, List.length_cons, Nat.reduceAdd, Nat.reduceLeDiff, Nat.zero_le, beq_self_eq_true, Nat.reduceBEq, decide_true, Bool.and_self, reduceCtorEq, ne_eq, not_true_eq_false, not_false_eq_true, false_implies, true_implies, Nat.reduceLT, Nat.reduceEqDiff, or_true, true_or, or_false, false_or, or_self, Int.reduceEq, Int.reduceNe, Int.reduceLT, Int.reduceLE, Int.reduceAdd, Int.reduceSub, Int.reduceMul, Int.reduceNeg, Int.reduceToNat, if_true, if_false, Classical.not_not, Int.cast_ofNat_Int]
      refine zq56 (μ0 := μ2) (cRel_fr (fun x z1 z2 => k2 x (by omega)) hc1) hw hN hN20 (by omega) p4 p6 (fun k hk => by rw [k2 13 (by omega)]; exact hC1.1 k hk) (fun μ3 k4 => ?_) N 0 (by omega) rfl μ2 _ _ _ rfl rfl rfl (fun _ _ => rfl) k3
      simp (disch := first | omega | exact rfl) only [x51_46, isF, isK, isH, mK, nl_i, nl_n, nl_o, nl_r, c1_i, c1_r, mPush, mRv, G0_1, true_and, and_true, and_self, implies_true, List.length_nil, List.length_cons, Nat.reduceAdd, Nat.reduceLeDiff, Nat.zero_le, beq_self_eq_true, Nat.reduceBEq, decide_true, Bool.and_self, reduceCtorEq, ne_eq, not_true_eq_false, not_false_eq_true, false_implies, true_implies, Nat.reduceLT, Nat.reduceEqDiff, or_true, true_or, or_false, false_or, or_self, Int.reduceEq, Int.reduceNe, Int.reduceLT, Int.reduceLE, Int.reduceAdd, Int.reduceSub, Int.reduceMul, Int.reduceNeg, Int.reduceToNat, if_true, if_false, Classical.not_not, Int.cast_ofNat_Int]
      refine ⟨_, rfl, ?_⟩
      have hI3 : INV μ3 := INV_fr hI1 ⟨fun x hx => by rw [k4 x (by omega), k2 x (by omega)], by rw [k4 128 (by omega), k2 128 (by omega)], by rw [k4 176 (by omega), k2 176 (by omega)], by rw [k4 176 (by omega), k2 176 (by omega)]⟩
      have hS3 : μ3 177 = S := by rw [k4 177 (by omega), k2 177 (by omega)]; exact hS1
      have hwfu3 : wf ((mUp μ3 176 0 0) 177) := by rw [e177u, hS3]; exact hwf
      simp (disch := first | omega | exact rfl) only [x118_0, x118_1, x118_2, x118_5, x118_6, x118_7, x118_8, x118_11, x118_16, x118_17, x118_18, x118_21, x118_24, x118_30, x118_31, x118_32, isF, isK, isH, mK, nl_i, nl_n, nl_o, nl_r, c1_i, c1_r, mPush, mRv, G0_1, true_and, and_true, and_self, implies_true, List.length_nil, List.length_cons, Nat.reduceAdd, Nat.reduceLeDiff, Nat.zero_le, beq_self_eq_true, Nat.reduceBEq, decide_true, Bool.and_self, reduceCtorEq, ne_eq, not_true_eq_false, not_false_eq_true, false_implies, true_implies, Nat.reduceLT, Nat.reduceEqDiff, or_true, true_or, or_false, false_or, or_self, Int.reduceEq, Int.reduceNe, Int.reduceLT, Int.reduceLE, Int.reduceAdd, Int.reduceSub, Int.reduceMul, Int.reduceNeg, Int.reduceToNat, if_true, if_false, Classical.not_not, Int.cast_ofNat_Int, kd176, kd177, kd178, kd179, kd180, kd181, kd182, kd183, kd184, kd185, kd186, kd187, kd188, kd189, kd190, kd191, kd192, kd193, kd194, rf176_1, rf176_2, rf176_4, rf176_5, rf176_6, rf176_8, rf176_9, rf176_10, rf176_11, rf176_12, rf176_13, rf176_14, rf176_16, rf176_17, rf176_18, rf176_19, rf176_20, rf176_23, ct83 hwfu3, e177u, hS3, if_pos p, ct77, if_pos p2]
      refine rq hI3 hS3 hN (fun μ4 j1 hI4 hS4 hR4 hM4 => ?_)
      have p7 : (f : Int) < 9 := by omega
      have p8 : (0 : Int) ≤ f := p3
      have eH : S (23 + 9 * f + 1) = fSt S (ord (sT S) N) f 0 0 r := by
        show _ = S (24 + 9 * f)
        congr 1; omega
      have eH2 : (0 : Int) = fSt S (ord (sT S) N) f 0 1 r := rfl
      simp (disch := first | omega | exact rfl) only [x118_35, x118_36, x118_37, x118_38, x118_39, x117_0, x117_1, x117_2, x117_3, x117_6, x117_8, x117_9, x117_11, x117_12, isF, isK, isH, mK, nl_i, nl_n, nl_o, nl_r, c1_i, c1_r, mPush, mRv, G0_1, true_and, and_true, and_self, implies_true, List.length_nil, List.length_cons, Nat.reduceAdd, Nat.reduceLeDiff, Nat.zero_le, beq_self_eq_true, Nat.reduceBEq, decide_true, Bool.and_self, reduceCtorEq, ne_eq, not_true_eq_false, not_false_eq_true, false_implies, true_implies, Nat.reduceLT, Nat.reduceEqDiff, or_true, true_or, or_false, false_or, or_self, Int.reduceEq, Int.reduceNe, Int.reduceLT, Int.reduceLE, Int.reduceAdd, Int.reduceSub, Int.reduceMul, Int.reduceNeg, Int.reduceToNat, if_true, if_false, Classical.not_not, Int.cast_ofNat_Int, kd176, kd177, kd178, kd179, kd180, kd181, kd182, kd183, kd184, kd185, kd186, kd187, kd188, kd189, kd190, kd191, kd192, kd193, kd194, rf176_1, rf176_2, rf176_4, rf176_5, rf176_6, rf176_8, rf176_9, rf176_10, rf176_11, rf176_12, rf176_13, rf176_14, rf176_16, rf176_17, rf176_18, rf176_19, rf176_20, rf176_23, ct78, Int.toNat_natCast, p7, p8, hS4]
      rw [eH]
      refine zq117 hR4 hw hN hN20 (by omega) p4 p6 hM4 ?_ N 0 (by omega) rfl _ _ rfl rfl
      simp (disch := first | omega | exact rfl) only [x118_42, isF, isK, isH, mK, nl_i, nl_n, nl_o, nl_r, c1_i, c1_r, mPush, mRv, G0_1, true_and, and_true, and_self, implies_true, List.length_nil, List.length_cons, Nat.reduceAdd, Nat.reduceLeDiff, Nat.zero_le, beq_self_eq_true, Nat.reduceBEq, decide_true, Bool.and_self, reduceCtorEq, ne_eq, not_true_eq_false, not_false_eq_true, false_implies, true_implies, Nat.reduceLT, Nat.reduceEqDiff, or_true, true_or, or_false, false_or, or_self, Int.reduceEq, Int.reduceNe, Int.reduceLT, Int.reduceLE, Int.reduceAdd, Int.reduceSub, Int.reduceMul, Int.reduceNeg, Int.reduceToNat, if_true, if_false, Classical.not_not, Int.cast_ofNat_Int]
      exact hI4
    · simp (disch := first | omega | exact rfl) only [x51_0, x51_1, x51_4, x51_5, x51_6, x51_9, x51_14, x51_15, x51_16, x51_19, x51_22, x51_25, x51_27, isF, isK, isH, mK, nl_i, nl_n, nl_o, nl_r, c1_i, c1_r, mPush, mRv, G0_1, true_and, and_true, and_self, implies_true, List.length_nil, List.length_cons, Nat.reduceAdd, Nat.reduceLeDiff, Nat.zero_le, beq_self_eq_true, Nat.reduceBEq, decide_true, Bool.and_self, reduceCtorEq, ne_eq, not_true_eq_false, not_false_eq_true, false_implies, true_implies, Nat.reduceLT, Nat.reduceEqDiff, or_true, true_or, or_false, false_or, or_self, Int.reduceEq, Int.reduceNe, Int.reduceLT, Int.reduceLE, Int.reduceAdd, Int.reduceSub, Int.reduceMul, Int.reduceNeg, Int.reduceToNat, if_true, if_false, Classical.not_not, Int.cast_ofNat_Int, kd0, rf0_0, rf0_1, rf0_2, rf0_3, rf0_4, rf0_5, rf0_6, rf0_7, rf0_8, kd1, ct3 gC1 hwf hc, if_pos p, ct74, if_neg p2]
      refine ⟨_, rfl, ?_⟩
      simp (disch := first | omega | exact rfl) only [x118_0, x118_1, x118_2, x118_5, x118_6, x118_7, x118_8, x118_11, x118_16, x118_17, x118_18, x118_21, x118_24, x118_27, x118_29, isF, isK, isH, mK, nl_i, nl_n, nl_o, nl_r, c1_i, c1_r, mPush, mRv, G0_1, true_and, and_true, and_self, implies_true, List.length_nil, List.length_cons, Nat.reduceAdd, Nat.reduceLeDiff, Nat.zero_le, beq_self_eq_true, Nat.reduceBEq, decide_true, Bool.and_self, reduceCtorEq, ne_eq, not_true_eq_false, not_false_eq_true, false_implies, true_implies, Nat.reduceLT, Nat.reduceEqDiff, or_true, true_or, or_false, false_or, or_self, Int.reduceEq, Int.reduceNe, Int.reduceLT, Int.reduceLE, Int.reduceAdd, Int.reduceSub, Int.reduceMul, Int.reduceNeg, Int.reduceToNat, if_true, if_false, Classical.not_not, Int.cast_ofNat_Int, kd176, kd177, kd178, kd179, kd180, kd181, kd182, kd183, kd184, kd185, kd186, kd187, kd188, kd189, kd190, kd191, kd192, kd193, kd194, rf176_1, rf176_2, rf176_4, rf176_5, rf176_6, rf176_8, rf176_9, rf176_10, rf176_11, rf176_12, rf176_13, rf176_14, rf176_16, rf176_17, rf176_18, rf176_19, rf176_20, rf176_23, ct83 hwfu, e177u, hS, if_pos p, ct77, if_neg p2]
      exact hINV
  · simp (disch := first | omega | exact rfl) only [x51_0, x51_1, x51_4, x51_5, x51_6, x51_9, x51_12, x51_13, isF, isK, isH, mK, nl_i, nl_n, nl_o, nl_r, c1_i, c1_r, mPush, mRv, G0_1, true_and, and_true, and_self, implies_true, List.length_nil, List.length_cons, Nat.reduceAdd, Nat.reduceLeDiff, Nat.zero_le, beq_self_eq_true, Nat.reduceBEq, decide_true, Bool.and_self, reduceCtorEq, ne_eq, not_true_eq_false, not_false_eq_true, false_implies, true_implies, Nat.reduceLT, Nat.reduceEqDiff, or_true, true_or, or_false, false_or, or_self, Int.reduceEq, Int.reduceNe, Int.reduceLT, Int.reduceLE, Int.reduceAdd, Int.reduceSub, Int.reduceMul, Int.reduceNeg, Int.reduceToNat, if_true, if_false, Classical.not_not, Int.cast_ofNat_Int, kd0, rf0_0, rf0_1, rf0_2, rf0_3, rf0_4, rf0_5, rf0_6, rf0_7, rf0_8, kd1, ct3 gC1 hwf hc, if_neg p]
    refine ⟨_, rfl, ?_⟩
    simp (disch := first | omega | exact rfl) only [x118_0, x118_1, x118_2, x118_5, x118_6, x118_7, x118_8, x118_11, x118_14, x118_15, isF, isK, isH, mK, nl_i, nl_n, nl_o, nl_r, c1_i, c1_r, mPush, mRv, G0_1, true_and, and_true, and_self, implies_true, List.length_nil, List.length_cons, Nat.reduceAdd, Nat.reduceLeDiff, Nat.zero_le, beq_self_eq_true, Nat.reduceBEq, decide_true, Bool.and_self, reduceCtorEq, ne_eq, not_true_eq_false, not_false_eq_true, false_implies, true_implies, Nat.reduceLT, Nat.reduceEqDiff, or_true, true_or, or_false, false_or, or_self, Int.reduceEq, Int.reduceNe, Int.reduceLT, Int.reduceLE, Int.reduceAdd, Int.reduceSub, Int.reduceMul, Int.reduceNeg, Int.reduceToNat, if_true, if_false, Classical.not_not, Int.cast_ofNat_Int, kd176, kd177, kd178, kd179, kd180, kd181, kd182, kd183, kd184, kd185, kd186, kd187, kd188, kd189, kd190, kd191, kd192, kd193, kd194, rf176_1, rf176_2, rf176_4, rf176_5, rf176_6, rf176_8, rf176_9, rf176_10, rf176_11, rf176_12, rf176_13, rf176_14, rf176_16, rf176_17, rf176_18, rf176_19, rf176_20, rf176_23, ct83 hwfu, e177u, hS, if_neg p]
    exact hINV
end WHE2
