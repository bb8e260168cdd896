section FRED
variable {E : ME} {Q : Option MV → MG → MU → Prop} {S : Row}
theorem sx_up {f N : Nat} {h m m' : Int} (hN : S 6 = N) : up (sx S f h m') (70 + 4 * N) m = sx S f h m := by
  funext i
  unfold up sx lShow
  rw [hN, Int.toNat_natCast]
  by_cases q : i = 70 + 4 * N
  · rw [if_pos q, if_neg (by omega), if_neg (by omega), if_neg (by omega), if_pos q]
  · rw [if_neg q]
    by_cases q1 : i = 6
    · rw [if_pos q1, if_pos q1]
    · rw [if_neg q1, if_neg q1]
      by_cases q2 : i = 68 + 4 * N
      · rw [if_pos q2, if_pos q2]
      · rw [if_neg q2, if_neg q2]
        by_cases q3 : i = 69 + 4 * N
        · rw [if_pos q3, if_pos q3]
        · rw [if_neg q3, if_neg q3, if_neg q, if_neg q]
def BZ (μ1 μ : MU) (S : Row) (N f : Nat) (h m : Int) : Prop := (∀ x, ¬ (176 ≤ x ∧ x ≤ 177) → ¬ (182 ≤ x ∧ x ≤ 193) → μ x = μ1 x) ∧ (∀ j, ¬ j = 15 → ¬ j = 0 → μ 176 j = μ1 176 j) ∧ μ 177 = sx S f h m ∧ ∀ i, i < N → μ 192 i = sP S N i 5 1 ∧ μ 193 i = on (sP S N i 5 2)
theorem zq125b {μ1 : MU} (hwf : wf S) {N f : Nat} {h a v : Int} (hN : S 6 = N) (hN19 : N ≤ 19) (hf : f < 5) (hf2 : (f : Int) < S 5) (hh : isH h) (ha : 0 ≤ a) (hv : AN S N f h a v)
    (hQ : ∀ (μ : MU) (m : Int) (t : Int), 0 ≤ m ∧ m ≤ 1439 → BZ μ1 μ S N f h m → Wp E 125 155 [some (.inr (.inr (.inl 176))), some (.inl f), some (.inl h), some (.inl a), some (.inl 0), some (.inl N), some (.inl v), some (.inl t)] [] G0 μ Q) :
    ∀ (i : Nat) (t : Int), t + i = 1440 → a ≤ t → (∀ u, a ≤ u → u < t → ¬ FR S N f h u) → ∀ (μ : MU) (m : Int), 0 ≤ m ∧ m ≤ 1439 → BZ μ1 μ S N f h m →
    Wp E 125 97 [some (.inr (.inr (.inl 176))), some (.inl f), some (.inl h), some (.inl a), some (.inl 0), some (.inl N), some (.inl (-6)), some (.inl t)] [] G0 μ Q := by
  have hw := wf_wfR hwf
  intro i
  induction i with
  | zero =>
    intro t ht hat hno μ m hm hB
    have e1 : 1439 < t := by omega
    have e2 : ¬ t ≤ 1439 := by omega
    have ev : v = -6 := by
      rcases hv with z | ⟨z1, z2⟩
      · exact z.1
      · exact absurd z1.2.2 (hno v z1.1 (by omega))
    simp (disch := first | omega | exact rfl) only [x125_97, x125_99, x125_102, isF, isK, isH, mK, nl_i, nl_n, nl_o, nl_r, c1_i, c1_r, mPush, mRv, G0_1, true_and, and_true, and_self, implies_true, List.length_nil, List.length_cons, Nat.reduceAdd, Nat.reduceLeDiff, Nat.zero_le, beq_self_eq_true, Nat.reduceBEq, decide_true, Bool.and_self, reduceCtorEq, ne_eq, not_true_eq_false, not_false_eq_true, false_implies, true_implies, Nat.reduceLT, Nat.reduceEqDiff, or_true, true_or, or_false, false_or, or_self, Int.reduceEq, Int.reduceNe, Int.reduceLT, Int.reduceLE, Int.reduceAdd, Int.reduceSub, Int.reduceMul, Int.reduceNeg, Int.reduceToNat, if_true, if_false, Classical.not_not, Int.cast_ofNat_Int, e1, e2]
    rw [ev] at hQ
    exact hQ μ m t hm hB
  | succ i ih =>
    intro t ht hat hno μ m hm hB
    have e1 : ¬ 1439 < t := by omega
    have e2 : t ≤ 1439 := by omega
    obtain ⟨B1, B2, B3, B4⟩ := hB
    have ei : 68 + 4 * (N : Int) + 2 = ((70 + 4 * N : Nat) : Int) := by omega
    have ei2 : (0 : Int) ≤ ((70 + 4 * N : Nat) : Int) := by omega
    have ei3 : ((70 + 4 * N : Nat) : Int) < 152 := by omega
    have hrow : mUp μ 177 (70 + 4 * N) t 177 = sx S f h t := by rw [mUp_row, mRow_177, B3, sx_up hN]
    have hr0 : rShow S f h t 0 = 0 := by
      unfold rShow
      rw [if_neg (fun z => z ⟨⟨by omega, hf2⟩, hh⟩), if_neg (fun z => z ⟨⟨by omega, e2⟩, by omega⟩), if_neg (by omega)]
    have hwx : wf (sx S f h t) := wf_show hwf hr0
    simp (disch := first | omega | exact rfl) only [x125_97, x125_99, x125_102, x125_105, x125_107, x125_109, x125_112, x125_113, x125_116, x125_118, x125_119, x125_121, x125_122, x125_123, x125_124, x125_125, x125_127, x125_128, x125_129, x125_130, isF, isK, isH, mK, nl_i, nl_n, nl_o, nl_r, c1_i, c1_r, mPush, mRv, G0_1, true_and, and_true, and_self, implies_true, List.length_nil, List.length_cons, Nat.reduceAdd, Nat.reduceLeDiff, Nat.zero_le, beq_self_eq_true, Nat.reduceBEq, decide_true, Bool.and_self, reduceCtorEq, ne_eq, not_true_eq_false, not_false_eq_true, false_implies, true_implies, Nat.reduceLT, Nat.reduceEqDiff, or_true, true_or, or_false, false_or, or_self, Int.reduceEq, Int.reduceNe, Int.reduceLT, Int.reduceLE, Int.reduceAdd, Int.reduceSub, Int.reduceMul, Int.reduceNeg, Int.reduceToNat, if_true, if_false, Classical.not_not, Int.cast_ofNat_Int, kd176, kd177, kd178, kd179, kd180, kd181, kd182, kd183, kd184, kd185, kd186, kd187, kd188, kd189, kd190, kd191, kd192, kd193, kd194, rf176_1, rf176_2, rf176_4, rf176_5, rf176_6, rf176_8, rf176_9, rf176_10, rf176_11, rf176_12, rf176_13, rf176_14, rf176_16, rf176_17, rf176_18, rf176_19, rf176_20, rf176_23, e1, e2, mWr_of, ei, ei2, ei3, Int.toNat_natCast]
    have hRS : RS (mUp (mUp μ 177 (70 + 4 * N) t) 176 15 0) (sx S f h t) := RS_0 hwx (by rw [mUp_ne (by omega)]; exact hrow) (by rw [mUp_eq])
    obtain ⟨x6, x68, x69, x70, x71⟩ := sx_n (S := S) (f := f) (h := h) (m := t) hN
    refine ct89 hRS (wf_wfR hwx) (N := N + 1) x6 (fun μ2 k1 k2 k3 k4 => ?_)
    simp (disch := first | omega | exact rfl) only [x125_133, x125_134, isF, isK, isH, mK, nl_i, nl_n, nl_o, nl_r, c1_i, c1_r, mPush, mRv, G0_1, true_and, and_true, and_self, implies_true, List.length_nil, List.length_cons, Nat.reduceAdd, Nat.reduceLeDiff, Nat.zero_le, beq_self_eq_true, Nat.reduceBEq, decide_true, Bool.and_self, reduceCtorEq, ne_eq, not_true_eq_false, not_false_eq_true, false_implies, true_implies, Nat.reduceLT, Nat.reduceEqDiff, or_true, true_or, or_false, false_or, or_self, Int.reduceEq, Int.reduceNe, Int.reduceLT, Int.reduceLE, Int.reduceAdd, Int.reduceSub, Int.reduceMul, Int.reduceNeg, Int.reduceToNat, if_true, if_false, Classical.not_not, Int.cast_ofNat_Int, kd176, kd177, kd178, kd179, kd180, kd181, kd182, kd183, kd184, kd185, kd186, kd187, kd188, kd189, kd190, kd191, kd192, kd193, kd194, rf176_1, rf176_2, rf176_4, rf176_5, rf176_6, rf176_8, rf176_9, rf176_10, rf176_11, rf176_12, rf176_13, rf176_14, rf176_16, rf176_17, rf176_18, rf176_19, rf176_20, rf176_23]
    have g177 : μ2 177 = sx S f h t := by rw [k1 177 (by omega) (by omega)]; exact hrow
    have hB2 : BZ μ1 μ2 S N f h t := by
      refine ⟨fun x z1 z2 => ?_, fun j z1 z2 => ?_, g177, fun i hi => ?_⟩
      · rw [k1 x (by omega) (by omega), mUp_ne (by omega)]; exact B1 x z1 z2
      · rw [k2 j z1, mUp_ne (by omega)]; exact B2 j z1 z2
      · rw [k1 192 (by omega) (by omega), k1 193 (by omega) (by omega), mUp_ne (by omega), mUp_ne (by omega)]; exact B4 i hi
    have hFR : FRm μ2 N N ↔ FR S N f h t := by
      have q := FR_iff hw hN (by omega) (f := f) (h := h) (m := t) hf hf2 hh ⟨by omega, e2⟩
      have q2 : FRm μ2 N N ↔ FRr S (sx S f h t) N := by
        unfold FRm FRr
        obtain ⟨_, n1, n2, _⟩ := MZ_s k4 (i := N) (by omega)
        rw [n1, n2, and_assoc]
        refine and_congr_right (fun _ => and_congr_right (fun _ => ⟨fun z i hi => ?_, fun z i hi => ?_⟩))
        · have z2 := z i hi
          obtain ⟨_, m1, m2, _⟩ := MZ_s k4 (i := i) (by omega)
          rw [m1, m2, (hB2.2.2.2 i hi).1, (hB2.2.2.2 i hi).2] at z2
          exact z2
        · have z2 := z i hi
          obtain ⟨_, m1, m2, _⟩ := MZ_s k4 (i := i) (by omega)
          rw [m1, m2, (hB2.2.2.2 i hi).1, (hB2.2.2.2 i hi).2]
          exact z2
      exact q2.trans q
    refine ct124 (N := N) (by rw [g177]; exact x6) (by omega) (fun z => ?_) (fun z => ?_)
    · have zf := hFR.mp z
      have ev : v = t := by
        rcases hv with w | ⟨w1, w2⟩
        · exact absurd zf (w.2 t hat e2)
        · by_cases y : v = t
          · exact y
          · by_cases y2 : v < t
            · exact absurd w1.2.2 (hno v w1.1 y2)
            · exact absurd zf (w2 t hat (by omega))
      have et : ¬ t = -6 := by omega
      by_cases y : t = 1439
      · have e3 : ¬ t + 1 ≤ 1439 := by omega
        have e4 : 1439 < t + 1 := by omega
        simp (disch := first | omega | exact rfl) only [x125_137, x125_140, x125_142, x125_147, x125_149, isF, isK, isH, mK, nl_i, nl_n, nl_o, nl_r, c1_i, c1_r, mPush, mRv, G0_1, true_and, and_true, and_self, implies_true, List.length_nil, List.length_cons, Nat.reduceAdd, Nat.reduceLeDiff, Nat.zero_le, beq_self_eq_true, Nat.reduceBEq, decide_true, Bool.and_self, reduceCtorEq, ne_eq, not_true_eq_false, not_false_eq_true, false_implies, true_implies, Nat.reduceLT, Nat.reduceEqDiff, or_true, true_or, or_false, false_or, or_self, Int.reduceEq, Int.reduceNe, Int.reduceLT, Int.reduceLE, Int.reduceAdd, Int.reduceSub, Int.reduceMul, Int.reduceNeg, Int.reduceToNat, if_true, if_false, Classical.not_not, Int.cast_ofNat_Int, mWr_of]
        rw [x125_152]
        simp (disch := first | omega | exact rfl) only [x125_97, x125_99, x125_102, isF, isK, isH, mK, nl_i, nl_n, nl_o, nl_r, c1_i, c1_r, mPush, mRv, G0_1, true_and, and_true, and_self, implies_true, List.length_nil, List.length_cons, Nat.reduceAdd, Nat.reduceLeDiff, Nat.zero_le, beq_self_eq_true, Nat.reduceBEq, decide_true, Bool.and_self, reduceCtorEq, ne_eq, not_true_eq_false, not_false_eq_true, false_implies, true_implies, Nat.reduceLT, Nat.reduceEqDiff, or_true, true_or, or_false, false_or, or_self, Int.reduceEq, Int.reduceNe, Int.reduceLT, Int.reduceLE, Int.reduceAdd, Int.reduceSub, Int.reduceMul, Int.reduceNeg, Int.reduceToNat, if_true, if_false, Classical.not_not, Int.cast_ofNat_Int, e3, e4]
        rw [ev] at hQ
        exact hQ μ2 t (t + 1) ⟨by omega, e2⟩ hB2
      · have e3 : t + 1 ≤ 1439 := by omega
        have e4 : ¬ 1439 < t + 1 := by omega
        simp (disch := first | omega | exact rfl) only [x125_137, x125_140, x125_142, x125_147, x125_149, isF, isK, isH, mK, nl_i, nl_n, nl_o, nl_r, c1_i, c1_r, mPush, mRv, G0_1, true_and, and_true, and_self, implies_true, List.length_nil, List.length_cons, Nat.reduceAdd, Nat.reduceLeDiff, Nat.zero_le, beq_self_eq_true, Nat.reduceBEq, decide_true, Bool.and_self, reduceCtorEq, ne_eq, not_true_eq_false, not_false_eq_true, false_implies, true_implies, Nat.reduceLT, Nat.reduceEqDiff, or_true, true_or, or_false, false_or, or_self, Int.reduceEq, Int.reduceNe, Int.reduceLT, Int.reduceLE, Int.reduceAdd, Int.reduceSub, Int.reduceMul, Int.reduceNeg, Int.reduceToNat, if_true, if_false, Classical.not_not, Int.cast_ofNat_Int, mWr_of]
        rw [x125_152]
        simp (disch := first | omega | exact rfl) only [x125_97, x125_99, x125_102, x125_105, x125_107, x125_109, isF, isK, isH, mK, nl_i, nl_n, nl_o, nl_r, c1_i, c1_r, mPush, mRv, G0_1, true_and, and_true, and_self, implies_true, List.length_nil, List.length_cons, Nat.reduceAdd, Nat.reduceLeDiff, Nat.zero_le, beq_self_eq_true, Nat.reduceBEq, decide_true, Bool.and_self, reduceCtorEq, ne_eq, not_true_eq_false, not_false_eq_true, false_implies, true_implies, Nat.reduceLT, Nat.reduceEqDiff, or_true, true_or, or_false, false_or, or_self, Int.reduceEq, Int.reduceNe, Int.reduceLT, Int.reduceLE, Int.reduceAdd, Int.reduceSub, Int.reduceMul, Int.reduceNeg, Int.reduceToNat, if_true, if_false, Classical.not_not, Int.cast_ofNat_Int, e3, e4, et]
        rw [ev] at hQ
        exact hQ μ2 t (t + 1) ⟨by omega, e2⟩ hB2
    · have zf : ¬ FR S N f h t := fun w => z (hFR.mpr w)
      simp (disch := first | omega | exact rfl) only [x125_137, x125_145, x125_147, x125_149, isF, isK, isH, mK, nl_i, nl_n, nl_o, nl_r, c1_i, c1_r, mPush, mRv, G0_1, true_and, and_true, and_self, implies_true, List.length_nil, List.length_cons, Nat.reduceAdd, Nat.reduceLeDiff, Nat.zero_le, beq_self_eq_true, Nat.reduceBEq, decide_true, Bool.and_self, reduceCtorEq, ne_eq, not_true_eq_false, not_false_eq_true, false_implies, true_implies, Nat.reduceLT, Nat.reduceEqDiff, or_true, true_or, or_false, false_or, or_self, Int.reduceEq, Int.reduceNe, Int.reduceLT, Int.reduceLE, Int.reduceAdd, Int.reduceSub, Int.reduceMul, Int.reduceNeg, Int.reduceToNat, if_true, if_false, Classical.not_not, Int.cast_ofNat_Int, mWr_of]
      rw [x125_152]
      refine ih (t + 1) (by omega) (by omega) ?_ μ2 t ⟨by omega, e2⟩ hB2
      intro u z1 z2
      by_cases y : u = t
      · rw [y]; exact zf
      · exact hno u z1 (by omega)
theorem op60 {μ : MU} (hI : INV μ) {a b d : Int} : OPS E 60 [some (.inl a), some (.inl b), some (.inl d), none, none] 125 [some (.inl a), some (.inl b), some (.inl d), none, none, none, none] μ := by
  obtain ⟨S, N, F, hS, hN, hN20, hw, hwf, hc1, hF, hF5⟩ := inv_q hI
  unfold OPS
  have hINV : INV (mUp μ 176 0 0) := INV_fr hI ⟨fun x hx => mUp_ne (by omega), by rw [mUp_ne (by omega)], mUp_nj (by omega), mUp_nj (by omega)⟩
  have hwfu : wf ((mUp μ 176 0 0) 177) := by rw [e177u, hS]; exact hwf
  by_cases p1 : 0 ≤ a ∧ a < S 5
  · by_cases p2 : 0 ≤ b ∧ b ≤ 3
    · by_cases p3 : 0 ≤ d ∧ d ≤ 1439
      · by_cases p4 : S 6 = 20
        · have er : rShow S a b d 0 = -4 := by
            unfold rShow
            rw [if_neg (fun z => z ⟨p1, p2⟩), if_neg (fun z => z ⟨p3, by omega⟩), if_pos p4]
          have e7 : μ 1 7 = 20 := hc1.2.2.1.trans p4
          simp (disch := first | omega | exact rfl) only [x60_0, x60_1, x60_4, x60_5, x60_8, x60_11, x60_12, x60_15, x60_20, x60_21, x60_22, x60_25, x60_28, x60_34, x60_35, x60_38, x60_41, x60_43, x60_46, x60_48, isF, isK, isH, mK, nl_i, nl_n, nl_o, nl_r, c1_i, c1_r, mPush, mRv, G0_1, true_and, and_true, and_self, implies_true, List.length_nil, List.length_cons, Nat.reduceAdd, Nat.reduceLeDiff, Nat.zero_le, beq_self_eq_true, Nat.reduceBEq, decide_true, Bool.and_self, reduceCtorEq, ne_eq, not_true_eq_false, not_false_eq_true, false_implies, true_implies, Nat.reduceLT, Nat.reduceEqDiff, or_true, true_or, or_false, false_or, or_self, Int.reduceEq, Int.reduceNe, Int.reduceLT, Int.reduceLE, Int.reduceAdd, Int.reduceSub, Int.reduceMul, Int.reduceNeg, Int.reduceToNat, if_true, if_false, Classical.not_not, Int.cast_ofNat_Int, kd0, rf0_0, rf0_1, rf0_2, rf0_3, rf0_4, rf0_5, rf0_6, rf0_7, rf0_8, kd1, ct2 gC1 hwf hc1, if_pos p1, ct75, if_pos p2, ct74, if_pos p3, e7]
          refine ⟨_, rfl, ?_⟩
          simp (disch := first | omega | exact rfl) only [x125_0, x125_1, x125_2, x125_5, x125_6, x125_7, x125_8, x125_9, x125_10, x125_13, x125_15, x125_17, x125_20, x125_22, isF, isK, isH, mK, nl_i, nl_n, nl_o, nl_r, c1_i, c1_r, mPush, mRv, G0_1, true_and, and_true, and_self, implies_true, List.length_nil, List.length_cons, Nat.reduceAdd, Nat.reduceLeDiff, Nat.zero_le, beq_self_eq_true, Nat.reduceBEq, decide_true, Bool.and_self, reduceCtorEq, ne_eq, not_true_eq_false, not_false_eq_true, false_implies, true_implies, Nat.reduceLT, Nat.reduceEqDiff, or_true, true_or, or_false, false_or, or_self, Int.reduceEq, Int.reduceNe, Int.reduceLT, Int.reduceLE, Int.reduceAdd, Int.reduceSub, Int.reduceMul, Int.reduceNeg, Int.reduceToNat, if_true, if_false, Classical.not_not, Int.cast_ofNat_Int, kd176, kd177, kd178, kd179, kd180, kd181, kd182, kd183, kd184, kd185, kd186, kd187, kd188, kd189, kd190, kd191, kd192, kd193, kd194, rf176_1, rf176_2, rf176_4, rf176_5, rf176_6, rf176_8, rf176_9, rf176_10, rf176_11, rf176_12, rf176_13, rf176_14, rf176_16, rf176_17, rf176_18, rf176_19, rf176_20, rf176_23, ct103 hwfu, e177u, hS, er]
          exact hINV
        · have hN19 : N ≤ 19 := by omega
          have er : rShow S a b d 0 = 0 := by
            unfold rShow
            rw [if_neg (fun z => z ⟨p1, p2⟩), if_neg (fun z => z ⟨p3, by omega⟩), if_neg p4]
          have e7 : μ 1 7 = N := hc1.2.2.1.trans hN
          have e8 : (N : Int) < 20 := by omega
          have e9 : ¬ (20 : Int) ≤ N := by omega
          obtain ⟨f, hf⟩ := Int.eq_ofNat_of_zero_le p1.1
          subst hf
          simp (disch := first | omega | exact rfl) only [x60_0, x60_1, x60_4, x60_5, x60_8, x60_11, x60_12, x60_15, x60_20, x60_21, x60_22, x60_25, x60_28, x60_34, x60_35, x60_38, x60_41, x60_43, x60_49, x60_50, x60_53, x60_54, x60_57, isF, isK, isH, mK, nl_i, nl_n, nl_o, nl_r, c1_i, c1_r, mPush, mRv, G0_1, true_and, and_true, and_self, implies_true, List.length_nil, List.length_cons, Nat.reduceAdd, Nat.reduceLeDiff, Nat.zero_le, beq_self_eq_true, Nat.reduceBEq, decide_true, Bool.and_self, reduceCtorEq, ne_eq, not_true_eq_false, not_false_eq_true, false_implies, true_implies, Nat.reduceLT, Nat.reduceEqDiff, or_true, true_or, or_false, false_or, or_self, Int.reduceEq, Int.reduceNe, Int.reduceLT, Int.reduceLE, Int.reduceAdd, Int.reduceSub, Int.reduceMul, Int.reduceNeg, Int.reduceToNat, if_true, if_false, Classical.not_not, Int.cast_ofNat_Int, kd0, rf0_0, rf0_1, rf0_2, rf0_3, rf0_4, rf0_5, rf0_6, rf0_7, rf0_8, kd1, kd12, ct2 gC1 hwf hc1, if_pos p1, ct75, if_pos p2, ct74, if_pos p3, e7, e8, e9]
          refine cq hI hS hN (fun μ1 k1 hI1 hS1 hc2 hC1 => ?_)
          have h144 : (144 : Nat) ∈ gRs := by decide
          simp (disch := first | omega | exact rfl) only [x60_60, x60_61, x60_64, x60_65, x60_68, x60_69, isF, isK, isH, mK, nl_i, nl_n, nl_o, nl_r, c1_i, c1_r, mPush, mRv, G0_1, true_and, and_true, and_self, implies_true, List.length_nil, List.length_cons, Nat.reduceAdd, Nat.reduceLeDiff, Nat.zero_le, beq_self_eq_true, Nat.reduceBEq, decide_true, Bool.and_self, reduceCtorEq, ne_eq, not_true_eq_false, not_false_eq_true, false_implies, true_implies, Nat.reduceLT, Nat.reduceEqDiff, or_true, true_or, or_false, false_or, or_self, Int.reduceEq, Int.reduceNe, Int.reduceLT, Int.reduceLE, Int.reduceAdd, Int.reduceSub, Int.reduceMul, Int.reduceNeg, Int.reduceToNat, if_true, if_false, Classical.not_not, Int.cast_ofNat_Int, kd0, rf0_0, rf0_1, rf0_2, rf0_3, rf0_4, rf0_5, rf0_6, rf0_7, rf0_8, kd1, kd144]
          refine ct35 gC1 h144 hc2 (by omega) p1.2 (fun μ2 k2 k3 => ?_)
          have hc3 : cRel μ2 1 S := cRel_fr (fun x z1 z2 => k2 x (by omega)) hc2
          have hC2 : CZ μ2 S N := by
            obtain ⟨c1, c2, c3⟩ := hC1
            refine ⟨fun k hk => by rw [k2 13 (by omega)]; exact c1 k hk, fun g hg => ?_, fun j hj => ?_⟩
            · obtain ⟨d1, d2⟩ := c2 g hg
              exact ⟨RC_fr d1 (fun x z1 z2 => k2 x (by omega)), by rw [k2 22 (by omega)]; exact d2⟩
            · have dd := c3 j hj
              unfold RY at dd ⊢
              rw [k2 14 (by omega), k2 15 (by omega), k2 16 (by omega), k2 17 (by omega), k2 18 (by omega), k2 19 (by omega), k2 20 (by omega), k2 21 (by omega)]
              exact dd
          simp (disch := first | omega | exact rfl) only [x60_72, x60_73, x60_75, x60_76, isF, isK, isH, mK, nl_i, nl_n, nl_o, nl_r, c1_i, c1_r, mPush, mRv, G0_1, true_and, and_true, and_self, implies_true, List.length_nil, List.length_cons, Nat.reduceAdd, Nat.reduceLeDiff, Nat.zero_le, beq_self_eq_true, Nat.reduceBEq, decide_true, Bool.and_self, reduceCtorEq, ne_eq, not_true_eq_false, not_false_eq_true, false_implies, true_implies, Nat.reduceLT, Nat.reduceEqDiff, or_true, true_or, or_false, false_or, or_self, Int.reduceEq, Int.reduceNe, Int.reduceLT, Int.reduceLE, Int.reduceAdd, Int.reduceSub, Int.reduceMul, Int.reduceNeg, Int.reduceToNat, if_true, if_false, Classical.not_not, Int.cast_ofNat_Int]
          refine zq60 (μ0 := μ2) hc3 hw hN hN20 (by omega) p1.2 p2 p3.1 hC2 (fun v μ3 hv k4 => ?_) (1440 - d).toNat d (by omega) (Int.le_refl _) (fun u z1 z2 => by omega) μ2 0 (Nat.zero_le _) (fun _ _ => rfl) k3
          refine ⟨_, rfl, rfl, ?_⟩
          have hI3 : INV μ3 := INV_fr hI1 ⟨fun x hx => by rw [k4 x (by omega), k2 x (by omega)], by rw [k4 128 (by omega), k2 128 (by omega)], by rw [k4 176 (by omega), k2 176 (by omega)], by rw [k4 176 (by omega), k2 176 (by omega)]⟩
          have hS3 : μ3 177 = S := by rw [k4 177 (by omega), k2 177 (by omega)]; exact hS1
          have hwfu3 : wf ((mUp μ3 176 0 0) 177) := by rw [e177u, hS3]; exact hwf
          simp (disch := first | omega | exact rfl) only [x125_0, x125_1, x125_2, x125_5, x125_6, x125_7, x125_8, x125_9, x125_10, x125_13, x125_15, x125_17, x125_23, x125_24, x125_25, isF, isK, isH, mK, nl_i, nl_n, nl_o, nl_r, c1_i, c1_r, mPush, mRv, G0_1, true_and, and_true, and_self, implies_true, List.length_nil, List.length_cons, Nat.reduceAdd, Nat.reduceLeDiff, Nat.zero_le, beq_self_eq_true, Nat.reduceBEq, decide_true, Bool.and_self, reduceCtorEq, ne_eq, not_true_eq_false, not_false_eq_true, false_implies, true_implies, Nat.reduceLT, Nat.reduceEqDiff, or_true, true_or, or_false, false_or, or_self, Int.reduceEq, Int.reduceNe, Int.reduceLT, Int.reduceLE, Int.reduceAdd, Int.reduceSub, Int.reduceMul, Int.reduceNeg, Int.reduceToNat, if_true, if_false, Classical.not_not, Int.cast_ofNat_Int, kd176, kd177, kd178, kd179, kd180, kd181, kd182, kd183, kd184, kd185, kd186, kd187, kd188, kd189, kd190, kd191, kd192, kd193, kd194, rf176_1, rf176_2, rf176_4, rf176_5, rf176_6, rf176_8, rf176_9, rf176_10, rf176_11, rf176_12, rf176_13, rf176_14, rf176_16, rf176_17, rf176_18, rf176_19, rf176_20, rf176_23, ct103 hwfu3, e177u, hS3, er]
          refine rq hI3 hS3 hN (fun μ4 j1 hI4 hS4 hR4 hM4 => ?_)
          simp (disch := first | omega | exact rfl) only [x125_28, x125_29, isF, isK, isH, mK, nl_i, nl_n, nl_o, nl_r, c1_i, c1_r, mPush, mRv, G0_1, true_and, and_true, and_self, implies_true, List.length_nil, List.length_cons, Nat.reduceAdd, Nat.reduceLeDiff, Nat.zero_le, beq_self_eq_true, Nat.reduceBEq, decide_true, Bool.and_self, reduceCtorEq, ne_eq, not_true_eq_false, not_false_eq_true, false_implies, true_implies, Nat.reduceLT, Nat.reduceEqDiff, or_true, true_or, or_false, false_or, or_self, Int.reduceEq, Int.reduceNe, Int.reduceLT, Int.reduceLE, Int.reduceAdd, Int.reduceSub, Int.reduceMul, Int.reduceNeg, Int.reduceToNat, if_true, if_false, Classical.not_not, Int.cast_ofNat_Int]
          refine zq125a (μ0 := μ4) (by rw [hS4]; exact hN) hN20 (fun μ5 j2 j3 => ?_) N 0 (by omega) μ4 (fun _ _ _ => rfl) (fun i hi => by omega)
          have g177 : μ5 177 = S := by rw [j2 177 (by omega) (by omega)]; exact hS4
          simp (disch := first | omega | exact rfl) only [x125_80, x125_81, x125_82, x125_83, x125_84, x125_85, isF, isK, isH, mK, nl_i, nl_n, nl_o, nl_r, c1_i, c1_r, mPush, mRv, G0_1, true_and, and_true, and_self, implies_true, List.length_nil, List.length_cons, Nat.reduceAdd, Nat.reduceLeDiff, Nat.zero_le, beq_self_eq_true, Nat.reduceBEq, decide_true, Bool.and_self, reduceCtorEq, ne_eq, not_true_eq_false, not_false_eq_true, false_implies, true_implies, Nat.reduceLT, Nat.reduceEqDiff, or_true, true_or, or_false, false_or, or_self, Int.reduceEq, Int.reduceNe, Int.reduceLT, Int.reduceLE, Int.reduceAdd, Int.reduceSub, Int.reduceMul, Int.reduceNeg, Int.reduceToNat, if_true, if_false, Classical.not_not, Int.cast_ofNat_Int, kd176, kd177, kd178, kd179, kd180, kd181, kd182, kd183, kd184, kd185, kd186, kd187, kd188, kd189, kd190, kd191, kd192, kd193, kd194, rf176_1, rf176_2, rf176_4, rf176_5, rf176_6, rf176_8, rf176_9, rf176_10, rf176_11, rf176_12, rf176_13, rf176_14, rf176_16, rf176_17, rf176_18, rf176_19, rf176_20, rf176_23]
          refine ct104 (by rw [g177, hN]; omega) ?_
          rw [g177, hN]
          simp (disch := first | omega | exact rfl) only [x125_88, x125_90, x125_92, x125_94, x125_95, isF, isK, isH, mK, nl_i, nl_n, nl_o, nl_r, c1_i, c1_r, mPush, mRv, G0_1, true_and, and_true, and_self, implies_true, List.length_nil, List.length_cons, Nat.reduceAdd, Nat.reduceLeDiff, Nat.zero_le, beq_self_eq_true, Nat.reduceBEq, decide_true, Bool.and_self, reduceCtorEq, ne_eq, not_true_eq_false, not_false_eq_true, false_implies, true_implies, Nat.reduceLT, Nat.reduceEqDiff, or_true, true_or, or_false, false_or, or_self, Int.reduceEq, Int.reduceNe, Int.reduceLT, Int.reduceLE, Int.reduceAdd, Int.reduceSub, Int.reduceMul, Int.reduceNeg, Int.reduceToNat, if_true, if_false, Classical.not_not, Int.cast_ofNat_Int]
          refine zq125b (μ1 := μ5) hwf hN hN19 (by omega) p1.2 p2 p3.1 hv (fun μ6 m t hm hB => ?_) (1440 - d).toNat d (by omega) (Int.le_refl _) (fun u z1 z2 => by omega) _ d p3 ⟨fun x z1 z2 => mRow_ne (by omega), fun j z1 z2 => by rw [mRow_ne (by omega)], mRow_177, fun i hi => ?_⟩
          · obtain ⟨B1, B2, B3, B4⟩ := hB
            have hr0 : rShow S f b m 0 = 0 := by
              unfold rShow
              rw [if_neg (fun z => z ⟨p1, p2⟩), if_neg (fun z => z ⟨hm, by omega⟩), if_neg p4]
            have hwx : wf (μ6 177) := by rw [B3]; exact wf_show hwf hr0
            obtain ⟨x6, x68, x69, x70, x71⟩ := sx_n (S := S) (f := f) (h := b) (m := m) hN
            simp (disch := first | omega | exact rfl) only [x125_155, x125_156, x125_158, isF, isK, isH, mK, nl_i, nl_n, nl_o, nl_r, c1_i, c1_r, mPush, mRv, G0_1, true_and, and_true, and_self, implies_true, List.length_nil, List.length_cons, Nat.reduceAdd, Nat.reduceLeDiff, Nat.zero_le, beq_self_eq_true, Nat.reduceBEq, decide_true, Bool.and_self, reduceCtorEq, ne_eq, not_true_eq_false, not_false_eq_true, false_implies, true_implies, Nat.reduceLT, Nat.reduceEqDiff, or_true, true_or, or_false, false_or, or_self, Int.reduceEq, Int.reduceNe, Int.reduceLT, Int.reduceLE, Int.reduceAdd, Int.reduceSub, Int.reduceMul, Int.reduceNeg, Int.reduceToNat, if_true, if_false, Classical.not_not, Int.cast_ofNat_Int, kd176, kd177, kd178, kd179, kd180, kd181, kd182, kd183, kd184, kd185, kd186, kd187, kd188, kd189, kd190, kd191, kd192, kd193, kd194, rf176_1, rf176_2, rf176_4, rf176_5, rf176_6, rf176_8, rf176_9, rf176_10, rf176_11, rf176_12, rf176_13, rf176_14, rf176_16, rf176_17, rf176_18, rf176_19, rf176_20, rf176_23]
            refine ct106 hwx ⟨by omega, by rw [B3, x6]; omega⟩ ?_
            simp (disch := first | omega | exact rfl) only [x125_161, x125_162, x125_164, isF, isK, isH, mK, nl_i, nl_n, nl_o, nl_r, c1_i, c1_r, mPush, mRv, G0_1, true_and, and_true, and_self, implies_true, List.length_nil, List.length_cons, Nat.reduceAdd, Nat.reduceLeDiff, Nat.zero_le, beq_self_eq_true, Nat.reduceBEq, decide_true, Bool.and_self, reduceCtorEq, ne_eq, not_true_eq_false, not_false_eq_true, false_implies, true_implies, Nat.reduceLT, Nat.reduceEqDiff, or_true, true_or, or_false, false_or, or_self, Int.reduceEq, Int.reduceNe, Int.reduceLT, Int.reduceLE, Int.reduceAdd, Int.reduceSub, Int.reduceMul, Int.reduceNeg, Int.reduceToNat, if_true, if_false, Classical.not_not, Int.cast_ofNat_Int]
            rw [B3]
            have hcut : ∀ i, ¬ (68 + 4 * N ≤ i ∧ i < 72 + 4 * N) → lDrop (sx S f b m) N i = S i := by
              intro i hi
              unfold lDrop
              rw [x6, Int.toNat_natCast, Int.toNat_natCast]
              by_cases q : i = 6
              · rw [if_pos q, q, hN]; omega
              · rw [if_neg q, if_neg (by omega), if_neg (by omega)]
                by_cases q2 : i < 68 + 4 * N
                · exact sx_lo hN q2 q
                · unfold sx lShow
                  rw [hN, Int.toNat_natCast, if_neg q, if_neg (by omega), if_neg (by omega), if_neg (by omega), if_neg (by omega)]
            have hwc := wf_cut hwf hN hcut
            have hcc : cRel μ4 1 (lDrop (sx S f b m) N) := cRel_cut (by have := hI4.2.1; rw [hS4] at this; exact this) hN hcut
            have hI6 := INV_row2 hI4 hwc hcc
            refine INV_fr hI6 ⟨fun x hx => ?_, ?_, ?_, ?_⟩
            · by_cases q : x = 177
              · rw [q, mRow_177, mRow_177]
              · rw [mRow_ne q, mRow_ne q, B1 x (by omega) (by omega), j2 x (by omega) (by omega)]
            · rw [mRow_ne (by omega), mRow_ne (by omega), B1 128 (by omega) (by omega), j2 128 (by omega) (by omega)]
            · rw [mRow_ne (by omega), mRow_ne (by omega), B2 3 (by omega) (by omega), j2 176 (by omega) (by omega)]
            · rw [mRow_ne (by omega), mRow_ne (by omega), B2 7 (by omega) (by omega), j2 176 (by omega) (by omega)]
          · rw [mRow_ne (by omega), mRow_ne (by omega), (j3 i hi).1, (j3 i hi).2, (MZ_s hM4 hi).2.1, (MZ_s hM4 hi).2.2.1]
            exact ⟨rfl, rfl⟩
      · have er : rShow S a b d 0 = -2 := by
          unfold rShow
          rw [if_neg (fun z => z ⟨p1, p2⟩), if_pos (fun z => p3 z.1)]
        simp (disch := first | omega | exact rfl) only [x60_0, x60_1, x60_4, x60_5, x60_8, x60_11, x60_12, x60_15, x60_20, x60_21, x60_22, x60_25, x60_28, x60_31, x60_33, isF, isK, isH, mK, nl_i, nl_n, nl_o, nl_r, c1_i, c1_r, mPush, mRv, G0_1, true_and, and_true, and_self, implies_true, List.length_nil, List.length_cons, Nat.reduceAdd, Nat.reduceLeDiff, Nat.zero_le, beq_self_eq_true, Nat.reduceBEq, decide_true, Bool.and_self, reduceCtorEq, ne_eq, not_true_eq_false, not_false_eq_true, false_implies, true_implies, Nat.reduceLT, Nat.reduceEqDiff, or_true, true_or, or_false, false_or, or_self, Int.reduceEq, Int.reduceNe, Int.reduceLT, Int.reduceLE, Int.reduceAdd, Int.reduceSub, Int.reduceMul, Int.reduceNeg, Int.reduceToNat, if_true, if_false, Classical.not_not, Int.cast_ofNat_Int, kd0, rf0_0, rf0_1, rf0_2, rf0_3, rf0_4, rf0_5, rf0_6, rf0_7, rf0_8, kd1, ct2 gC1 hwf hc1, if_pos p1, ct75, if_pos p2, ct74, if_neg p3]
        refine ⟨_, rfl, ?_⟩
        simp (disch := first | omega | exact rfl) only [x125_0, x125_1, x125_2, x125_5, x125_6, x125_7, x125_8, x125_9, x125_10, x125_13, x125_15, x125_17, x125_20, x125_22, isF, isK, isH, mK, nl_i, nl_n, nl_o, nl_r, c1_i, c1_r, mPush, mRv, G0_1, true_and, and_true, and_self, implies_true, List.length_nil, List.length_cons, Nat.reduceAdd, Nat.reduceLeDiff, Nat.zero_le, beq_self_eq_true, Nat.reduceBEq, decide_true, Bool.and_self, reduceCtorEq, ne_eq, not_true_eq_false, not_false_eq_true, false_implies, true_implies, Nat.reduceLT, Nat.reduceEqDiff, or_true, true_or, or_false, false_or, or_self, Int.reduceEq, Int.reduceNe, Int.reduceLT, Int.reduceLE, Int.reduceAdd, Int.reduceSub, Int.reduceMul, Int.reduceNeg, Int.reduceToNat, if_true, if_false, Classical.not_not, Int.cast_ofNat_Int, kd176, kd177, kd178, kd179, kd180, kd181, kd182, kd183, kd184, kd185, kd186, kd187, kd188, kd189, kd190, kd191, kd192, kd193, kd194, rf176_1, rf176_2, rf176_4, rf176_5, rf176_6, rf176_8, rf176_9, rf176_10, rf176_11, rf176_12, rf176_13, rf176_14, rf176_16, rf176_17, rf176_18, rf176_19, rf176_20, rf176_23, ct103 hwfu, e177u, hS, er]
        exact hINV
    · have er : rShow S a b d 0 = -1 := by
        unfold rShow
        rw [if_pos (fun z => p2 z.2)]
      simp (disch := first | omega | exact rfl) only [x60_0, x60_1, x60_4, x60_5, x60_8, x60_11, x60_12, x60_15, x60_18, x60_19, isF, isK, isH, mK, nl_i, nl_n, nl_o, nl_r, c1_i, c1_r, mPush, mRv, G0_1, true_and, and_true, and_self, implies_true, List.length_nil, List.length_cons, Nat.reduceAdd, Nat.reduceLeDiff, Nat.zero_le, beq_self_eq_true, Nat.reduceBEq, decide_true, Bool.and_self, reduceCtorEq, ne_eq, not_true_eq_false, not_false_eq_true, false_implies, true_implies, Nat.reduceLT, Nat.reduceEqDiff, or_true, true_or, or_false, false_or, or_self, Int.reduceEq, Int.reduceNe, Int.reduceLT, Int.reduceLE, Int.reduceAdd, Int.reduceSub, Int.reduceMul, Int.reduceNeg, Int.reduceToNat, if_true, if_false, Classical.not_not, Int.cast_ofNat_Int, kd0, rf0_0, rf0_1, rf0_2, rf0_3, rf0_4, rf0_5, rf0_6, rf0_7, rf0_8, kd1, ct2 gC1 hwf hc1, if_pos p1, ct75, if_neg p2]
      refine ⟨_, rfl, ?_⟩
      simp (disch := first | omega | exact rfl) only [x125_0, x125_1, x125_2, x125_5, x125_6, x125_7, x125_8, x125_9, x125_10, x125_13, x125_15, x125_17, x125_20, x125_22, isF, isK, isH, mK, nl_i, nl_n, nl_o, nl_r, c1_i, c1_r, mPush, mRv, G0_1, true_and, and_true, and_self, implies_true, List.length_nil, List.length_cons, Nat.reduceAdd, Nat.reduceLeDiff, Nat.zero_le, beq_self_eq_true, Nat.reduceBEq, decide_true, Bool.and_self, reduceCtorEq, ne_eq, not_true_eq_false, not_false_eq_true, false_implies, true_implies, Nat.reduceLT, Nat.reduceEqDiff, or_true, true_or, or_false, false_or, or_self, Int.reduceEq, Int.reduceNe, Int.reduceLT, Int.reduceLE, Int.reduceAdd, Int.reduceSub, Int.reduceMul, Int.reduceNeg, Int.reduceToNat, if_true, if_false, Classical.not_not, Int.cast_ofNat_Int, kd176, kd177, kd178, kd179, kd180, kd181, kd182, kd183, kd184, kd185, kd186, kd187, kd188, kd189, kd190, kd191, kd192, kd193, kd194, rf176_1, rf176_2, rf176_4, rf176_5, rf176_6, rf176_8, rf176_9, rf176_10, rf176_11, rf176_12, rf176_13, rf176_14, rf176_16, rf176_17, rf176_18, rf176_19, rf176_20, rf176_23, ct103 hwfu, e177u, hS, er]
      exact hINV
  · have er : rShow S a b d 0 = -1 := by
      unfold rShow
      rw [if_pos (fun z => p1 z.1)]
    simp (disch := first | omega | exact rfl) only [x60_0, x60_1, x60_4, x60_5, x60_8, x60_18, x60_19, isF, isK, isH, mK, nl_i, nl_n, nl_o, nl_r, c1_i, c1_r, mPush, mRv, G0_1, true_and, and_true, and_self, implies_true, List.length_nil, List.length_cons, Nat.reduceAdd, Nat.reduceLeDiff, Nat.zero_le, beq_self_eq_true, Nat.reduceBEq, decide_true, Bool.and_self, reduceCtorEq, ne_eq, not_true_eq_false, not_false_eq_true, false_implies, true_implies, Nat.reduceLT, Nat.reduceEqDiff, or_true, true_or, or_false, false_or, or_self, Int.reduceEq, Int.reduceNe, Int.reduceLT, Int.reduceLE, Int.reduceAdd, Int.reduceSub, Int.reduceMul, Int.reduceNeg, Int.reduceToNat, if_true, if_false, Classical.not_not, Int.cast_ofNat_Int, kd0, rf0_0, rf0_1, rf0_2, rf0_3, rf0_4, rf0_5, rf0_6, rf0_7, rf0_8, kd1, ct2 gC1 hwf hc1, if_neg p1]
    refine ⟨_, rfl, ?_⟩
    simp (disch := first | omega | exact rfl) only [x125_0, x125_1, x125_2, x125_5, x125_6, x125_7, x125_8, x125_9, x125_10, x125_13, x125_15, x125_17, x125_20, x125_22, isF, isK, isH, mK, nl_i, nl_n, nl_o, nl_r, c1_i, c1_r, mPush, mRv, G0_1, true_and, and_true, and_self, implies_true, List.length_nil, List.length_cons, Nat.reduceAdd, Nat.reduceLeDiff, Nat.zero_le, beq_self_eq_true, Nat.reduceBEq, decide_true, Bool.and_self, reduceCtorEq, ne_eq, not_true_eq_false, not_false_eq_true, false_implies, true_implies, Nat.reduceLT, Nat.reduceEqDiff, or_true, true_or, or_false, false_or, or_self, Int.reduceEq, Int.reduceNe, Int.reduceLT, Int.reduceLE, Int.reduceAdd, Int.reduceSub, Int.reduceMul, Int.reduceNeg, Int.reduceToNat, if_true, if_false, Classical.not_not, Int.cast_ofNat_Int, kd176, kd177, kd178, kd179, kd180, kd181, kd182, kd183, kd184, kd185, kd186, kd187, kd188, kd189, kd190, kd191, kd192, kd193, kd194, rf176_1, rf176_2, rf176_4, rf176_5, rf176_6, rf176_8, rf176_9, rf176_10, rf176_11, rf176_12, rf176_13, rf176_14, rf176_16, rf176_17, rf176_18, rf176_19, rf176_20, rf176_23, ct103 hwfu, e177u, hS, er]
    exact hINV
end FRED
