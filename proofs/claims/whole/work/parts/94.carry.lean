/-- a memory with the pad of another one -/
def pcM (μ ν : MU) : MU := fun x => if x = 128 ∨ x = 130 then μ x else ν x
theorem pcM_ne {μ ν : MU} {x : Nat} (h1 : ¬ x = 128) (h2 : ¬ x = 130) : pcM μ ν x = ν x := by
  unfold pcM; rw [if_neg (fun z => z.elim h1 h2)]
theorem pcM_p {μ ν : MU} {x : Nat} (h : x = 128 ∨ x = 130) : pcM μ ν x = μ x := by unfold pcM; rw [if_pos h]
theorem keepM_ne {μ : MU} {x : Nat} (h : ¬ x = 49) : keepM μ x = μ x := by
  unfold keepM
  by_cases p : μ 49 2 < 6
  · rw [if_pos p, mUp_ne h]
  · rw [if_neg p, mUp_ne h]
theorem keepM_49 {μ ν : MU} (h : μ 49 = ν 49) : keepM μ 49 = keepM ν 49 := by
  funext j
  unfold keepM
  rw [h]
  by_cases p : ν 49 2 < 6
  · rw [if_pos p, if_pos p, mUp_at, mUp_at, h]
  · rw [if_neg p, if_neg p, mUp_at, mUp_at, h]
/-- the reference's memory behind its records, with the rest as it was -/
def prM (ν μ : MU) : MU := fun x => if x = 128 ∨ x = 130 ∨ x = 194 then ν x else if x = 176 then (fun j => if j = 0 ∨ j = 3 then μ 176 j else ν 176 j) else μ x
section CAR4
variable {E : ME}
theorem op67 {μ : MU} (hI : INV μ) : OPS E 67 [none] 138 [none] μ := by
  obtain ⟨hwf, hc, hh, hl, hp⟩ := id hI
  have h1 := hh.2.2.1
  have h2 := hh.1
  obtain ⟨L, hL⟩ := Int.eq_ofNat_of_zero_le hp.1.1
  have hL80 : L ≤ 80 := by have := hp.1.2; omega
  have hT : ∀ i, i < L → 33 ≤ μ 129 i ∧ μ 129 i ≤ 126 := fun i hi => (hp.2.2 i (by omega) (by omega)).2
  have hb := pAt_b μ
  unfold OPS
  simp (disch := first | omega | exact rfl) only [x67_0, x67_1, x67_4, isF, isK, isH, mK, nl_i, nl_n, nl_o, nl_r, c1_i, c1_r, mPush, mRv, G0_1, true_and, and_true, and_self, implies_true, List.length_nil, List.length_cons, Nat.reduceAdd, Nat.reduceLeDiff, Nat.zero_le, beq_self_eq_true, Nat.reduceBEq, decide_true, Bool.and_self, reduceCtorEq, ne_eq, not_true_eq_false, not_false_eq_true, false_implies, true_implies, Nat.reduceLT, Nat.reduceEqDiff, or_true, true_or, or_false, false_or, or_self, Int.reduceEq, Int.reduceNe, Int.reduceLT, Int.reduceLE, Int.reduceAdd, Int.reduceSub, Int.reduceMul, Int.reduceNeg, Int.reduceToNat, if_true, if_false, Classical.not_not, Int.cast_ofNat_Int, kd0, rf0_0, rf0_1, rf0_2, rf0_3, rf0_4, rf0_5, rf0_6, rf0_7, rf0_8, kd128]
  refine ct20 hL80 hT hL (fun i hi => rfl) (fun μ1 k1 => ?_)
  by_cases q : rd (μ 129) L (L + 1) 0 = -6
  · obtain ⟨M, hM⟩ := rd_GD (T := μ 129) (L := L) (L + 1) 0 (by omega) (by simp only [oA]; omega) q (fun i hi => by omega)
    have hM1 := hM.1
    have e49 : μ1 49 = μ 49 := k1.1 49 (by omega) (by omega)
    have epA : pAt μ1 = pAt μ := by unfold pAt rAt; rw [e49]
    have hc1 : cRel μ1 1 (μ 177) := cRel_fr (fun x z1 z2 => k1.1 x (by omega) (by omega)) hc
    simp (disch := first | omega | exact rfl) only [x67_7, x67_9, x67_15, x67_16, x67_19, x67_20, x67_23, isF, isK, isH, mK, nl_i, nl_n, nl_o, nl_r, c1_i, c1_r, mPush, mRv, G0_1, true_and, and_true, and_self, implies_true, List.length_nil, List.length_cons, Nat.reduceAdd, Nat.reduceLeDiff, Nat.zero_le, beq_self_eq_true, Nat.reduceBEq, decide_true, Bool.and_self, reduceCtorEq, ne_eq, not_true_eq_false, not_false_eq_true, false_implies, true_implies, Nat.reduceLT, Nat.reduceEqDiff, or_true, true_or, or_false, false_or, or_self, Int.reduceEq, Int.reduceNe, Int.reduceLT, Int.reduceLE, Int.reduceAdd, Int.reduceSub, Int.reduceMul, Int.reduceNeg, Int.reduceToNat, if_true, if_false, Classical.not_not, Int.cast_ofNat_Int, kd0, rf0_0, rf0_1, rf0_2, rf0_3, rf0_4, rf0_5, rf0_6, rf0_7, rf0_8, kd49, kd50, rf49_0, rf50_0, rf50_1, rf50_2, rf50_3, rf50_4, rf50_5, rf50_6, kd1, q]
    refine ct15 (by rw [e49]; exact h1) (by rw [e49]; exact h2) (fun μ2 k2 k3 => ?_)
    have epA' : rAt μ1 (μ1 49 2).toNat = pAt μ := epA
    rw [epA'] at k2 k3
    have hc2 : cRel μ2 1 (μ 177) := cRel_fr (fun x z1 z2 => k2 x (by omega)) hc1
    simp (disch := first | omega | exact rfl) only [x67_26, x67_27, x68_0, x68_1, x68_2, x68_3, x68_6, x68_7, x68_10, x68_11, isF, isK, isH, mK, nl_i, nl_n, nl_o, nl_r, c1_i, c1_r, mPush, mRv, G0_1, true_and, and_true, and_self, implies_true, List.length_nil, List.length_cons, Nat.reduceAdd, Nat.reduceLeDiff, Nat.zero_le, beq_self_eq_true, Nat.reduceBEq, decide_true, Bool.and_self, reduceCtorEq, ne_eq, not_true_eq_false, not_false_eq_true, false_implies, true_implies, Nat.reduceLT, Nat.reduceEqDiff, or_true, true_or, or_false, false_or, or_self, Int.reduceEq, Int.reduceNe, Int.reduceLT, Int.reduceLE, Int.reduceAdd, Int.reduceSub, Int.reduceMul, Int.reduceNeg, Int.reduceToNat, if_true, if_false, Classical.not_not, Int.cast_ofNat_Int, kd0, rf0_0, rf0_1, rf0_2, rf0_3, rf0_4, rf0_5, rf0_6, rf0_7, rf0_8, kd128]
    have hPD : PD (mUp μ2 128 3 0) (μ 129) L (if 0 < M then oA (μ 129) L 0 else L) := by
      rw [if_pos (by omega)]
      refine ⟨by rw [mUp_nj (by omega), k2 128 (by omega), k1.2]; exact hL, fun i hi => by rw [mUp_ne (by omega), k2 129 (by omega), k1.1 129 (by omega) (by omega)], by rw [mUp_eq]; rfl⟩
    refine zq68 hL80 hT hM (μ0 := μ2) M 0 _ (μ 177) (by omega) hwf (cRel_fr (fun x z1 z2 => mUp_ne (by omega)) hc2) hPD (fun x z1 z2 z3 => mUp_ne z2) (fun μ3 k4 k5 => ?_)
    obtain ⟨cn, hcn⟩ : ∃ cn, co (μ 129) L M 0 (μ 177) = cn := ⟨_, rfl⟩
    have hws := co_wf (T := μ 129) (L := L) M 0 (μ 177) hwf
    have hle := co_le (T := μ 129) (L := L) M 0 (μ 177)
    have e3_49 : μ3 49 = μ 49 := by rw [k4 49 (by omega) (by omega) (by omega), k2 49 (by omega)]; exact e49
    simp (disch := first | omega | exact rfl) only [x67_30, x67_31, x67_32, x67_35, isF, isK, isH, mK, nl_i, nl_n, nl_o, nl_r, c1_i, c1_r, mPush, mRv, G0_1, true_and, and_true, and_self, implies_true, List.length_nil, List.length_cons, Nat.reduceAdd, Nat.reduceLeDiff, Nat.zero_le, beq_self_eq_true, Nat.reduceBEq, decide_true, Bool.and_self, reduceCtorEq, ne_eq, not_true_eq_false, not_false_eq_true, false_implies, true_implies, Nat.reduceLT, Nat.reduceEqDiff, or_true, true_or, or_false, false_or, or_self, Int.reduceEq, Int.reduceNe, Int.reduceLT, Int.reduceLE, Int.reduceAdd, Int.reduceSub, Int.reduceMul, Int.reduceNeg, Int.reduceToNat, if_true, if_false, Classical.not_not, Int.cast_ofNat_Int, kd0, rf0_0, rf0_1, rf0_2, rf0_3, rf0_4, rf0_5, rf0_6, rf0_7, rf0_8, kd49, kd50, rf49_0, rf50_0, rf50_1, rf50_2, rf50_3, rf50_4, rf50_5, rf50_6]
    have hB : cB μ (keepM (pcM μ μ3)) (co (μ 129) L M 0 (μ 177)).2 := by
      refine cB_of (μ1 := pcM μ μ2) hc h1 h2 (fun x z => ?_) ?_ (fun x z => ?_) (cRel_fr (fun x z1 z2 => pcM_ne (by omega) (by omega)) k5)
      · by_cases w : x = 128 ∨ x = 130
        · exact pcM_p w
        · rw [pcM_ne (fun y => w (Or.inl y)) (fun y => w (Or.inr y)), k2 x z, k1.1 x (fun y => w (Or.inl y)) (fun y => w (Or.inr y))]
      · unfold cSame at k3 ⊢
        simp (disch := omega) only [pcM_ne]
        have e1 : ∀ x, x ≤ 11 → μ1 x = μ x := fun x hx => k1.1 x (by omega) (by omega)
        rw [e1 1 (by omega), e1 (1 + 1) (by omega), e1 (1 + 2) (by omega), e1 (1 + 3) (by omega), e1 (1 + 4) (by omega), e1 (1 + 5) (by omega), e1 (1 + 6) (by omega), e1 (1 + 7) (by omega), e1 (1 + 8) (by omega), e1 (1 + 9) (by omega), e1 (1 + 10) (by omega)] at k3
        exact k3
      · by_cases w : x = 128 ∨ x = 130
        · rw [pcM_p w, pcM_p w]
        · rw [pcM_ne (fun y => w (Or.inl y)) (fun y => w (Or.inr y)), pcM_ne (fun y => w (Or.inl y)) (fun y => w (Or.inr y))]
          exact k4 x (by omega) (fun y => w (Or.inl y)) (fun y => w (Or.inr y))
    rw [ct16 (by rw [e3_49]; exact h1) (by rw [e3_49]; exact h2)]
    simp (disch := first | omega | exact rfl) only [x67_38, x67_39, x67_42, x67_43, x67_46, x67_47, isF, isK, isH, mK, nl_i, nl_n, nl_o, nl_r, c1_i, c1_r, mPush, mRv, G0_1, true_and, and_true, and_self, implies_true, List.length_nil, List.length_cons, Nat.reduceAdd, Nat.reduceLeDiff, Nat.zero_le, beq_self_eq_true, Nat.reduceBEq, decide_true, Bool.and_self, reduceCtorEq, ne_eq, not_true_eq_false, not_false_eq_true, false_implies, true_implies, Nat.reduceLT, Nat.reduceEqDiff, or_true, true_or, or_false, false_or, or_self, Int.reduceEq, Int.reduceNe, Int.reduceLT, Int.reduceLE, Int.reduceAdd, Int.reduceSub, Int.reduceMul, Int.reduceNeg, Int.reduceToNat, if_true, if_false, Classical.not_not, Int.cast_ofNat_Int, kd0, rf0_0, rf0_1, rf0_2, rf0_3, rf0_4, rf0_5, rf0_6, rf0_7, rf0_8, kd128]
    refine ⟨_, rfl, ?_⟩
    rw [hcn] at hB hws hle k5 ⊢
    obtain ⟨μc, hμc⟩ : ∃ μc, mUp (keepM μ3) 128 2 0 = μc := ⟨_, rfl⟩
    obtain ⟨μv, hμv⟩ : ∃ μv, keepM (pcM μ μ3) = μv := ⟨_, rfl⟩
    rw [hμv] at hB
    rw [hμc]
    have ecv : ∀ x, ¬ x = 128 → ¬ x = 130 → μc x = μv x := by
      intro x z1 z2
      rw [← hμc, ← hμv, mUp_ne z1]
      by_cases w : x = 49
      · rw [w]; exact keepM_49 (pcM_ne (by omega) (by omega)).symm
      · rw [keepM_ne w, keepM_ne w, pcM_ne z1 z2]
    have ec128 : μc 128 2 = 0 := by rw [← hμc, mUp_eq]
    have ecm : ∀ x, (x < pAt μ ∨ pAt μ + 10 < x) → ¬ x = 49 → ¬ x = 128 → ¬ x = 130 → (x < 1 ∨ 11 < x) → μc x = μ x := by
      intro x z1 z2 z3 z4 z5
      rw [ecv x z3 z4]; exact hB.1 x z1 z5 z2
    have ec176 : μc 176 = μ 176 := ecm 176 (by omega) (by omega) (by omega) (by omega) (by omega)
    have ec181 : μc 181 = μ 181 := ecm 181 (by omega) (by omega) (by omega) (by omega) (by omega)
    have ec177 : μc 177 = μ 177 := ecm 177 (by omega) (by omega) (by omega) (by omega) (by omega)
    simp (disch := first | omega | exact rfl) only [x138_0, x138_1, x138_2, x138_5, x138_6, isF, isK, isH, mK, nl_i, nl_n, nl_o, nl_r, c1_i, c1_r, mPush, mRv, G0_1, true_and, and_true, and_self, implies_true, List.length_nil, List.length_cons, Nat.reduceAdd, Nat.reduceLeDiff, Nat.zero_le, beq_self_eq_true, Nat.reduceBEq, decide_true, Bool.and_self, reduceCtorEq, ne_eq, not_true_eq_false, not_false_eq_true, false_implies, true_implies, Nat.reduceLT, Nat.reduceEqDiff, or_true, true_or, or_false, false_or, or_self, Int.reduceEq, Int.reduceNe, Int.reduceLT, Int.reduceLE, Int.reduceAdd, Int.reduceSub, Int.reduceMul, Int.reduceNeg, Int.reduceToNat, if_true, if_false, Classical.not_not, Int.cast_ofNat_Int, kd176, kd177, kd178, kd179, kd180, kd181, kd182, kd183, kd184, kd185, kd186, kd187, kd188, kd189, kd190, kd191, kd192, kd193, kd194, rf176_1, rf176_2, rf176_4, rf176_5, rf176_6, rf176_8, rf176_9, rf176_10, rf176_11, rf176_12, rf176_13, rf176_14, rf176_16, rf176_17, rf176_18, rf176_19, rf176_20, rf176_23]
    refine ct134 (T := μ 129) hL80 hT (by rw [mUp_nj (by omega), ec176, hp.2.1]; exact hL) (fun i hi => by rw [mUp_ne (by omega), ec181]; exact ((hp.2.2 i (by omega) (by omega)).1).symm) (fun M' μ4 hM' hM40 m1 m24 mO _ => ?_) (fun μ4 y _ => absurd q y)
    have hMM := GD_u hM' hM
    subst hMM
    have e3 : μ4 176 3 = μ 176 3 := by rw [m1.2 3 (by omega) (by omega) (by omega), mUp_nj (by omega), ec176]
    have h3 := INV_3 hI
    obtain ⟨n, hn⟩ := Int.eq_ofNat_of_zero_le h3.1
    simp (disch := first | omega | exact rfl) only [x138_9, x138_11, x138_17, x138_18, isF, isK, isH, mK, nl_i, nl_n, nl_o, nl_r, c1_i, c1_r, mPush, mRv, G0_1, true_and, and_true, and_self, implies_true, List.length_nil, List.length_cons, Nat.reduceAdd, Nat.reduceLeDiff, Nat.zero_le, beq_self_eq_true, Nat.reduceBEq, decide_true, Bool.and_self, reduceCtorEq, ne_eq, not_true_eq_false, not_false_eq_true, false_implies, true_implies, Nat.reduceLT, Nat.reduceEqDiff, or_true, true_or, or_false, false_or, or_self, Int.reduceEq, Int.reduceNe, Int.reduceLT, Int.reduceLE, Int.reduceAdd, Int.reduceSub, Int.reduceMul, Int.reduceNeg, Int.reduceToNat, if_true, if_false, Classical.not_not, Int.cast_ofNat_Int, kd176, kd177, kd178, kd179, kd180, kd181, kd182, kd183, kd184, kd185, kd186, kd187, kd188, kd189, kd190, kd191, kd192, kd193, kd194, rf176_1, rf176_2, rf176_4, rf176_5, rf176_6, rf176_8, rf176_9, rf176_10, rf176_11, rf176_12, rf176_13, rf176_14, rf176_16, rf176_17, rf176_18, rf176_19, rf176_20, rf176_23]
    refine ct84 (n := n) (by omega) (by rw [e3]; exact hn) (fun μ5 n1 n2 n3 n4 n5 => ?_)
    simp (disch := first | omega | exact rfl) only [x138_21, x138_22, x138_23, x138_26, x138_27, isF, isK, isH, mK, nl_i, nl_n, nl_o, nl_r, c1_i, c1_r, mPush, mRv, G0_1, true_and, and_true, and_self, implies_true, List.length_nil, List.length_cons, Nat.reduceAdd, Nat.reduceLeDiff, Nat.zero_le, beq_self_eq_true, Nat.reduceBEq, decide_true, Bool.and_self, reduceCtorEq, ne_eq, not_true_eq_false, not_false_eq_true, false_implies, true_implies, Nat.reduceLT, Nat.reduceEqDiff, or_true, true_or, or_false, false_or, or_self, Int.reduceEq, Int.reduceNe, Int.reduceLT, Int.reduceLE, Int.reduceAdd, Int.reduceSub, Int.reduceMul, Int.reduceNeg, Int.reduceToNat, if_true, if_false, Classical.not_not, Int.cast_ofNat_Int, kd176, kd177, kd178, kd179, kd180, kd181, kd182, kd183, kd184, kd185, kd186, kd187, kd188, kd189, kd190, kd191, kd192, kd193, kd194, rf176_1, rf176_2, rf176_4, rf176_5, rf176_6, rf176_8, rf176_9, rf176_10, rf176_11, rf176_12, rf176_13, rf176_14, rf176_16, rf176_17, rf176_18, rf176_19, rf176_20, rf176_23]
    have e177 : (mUp μ5 176 7 0) 177 = μ 177 := by rw [mUp_ne (by omega), n1 177 (by omega) (by omega), m1.1 177 (by omega) (by omega), mUp_ne (by omega)]; exact ec177
    have eself : mUp μ5 176 7 0 = mRow (mUp μ5 176 7 0) (μ 177) := by
      have := mRow_self (μ := mUp μ5 176 7 0)
      rw [e177] at this; exact this.symm
    rw [eself]
    refine zq138 (T := μ 129) (L := L) hL80 hM' (by rw [mUp_nj (by omega), n2 24 (by omega)]; exact m24) (fun i hi => ?_) M' 0 (μ 177) (by omega) hwf ?_
    · have := mO i hi
      unfold OT at this ⊢
      rw [mUp_ne (by omega), n1 194 (by omega) (by omega)]; exact this
    rw [hcn]
    refine ⟨rfl, rfl, ?_⟩
    have e6v : ∀ x, ¬ x = 128 → ¬ x = 130 → ¬ x = 194 → ¬ x = 176 → ¬ x = 178 → (mUp μ5 176 7 0) x = μv x := by
      intro x z1 z2 z3 z4 z5
      rw [mUp_ne z4, n1 x z4 z5, m1.1 x z4 z3, mUp_ne z4]; exact ecv x z1 z2
    have ev176 : μv 176 = μ 176 := by rw [← ecv 176 (by omega) (by omega)]; exact ec176
    have ev177 : μv 177 = μ 177 := by rw [← ecv 177 (by omega) (by omega)]; exact ec177
    have e4_177 : μ4 177 = μv 177 := by rw [m1.1 177 (by omega) (by omega), mUp_ne (by omega)]; exact ecv 177 (by omega) (by omega)
    have e4_178 : μ4 178 = μv 178 := by rw [m1.1 178 (by omega) (by omega), mUp_ne (by omega)]; exact ecv 178 (by omega) (by omega)
    have hR : recs μv (prM μv (mUp μ5 176 7 0)) := by
      have hn3 : (μv 176 3).toNat = n := by rw [ev176, hn, Int.toNat_natCast]
      have hn3' : μv 176 3 = n := by rw [ev176]; exact hn
      have p178 : prM μv (mUp μ5 176 7 0) 178 = μ5 178 := by
        unfold prM; rw [if_neg (by omega), if_neg (by omega), mUp_ne (by omega)]
      refine ⟨fun x z1 z2 => ?_, fun j z1 z2 => ?_, ?_, ?_, ?_⟩
      · unfold prM
        by_cases w : x = 128 ∨ x = 130 ∨ x = 194
        · rw [if_pos w]
        · rw [if_neg w, if_neg z1]
          exact e6v x (fun y => w (Or.inl y)) (fun y => w (Or.inr (Or.inl y))) (fun y => w (Or.inr (Or.inr y))) z1 z2
      · show (if (176 : Nat) = 128 ∨ (176 : Nat) = 130 ∨ (176 : Nat) = 194 then μv 176 else if (176 : Nat) = 176 then (fun j => if j = 0 ∨ j = 3 then (mUp μ5 176 7 0) 176 j else μv 176 j) else (mUp μ5 176 7 0) 176) j = μv 176 j
        rw [if_neg (by omega), if_pos rfl]
        show (if j = 0 ∨ j = 3 then (mUp μ5 176 7 0) 176 j else μv 176 j) = μv 176 j
        rw [if_neg (fun y => y.elim z1 z2)]
      · have e : prM μv (mUp μ5 176 7 0) 176 3 = μ5 176 3 := by
          show (if (176 : Nat) = 128 ∨ (176 : Nat) = 130 ∨ (176 : Nat) = 194 then μv 176 else if (176 : Nat) = 176 then (fun j => if j = 0 ∨ j = 3 then (mUp μ5 176 7 0) 176 j else μv 176 j) else (mUp μ5 176 7 0) 176) 3 = _
          rw [if_neg (by omega), if_pos rfl]
          show (if (3 : Nat) = 0 ∨ (3 : Nat) = 3 then (mUp μ5 176 7 0) 176 3 else μv 176 3) = _
          rw [if_pos (by omega), mUp_nj (by omega)]
        rw [e, n3, hn3']
        by_cases w : n < 6
        · rw [if_pos w, if_pos (by omega)]
        · rw [if_neg w, if_neg (by omega)]
      · intro z i
        rw [p178, hn3, n4 (by omega) i, e4_177, e4_178]
      · intro z i hi
        rw [p178, n5 (by omega) i hi, e4_177, e4_178]
    have hIK := INV_keep hI hws hB hR
    refine INV_pad hIK (fun x z1 z2 z3 z4 z5 z6 => ?_) ?_ ⟨?_, ?_, fun i hi hj => ?_⟩
    · by_cases w : x = 177
      · rw [w, mRow_177, mRow_177]
      · rw [mRow_ne w, mRow_ne w]
        unfold prM
        rw [if_neg (fun y => y.elim z1 (fun y => y.elim z3 z6)), if_neg z4]
    · rw [mRow_ne (by omega), mRow_ne (by omega)]
      show _ = (if (176 : Nat) = 128 ∨ (176 : Nat) = 130 ∨ (176 : Nat) = 194 then μv 176 else if (176 : Nat) = 176 then (fun j => if j = 0 ∨ j = 3 then (mUp μ5 176 7 0) 176 j else μv 176 j) else (mUp μ5 176 7 0) 176) 3
      rw [if_neg (by omega), if_pos rfl]
      show _ = (if (3 : Nat) = 0 ∨ (3 : Nat) = 3 then (mUp μ5 176 7 0) 176 3 else μv 176 3)
      rw [if_pos (by omega)]
    · rw [mRow_ne (by omega), mUp_ne (by omega), n1 128 (by omega) (by omega), m1.1 128 (by omega) (by omega), mUp_ne (by omega), ec128]; omega
    · rw [mRow_ne (by omega), mRow_ne (by omega), mUp_eq, mUp_ne (by omega), n1 128 (by omega) (by omega), m1.1 128 (by omega) (by omega), mUp_ne (by omega), ec128]
    · rw [mRow_ne (by omega), mUp_ne (by omega), n1 128 (by omega) (by omega), m1.1 128 (by omega) (by omega), mUp_ne (by omega), ec128] at hj
      omega
  · have hI1 : INV μ1 := INV_fr hI ⟨fun x hx => k1.1 x (by omega) (by omega), k1.2, by rw [k1.1 176 (by omega) (by omega)], by rw [k1.1 176 (by omega) (by omega)]⟩
    simp (disch := first | omega | exact rfl) only [x67_7, x67_9, x67_12, x67_14, isF, isK, isH, mK, nl_i, nl_n, nl_o, nl_r, c1_i, c1_r, mPush, mRv, G0_1, true_and, and_true, and_self, implies_true, List.length_nil, List.length_cons, Nat.reduceAdd, Nat.reduceLeDiff, Nat.zero_le, beq_self_eq_true, Nat.reduceBEq, decide_true, Bool.and_self, reduceCtorEq, ne_eq, not_true_eq_false, not_false_eq_true, false_implies, true_implies, Nat.reduceLT, Nat.reduceEqDiff, or_true, true_or, or_false, false_or, or_self, Int.reduceEq, Int.reduceNe, Int.reduceLT, Int.reduceLE, Int.reduceAdd, Int.reduceSub, Int.reduceMul, Int.reduceNeg, Int.reduceToNat, if_true, if_false, Classical.not_not, Int.cast_ofNat_Int, q]
    refine ⟨_, rfl, ?_⟩
    simp (disch := first | omega | exact rfl) only [x138_0, x138_1, x138_2, x138_5, x138_6, isF, isK, isH, mK, nl_i, nl_n, nl_o, nl_r, c1_i, c1_r, mPush, mRv, G0_1, true_and, and_true, and_self, implies_true, List.length_nil, List.length_cons, Nat.reduceAdd, Nat.reduceLeDiff, Nat.zero_le, beq_self_eq_true, Nat.reduceBEq, decide_true, Bool.and_self, reduceCtorEq, ne_eq, not_true_eq_false, not_false_eq_true, false_implies, true_implies, Nat.reduceLT, Nat.reduceEqDiff, or_true, true_or, or_false, false_or, or_self, Int.reduceEq, Int.reduceNe, Int.reduceLT, Int.reduceLE, Int.reduceAdd, Int.reduceSub, Int.reduceMul, Int.reduceNeg, Int.reduceToNat, if_true, if_false, Classical.not_not, Int.cast_ofNat_Int, kd176, kd177, kd178, kd179, kd180, kd181, kd182, kd183, kd184, kd185, kd186, kd187, kd188, kd189, kd190, kd191, kd192, kd193, kd194, rf176_1, rf176_2, rf176_4, rf176_5, rf176_6, rf176_8, rf176_9, rf176_10, rf176_11, rf176_12, rf176_13, rf176_14, rf176_16, rf176_17, rf176_18, rf176_19, rf176_20, rf176_23]
    refine ct134 (T := μ 129) hL80 hT (by rw [mUp_nj (by omega), k1.1 176 (by omega) (by omega), hp.2.1]; exact hL) (fun i hi => by rw [mUp_ne (by omega), k1.1 181 (by omega) (by omega)]; exact ((hp.2.2 i (by omega) (by omega)).1).symm) (fun M μ2 _ _ m _ _ hr => absurd hr q) (fun μ2 _ m => ?_)
    simp (disch := first | omega | exact rfl) only [x138_9, x138_11, x138_14, x138_16, isF, isK, isH, mK, nl_i, nl_n, nl_o, nl_r, c1_i, c1_r, mPush, mRv, G0_1, true_and, and_true, and_self, implies_true, List.length_nil, List.length_cons, Nat.reduceAdd, Nat.reduceLeDiff, Nat.zero_le, beq_self_eq_true, Nat.reduceBEq, decide_true, Bool.and_self, reduceCtorEq, ne_eq, not_true_eq_false, not_false_eq_true, false_implies, true_implies, Nat.reduceLT, Nat.reduceEqDiff, or_true, true_or, or_false, false_or, or_self, Int.reduceEq, Int.reduceNe, Int.reduceLT, Int.reduceLE, Int.reduceAdd, Int.reduceSub, Int.reduceMul, Int.reduceNeg, Int.reduceToNat, if_true, if_false, Classical.not_not, Int.cast_ofNat_Int, q]
    refine INV_fr hI1 ⟨fun x hx => by rw [m.1 x (by omega) (by omega), mUp_ne (by omega)], by rw [m.1 128 (by omega) (by omega), mUp_ne (by omega)], by rw [m.2 3 (by omega) (by omega) (by omega), mUp_nj (by omega)], by rw [m.2 7 (by omega) (by omega) (by omega), mUp_nj (by omega)]⟩
end CAR4
