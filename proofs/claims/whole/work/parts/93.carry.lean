theorem oS_1 {T : Nat → Int} {L p : Nat} (h : (oS T L p).1 = 1) : p < L ∧ isL (T p) := by
  unfold oS at h
  by_cases q : p < L ∧ isL (T p)
  · exact q
  · rw [if_neg q] at h; exact absurd (show (0 : Int) = 1 from h) (by omega)
theorem oA_b {T : Nat → Int} {L M : Nat} (h : GD T L M) : ∀ k, k < M → 2 * k ≤ oA T L k ∧ oA T L k < L := by
  intro k
  induction k with
  | zero => intro hk; exact ⟨Nat.zero_le _, (oS_1 (h.2.1 0 hk)).1⟩
  | succ k ih =>
    intro hk
    have i := ih (by omega)
    have b := oS_b (T := T) (L := L) (p := oA T L k) (by omega)
    have w := h.2.1 k (by omega)
    have e : oA T L (k + 1) = (oS T L (oA T L k)).2 + 1 := rfl
    refine ⟨?_, (oS_1 (h.2.1 (k + 1) hk)).1⟩
    rcases b.2 with z | z
    · rw [z] at w; omega
    · omega
theorem rd_GD {T : Nat → Int} {L : Nat} : ∀ n k, L + 1 ≤ n + oA T L k → oA T L k ≤ L → rd T L n (oA T L k) = -6 → (∀ i, i < k → (oS T L (oA T L i)).1 = 1 ∧ (oS T L (oA T L i)).2 < L ∧ T (oS T L (oA T L i)).2 = 59) → ∃ M, GD T L M := by
  intro n
  induction n with
  | zero => intro k h1 h2; omega
  | succ n ih =>
    intro k h1 h2 hr hg
    have hb := oS_b (T := T) (L := L) h2
    rw [rd] at hr
    by_cases q : (oS T L (oA T L k)).1 = 1
    · rw [if_pos q] at hr
      by_cases z : (oS T L (oA T L k)).2 = L
      · refine ⟨k + 1, by omega, fun i hi => ?_, fun i hi => ?_, ?_⟩
        · by_cases w : i = k
          · rw [w]; exact q
          · exact (hg i (by omega)).1
        · exact (hg i (by omega)).2
        · rw [Nat.add_sub_cancel]; exact z
      · rw [if_neg z] at hr
        by_cases y : (oS T L (oA T L k)).2 < L ∧ T (oS T L (oA T L k)).2 = 59
        · rw [if_pos y] at hr
          have e : oA T L (k + 1) = (oS T L (oA T L k)).2 + 1 := rfl
          refine ih (k + 1) (by omega) (by omega) (by rw [e]; exact hr) (fun i hi => ?_)
          by_cases w : i = k
          · rw [w]; exact ⟨q, y⟩
          · exact hg i (by omega)
        · rw [if_neg y] at hr; omega
    · rw [if_neg q] at hr; omega
abbrev vO (T : Nat → Int) (L p : Nat) : Nat → Int := fun j => (oV T L p).getD j 0
/-- the orders from the one of number k on: how many were carried out, and what there is then -/
def co (T : Nat → Int) (L : Nat) : Nat → Nat → Row → Nat × Row
  | 0, k, s => (k, s)
  | n + 1, k, s => if rO s (T (oA T L k)) (vO T L (oA T L k)) = 0 then co T L n (k + 1) (lO s (T (oA T L k)) (vO T L (oA T L k))) else (k, s)
theorem co_wf {T : Nat → Int} {L : Nat} : ∀ n k s, wf s → wf (co T L n k s).2 := by
  intro n
  induction n with
  | zero => intro k s h; exact h
  | succ n ih =>
    intro k s h
    simp only [co]
    by_cases q : rO s (T (oA T L k)) (vO T L (oA T L k)) = 0
    · rw [if_pos q]; exact ih _ _ (wf_lO h q)
    · rw [if_neg q]; exact h
theorem co_le {T : Nat → Int} {L : Nat} : ∀ n k s, (co T L n k s).1 ≤ k + n := by
  intro n
  induction n with
  | zero => intro k s; exact Nat.le_refl _
  | succ n ih =>
    intro k s
    simp only [co]
    by_cases q : rO s (T (oA T L k)) (vO T L (oA T L k)) = 0
    · rw [if_pos q]; have := ih (k + 1) (lO s (T (oA T L k)) (vO T L (oA T L k))); omega
    · rw [if_neg q]; show k ≤ _; omega
section CAR3
variable {E : ME} {Q : Option MV → MG → MU → Prop} {T : Nat → Int} {L : Nat}
def F68 (μ0 μ : MU) : Prop := ∀ x, ¬ (1 ≤ x ∧ x ≤ 11) → ¬ x = 128 → ¬ x = 130 → μ x = μ0 x
theorem zq68 (hL : L ≤ 80) (hT : ∀ i, i < L → 33 ≤ T i ∧ T i ≤ 126) {M : Nat} (hM : GD T L M) {μ0 : MU} : ∀ (n k : Nat) (μ : MU) (s : Row), k + n = M → wf s → cRel μ 1 s → PD μ T L (if k < M then oA T L k else L) → F68 μ0 μ →
    (∀ μ' : MU, F68 μ0 μ' → cRel μ' 1 (co T L n k s).2 → Q (some (.inl ((co T L n k s).1 : Nat))) G0 μ') →
    Wp E 68 12 [some (.inr (.inr (.inl 0))), some (.inl k), some (.inl k)] [] G0 μ Q := by
  have hM40 : M ≤ 40 := by have := oA_b hM (M - 1) (by have := hM.1; omega); omega
  intro n
  induction n with
  | zero =>
    intro k μ s hk hw hs hP hF hQ
    have e1 : ¬ (80 : Int) ≤ k := by omega
    have e2 : (k : Int) < 80 := by omega
    rw [if_neg (by omega)] at hP
    have eS : oS T L L = (0, L) := if_neg (fun z => by omega)
    simp (disch := first | omega | exact rfl) only [x68_12, x68_13, x68_15, x68_18, x68_19, x68_22, isF, isK, isH, mK, nl_i, nl_n, nl_o, nl_r, c1_i, c1_r, mPush, mRv, G0_1, true_and, and_true, and_self, implies_true, List.length_nil, List.length_cons, Nat.reduceAdd, Nat.reduceLeDiff, Nat.zero_le, beq_self_eq_true, Nat.reduceBEq, decide_true, Bool.and_self, reduceCtorEq, ne_eq, not_true_eq_false, not_false_eq_true, false_implies, true_implies, Nat.reduceLT, Nat.reduceEqDiff, or_true, true_or, or_false, false_or, or_self, Int.reduceEq, Int.reduceNe, Int.reduceLT, Int.reduceLE, Int.reduceAdd, Int.reduceSub, Int.reduceMul, Int.reduceNeg, Int.reduceToNat, if_true, if_false, Classical.not_not, Int.cast_ofNat_Int, kd0, rf0_0, rf0_1, rf0_2, rf0_3, rf0_4, rf0_5, rf0_6, rf0_7, rf0_8, kd128, e1, e2]
    refine ct21 hL hT hP (fun q => ?_) (fun q μ1 k1 k2 => ?_)
    · rw [eS] at q; exact absurd (show (0 : Int) = 1 from q) (by omega)
    · simp (disch := first | omega | exact rfl) only [x68_25, x68_59, x68_60, isF, isK, isH, mK, nl_i, nl_n, nl_o, nl_r, c1_i, c1_r, mPush, mRv, G0_1, true_and, and_true, and_self, implies_true, List.length_nil, List.length_cons, Nat.reduceAdd, Nat.reduceLeDiff, Nat.zero_le, beq_self_eq_true, Nat.reduceBEq, decide_true, Bool.and_self, reduceCtorEq, ne_eq, not_true_eq_false, not_false_eq_true, false_implies, true_implies, Nat.reduceLT, Nat.reduceEqDiff, or_true, true_or, or_false, false_or, or_self, Int.reduceEq, Int.reduceNe, Int.reduceLT, Int.reduceLE, Int.reduceAdd, Int.reduceSub, Int.reduceMul, Int.reduceNeg, Int.reduceToNat, if_true, if_false, Classical.not_not, Int.cast_ofNat_Int]
      exact hQ μ1 (fun x z1 z2 z3 => by rw [k1.1 x z2 z3]; exact hF x z1 z2 z3) (cRel_fr (fun x z1 z2 => k1.1 x (by omega) (by omega)) hs)
  | succ n ih =>
    intro k μ s hk hw hs hP hF hQ
    have e1 : ¬ (80 : Int) ≤ k := by omega
    have e2 : (k : Int) < 80 := by omega
    have eI : (k : Int) + 1 = ((k + 1 : Nat) : Int) := by omega
    rw [if_pos (by omega)] at hP
    have hgk := hM.2.1 k (by omega)
    obtain ⟨hp, hl⟩ := oS_1 hgk
    have hb := oS_b (T := T) (L := L) (p := oA T L k) (by omega)
    simp only [co] at hQ
    simp (disch := first | omega | exact rfl) only [x68_12, x68_13, x68_15, x68_18, x68_19, x68_22, isF, isK, isH, mK, nl_i, nl_n, nl_o, nl_r, c1_i, c1_r, mPush, mRv, G0_1, true_and, and_true, and_self, implies_true, List.length_nil, List.length_cons, Nat.reduceAdd, Nat.reduceLeDiff, Nat.zero_le, beq_self_eq_true, Nat.reduceBEq, decide_true, Bool.and_self, reduceCtorEq, ne_eq, not_true_eq_false, not_false_eq_true, false_implies, true_implies, Nat.reduceLT, Nat.reduceEqDiff, or_true, true_or, or_false, false_or, or_self, Int.reduceEq, Int.reduceNe, Int.reduceLT, Int.reduceLE, Int.reduceAdd, Int.reduceSub, Int.reduceMul, Int.reduceNeg, Int.reduceToNat, if_true, if_false, Classical.not_not, Int.cast_ofNat_Int, kd0, rf0_0, rf0_1, rf0_2, rf0_3, rf0_4, rf0_5, rf0_6, rf0_7, rf0_8, kd128, e1, e2]
    refine ct21 hL hT hP (fun _ μ1 k1 k2 k3 _ k5 => ?_) (fun q => absurd hgk q)
    have hs1 : cRel μ1 1 s := cRel_fr (fun x z1 z2 => k1.1 x (by omega) (by omega)) hs
    simp (disch := first | omega | exact rfl) only [x68_25, x68_28, x68_29, isF, isK, isH, mK, nl_i, nl_n, nl_o, nl_r, c1_i, c1_r, mPush, mRv, G0_1, true_and, and_true, and_self, implies_true, List.length_nil, List.length_cons, Nat.reduceAdd, Nat.reduceLeDiff, Nat.zero_le, beq_self_eq_true, Nat.reduceBEq, decide_true, Bool.and_self, reduceCtorEq, ne_eq, not_true_eq_false, not_false_eq_true, false_implies, true_implies, Nat.reduceLT, Nat.reduceEqDiff, or_true, true_or, or_false, false_or, or_self, Int.reduceEq, Int.reduceNe, Int.reduceLT, Int.reduceLE, Int.reduceAdd, Int.reduceSub, Int.reduceMul, Int.reduceNeg, Int.reduceToNat, if_true, if_false, Classical.not_not, Int.cast_ofNat_Int, kd0, rf0_0, rf0_1, rf0_2, rf0_3, rf0_4, rf0_5, rf0_6, rf0_7, rf0_8]
    refine ct69 (V := vO T L (oA T L k)) hw hs1 k3 hl (fun j hj => k5 j (by unfold oV; rw [vls_n]; exact hj)) (fun μ2 v m1 m2 m3 m4 => ?_)
    have hF2 : F68 μ0 μ2 := fun x z1 z2 z3 => by rw [m1 x (by omega), k1.1 x z2 z3]; exact hF x z1 z2 z3
    have hP2 : PD μ2 T L (oS T L (oA T L k)).2 := ⟨by rw [m1 128 (by omega)]; exact k2.1, fun i hi => by rw [m1 129 (by omega)]; exact k2.2.1 i hi, by rw [m1 128 (by omega)]; exact k2.2.2⟩
    by_cases y : rO s (T (oA T L k)) (vO T L (oA T L k)) = 0
    · rw [if_pos y] at hQ m2
      have hv := m3 y
      have next : ∀ μ3 : MU, F68 μ0 μ3 → cRel μ3 1 (lO s (T (oA T L k)) (vO T L (oA T L k))) → PD μ3 T L (if k + 1 < M then oA T L (k + 1) else L) → Wp E 68 53 [some (.inr (.inr (.inl 0))), some (.inl ((k + 1 : Nat) : Int)), some (.inl k)] [] G0 μ3 Q := by
        intro μ3 f1 f2 f3
        simp (disch := first | omega | exact rfl) only [x68_53, isF, isK, isH, mK, nl_i, nl_n, nl_o, nl_r, c1_i, c1_r, mPush, mRv, G0_1, true_and, and_true, and_self, implies_true, List.length_nil, List.length_cons, Nat.reduceAdd, Nat.reduceLeDiff, Nat.zero_le, beq_self_eq_true, Nat.reduceBEq, decide_true, Bool.and_self, reduceCtorEq, ne_eq, not_true_eq_false, not_false_eq_true, false_implies, true_implies, Nat.reduceLT, Nat.reduceEqDiff, or_true, true_or, or_false, false_or, or_self, Int.reduceEq, Int.reduceNe, Int.reduceLT, Int.reduceLE, Int.reduceAdd, Int.reduceSub, Int.reduceMul, Int.reduceNeg, Int.reduceToNat, if_true, if_false, Classical.not_not, Int.cast_ofNat_Int, mWr_of]
        rw [x68_56, eI]
        exact ih (k + 1) μ3 _ (by omega) (wf_lO hw y) f2 f3 f1 hQ
      simp (disch := first | omega | exact rfl) only [x68_32, ct73, if_neg hv, x68_35, x68_40, x68_43, x68_44, x68_47, x68_49, isF, isK, isH, mK, nl_i, nl_n, nl_o, nl_r, c1_i, c1_r, mPush, mRv, G0_1, true_and, and_true, and_self, implies_true, List.length_nil, List.length_cons, Nat.reduceAdd, Nat.reduceLeDiff, Nat.zero_le, beq_self_eq_true, Nat.reduceBEq, decide_true, Bool.and_self, reduceCtorEq, ne_eq, not_true_eq_false, not_false_eq_true, false_implies, true_implies, Nat.reduceLT, Nat.reduceEqDiff, or_true, true_or, or_false, false_or, or_self, Int.reduceEq, Int.reduceNe, Int.reduceLT, Int.reduceLE, Int.reduceAdd, Int.reduceSub, Int.reduceMul, Int.reduceNeg, Int.reduceToNat, if_true, if_false, Classical.not_not, Int.cast_ofNat_Int, kd0, rf0_0, rf0_1, rf0_2, rf0_3, rf0_4, rf0_5, rf0_6, rf0_7, rf0_8, kd128, mWr_of, eI]
      refine ct25 hL hP2 (fun z => ?_) (fun z => ?_)
      · have hk1 : k + 1 < M := by
          by_cases w : k + 1 < M
          · exact w
          · have e : M - 1 = k := by omega
            have := hM.2.2.2
            rw [e] at this; omega
        simp (disch := first | omega | exact rfl) only [x68_52, isF, isK, isH, mK, nl_i, nl_n, nl_o, nl_r, c1_i, c1_r, mPush, mRv, G0_1, true_and, and_true, and_self, implies_true, List.length_nil, List.length_cons, Nat.reduceAdd, Nat.reduceLeDiff, Nat.zero_le, beq_self_eq_true, Nat.reduceBEq, decide_true, Bool.and_self, reduceCtorEq, ne_eq, not_true_eq_false, not_false_eq_true, false_implies, true_implies, Nat.reduceLT, Nat.reduceEqDiff, or_true, true_or, or_false, false_or, or_self, Int.reduceEq, Int.reduceNe, Int.reduceLT, Int.reduceLE, Int.reduceAdd, Int.reduceSub, Int.reduceMul, Int.reduceNeg, Int.reduceToNat, if_true, if_false, Classical.not_not, Int.cast_ofNat_Int]
        refine next _ (fun x z1 z2 z3 => by rw [mUp_ne z2]; exact hF2 x z1 z2 z3) (cRel_fr (fun x z1 z2 => mUp_ne (by omega)) m2) ?_
        rw [if_pos hk1]
        exact PD_at hP2
      · have hk1 : ¬ k + 1 < M := fun w => z (hM.2.2.1 k w)
        have e : M - 1 = k := by omega
        have e3 := hM.2.2.2
        rw [e] at e3
        simp (disch := first | omega | exact rfl) only [x68_52, isF, isK, isH, mK, nl_i, nl_n, nl_o, nl_r, c1_i, c1_r, mPush, mRv, G0_1, true_and, and_true, and_self, implies_true, List.length_nil, List.length_cons, Nat.reduceAdd, Nat.reduceLeDiff, Nat.zero_le, beq_self_eq_true, Nat.reduceBEq, decide_true, Bool.and_self, reduceCtorEq, ne_eq, not_true_eq_false, not_false_eq_true, false_implies, true_implies, Nat.reduceLT, Nat.reduceEqDiff, or_true, true_or, or_false, false_or, or_self, Int.reduceEq, Int.reduceNe, Int.reduceLT, Int.reduceLE, Int.reduceAdd, Int.reduceSub, Int.reduceMul, Int.reduceNeg, Int.reduceToNat, if_true, if_false, Classical.not_not, Int.cast_ofNat_Int]
        refine next μ2 hF2 m2 ?_
        rw [if_neg hk1, ← e3]; rw [e3]; rw [e3] at hP2; exact hP2
    · rw [if_neg y] at hQ m2
      have hv := m4 y
      simp (disch := first | omega | exact rfl) only [x68_32, ct73, if_pos hv, x68_35, x68_38, x68_39, isF, isK, isH, mK, nl_i, nl_n, nl_o, nl_r, c1_i, c1_r, mPush, mRv, G0_1, true_and, and_true, and_self, implies_true, List.length_nil, List.length_cons, Nat.reduceAdd, Nat.reduceLeDiff, Nat.zero_le, beq_self_eq_true, Nat.reduceBEq, decide_true, Bool.and_self, reduceCtorEq, ne_eq, not_true_eq_false, not_false_eq_true, false_implies, true_implies, Nat.reduceLT, Nat.reduceEqDiff, or_true, true_or, or_false, false_or, or_self, Int.reduceEq, Int.reduceNe, Int.reduceLT, Int.reduceLE, Int.reduceAdd, Int.reduceSub, Int.reduceMul, Int.reduceNeg, Int.reduceToNat, if_true, if_false, Classical.not_not, Int.cast_ofNat_Int]
      exact hQ μ2 hF2 m2
theorem zq138 (hL : L ≤ 80) {M : Nat} (hM : GD T L M) {μb : MU} (h24 : μb 176 24 = M) (hO : ∀ i, i < M → OT μb T L i (oA T L i)) : ∀ (n k : Nat) (s : Row), k + n = M → wf s →
    Q (some (.inl ((co T L n k s).1 : Nat))) G0 (mRow μb (co T L n k s).2) → Wp E 138 28 [some (.inr (.inr (.inl 176))), some (.inl k)] [] G0 (mRow μb s) Q := by
  have hM40 : M ≤ 40 := by have := oA_b hM (M - 1) (by have := hM.1; omega); omega
  intro n
  induction n with
  | zero =>
    intro k s hk hw hQ
    have e24 : mRow μb s 176 24 = M := by rw [mRow_ne (by omega)]; exact h24
    have e1 : (M : Int) ≤ k := by omega
    have e2 : ¬ (k : Int) < M := by omega
    have ek : (M : Int) = k := by omega
    simp (disch := first | omega | exact rfl) only [x138_28, x138_29, x138_30, x138_33, x138_61, x138_62, x138_65, isF, isK, isH, mK, nl_i, nl_n, nl_o, nl_r, c1_i, c1_r, mPush, mRv, G0_1, true_and, and_true, and_self, implies_true, List.length_nil, List.length_cons, Nat.reduceAdd, Nat.reduceLeDiff, Nat.zero_le, beq_self_eq_true, Nat.reduceBEq, decide_true, Bool.and_self, reduceCtorEq, ne_eq, not_true_eq_false, not_false_eq_true, false_implies, true_implies, Nat.reduceLT, Nat.reduceEqDiff, or_true, true_or, or_false, false_or, or_self, Int.reduceEq, Int.reduceNe, Int.reduceLT, Int.reduceLE, Int.reduceAdd, Int.reduceSub, Int.reduceMul, Int.reduceNeg, Int.reduceToNat, if_true, if_false, Classical.not_not, Int.cast_ofNat_Int, kd176, kd177, kd178, kd179, kd180, kd181, kd182, kd183, kd184, kd185, kd186, kd187, kd188, kd189, kd190, kd191, kd192, kd193, kd194, rf176_1, rf176_2, rf176_4, rf176_5, rf176_6, rf176_8, rf176_9, rf176_10, rf176_11, rf176_12, rf176_13, rf176_14, rf176_16, rf176_17, rf176_18, rf176_19, rf176_20, rf176_23, e24, e1, e2]
    rw [ek]
    exact hQ
  | succ n ih =>
    intro k s hk hw hQ
    have e24 : mRow μb s 176 24 = M := by rw [mRow_ne (by omega)]; exact h24
    have e1 : ¬ (M : Int) ≤ k := by omega
    have e2 : (k : Int) < M := by omega
    have eI : (k : Int) + 1 = ((k + 1 : Nat) : Int) := by omega
    have e5 : 5 * (k : Int) = ((5 * k : Nat) : Int) := by omega
    obtain ⟨hp, hl⟩ := oS_1 (hM.2.1 k (by omega))
    obtain ⟨t0, t1⟩ := hO k (by omega)
    have t0' : mRow μb s 194 (5 * k) = T (oA T L k) := by rw [mRow_ne (by omega)]; exact t0
    have t1' : ∀ j, j < nN (mk_txt (shx (T (oA T L k)))) → mRow μb s 194 (5 * k + 1 + j) = vO T L (oA T L k) j := fun j hj => by
      rw [mRow_ne (by omega)]; exact t1 j (by unfold oV; rw [vls_n]; exact hj)
    simp only [co] at hQ
    by_cases y : rO s (T (oA T L k)) (vO T L (oA T L k)) = 0
    · rw [if_pos y] at hQ
      simp (disch := first | omega | exact rfl) only [x138_28, x138_29, x138_30, x138_33, x138_36, x138_37, x138_38, x138_39, x138_40, x138_43, x138_48, x138_49, x138_50, x138_51, x138_52, isF, isK, isH, mK, nl_i, nl_n, nl_o, nl_r, c1_i, c1_r, mPush, mRv, G0_1, true_and, and_true, and_self, implies_true, List.length_nil, List.length_cons, Nat.reduceAdd, Nat.reduceLeDiff, Nat.zero_le, beq_self_eq_true, Nat.reduceBEq, decide_true, Bool.and_self, reduceCtorEq, ne_eq, not_true_eq_false, not_false_eq_true, false_implies, true_implies, Nat.reduceLT, Nat.reduceEqDiff, or_true, true_or, or_false, false_or, or_self, Int.reduceEq, Int.reduceNe, Int.reduceLT, Int.reduceLE, Int.reduceAdd, Int.reduceSub, Int.reduceMul, Int.reduceNeg, Int.reduceToNat, if_true, if_false, Classical.not_not, Int.cast_ofNat_Int, kd176, kd177, kd178, kd179, kd180, kd181, kd182, kd183, kd184, kd185, kd186, kd187, kd188, kd189, kd190, kd191, kd192, kd193, kd194, rf176_1, rf176_2, rf176_4, rf176_5, rf176_6, rf176_8, rf176_9, rf176_10, rf176_11, rf176_12, rf176_13, rf176_14, rf176_16, rf176_17, rf176_18, rf176_19, rf176_20, rf176_23, e24, e1, e2, mWr_of, e5, ct136 (K := k) (by omega) mRow_177 hw hl t0' t1', y]
      refine ct137 (K := k) (by omega) mRow_177 hw hl t0' t1' y ?_
      rw [mRow_row]
      simp (disch := first | omega | exact rfl) only [x138_55, isF, isK, isH, mK, nl_i, nl_n, nl_o, nl_r, c1_i, c1_r, mPush, mRv, G0_1, true_and, and_true, and_self, implies_true, List.length_nil, List.length_cons, Nat.reduceAdd, Nat.reduceLeDiff, Nat.zero_le, beq_self_eq_true, Nat.reduceBEq, decide_true, Bool.and_self, reduceCtorEq, ne_eq, not_true_eq_false, not_false_eq_true, false_implies, true_implies, Nat.reduceLT, Nat.reduceEqDiff, or_true, true_or, or_false, false_or, or_self, Int.reduceEq, Int.reduceNe, Int.reduceLT, Int.reduceLE, Int.reduceAdd, Int.reduceSub, Int.reduceMul, Int.reduceNeg, Int.reduceToNat, if_true, if_false, Classical.not_not, Int.cast_ofNat_Int, mWr_of]
      rw [x138_58, eI]
      exact ih (k + 1) _ (by omega) (wf_lO hw y) hQ
    · rw [if_neg y] at hQ
      simp (disch := first | omega | exact rfl) only [x138_28, x138_29, x138_30, x138_33, x138_36, x138_37, x138_38, x138_39, x138_40, x138_43, x138_46, x138_47, isF, isK, isH, mK, nl_i, nl_n, nl_o, nl_r, c1_i, c1_r, mPush, mRv, G0_1, true_and, and_true, and_self, implies_true, List.length_nil, List.length_cons, Nat.reduceAdd, Nat.reduceLeDiff, Nat.zero_le, beq_self_eq_true, Nat.reduceBEq, decide_true, Bool.and_self, reduceCtorEq, ne_eq, not_true_eq_false, not_false_eq_true, false_implies, true_implies, Nat.reduceLT, Nat.reduceEqDiff, or_true, true_or, or_false, false_or, or_self, Int.reduceEq, Int.reduceNe, Int.reduceLT, Int.reduceLE, Int.reduceAdd, Int.reduceSub, Int.reduceMul, Int.reduceNeg, Int.reduceToNat, if_true, if_false, Classical.not_not, Int.cast_ofNat_Int, kd176, kd177, kd178, kd179, kd180, kd181, kd182, kd183, kd184, kd185, kd186, kd187, kd188, kd189, kd190, kd191, kd192, kd193, kd194, rf176_1, rf176_2, rf176_4, rf176_5, rf176_6, rf176_8, rf176_9, rf176_10, rf176_11, rf176_12, rf176_13, rf176_14, rf176_16, rf176_17, rf176_18, rf176_19, rf176_20, rf176_23, e24, e1, e2, mWr_of, e5, ct136 (K := k) (by omega) mRow_177 hw hl t0' t1', y]
      exact hQ
end CAR3
