def sl (S : Row) (z : Int) : Row := fun i => if 7 ≤ i ∧ i < 23 ∧ ¬ (i - 7) / 4 = (i - 7) % 4 then S i + z else S i
theorem sl_o {S : Row} {z : Int} {i : Nat} (h : ¬ (7 ≤ i ∧ i < 23)) : sl S z i = S i := if_neg (fun y => h ⟨y.1, y.2.1⟩)
theorem sl_w {S : Row} {z : Int} {a b : Nat} (ha : a < 4) (hb : b < 4) : sl S z (7 + (4 * a + b)) = if a = b then S (7 + (4 * a + b)) else S (7 + (4 * a + b)) + z := by
  unfold sl
  by_cases q : a = b
  · rw [if_pos q, if_neg (by omega)]
  · rw [if_neg q, if_pos (by omega)]
theorem sl_wfR {S : Row} {z : Int} (h : wf S) (hz : 0 ≤ z ∧ z ≤ 99) : wfR (sl S z) := by
  obtain ⟨h1, h2, h3, h4⟩ := wf_wfR h
  refine ⟨?_, ?_, ?_, ?_⟩
  · rw [sl_o (by omega), sl_o (by omega), sl_o (by omega), sl_o (by omega), sl_o (by omega), sl_o (by omega), sl_o (by omega)]
    exact h1
  · intro a b ha hb
    have k := h.2.1 a b ha hb
    rw [sl_w ha hb]
    by_cases q : a = b
    · rw [if_pos q]; exact ⟨fun _ => k.1 q, by omega, by omega⟩
    · rw [if_neg q]; exact ⟨fun y => absurd y q, by omega, by omega⟩
  · intro f hf hf2
    rw [sl_o (i := 5) (by omega)] at hf2
    rw [sl_o (by omega), sl_o (by omega), sl_o (by omega)]
    obtain ⟨k1, k2, k3, k4⟩ := h3 f hf hf2
    exact ⟨k1, k2, k3, fun r hr => by rw [sl_o (by omega)]; exact k4 r hr⟩
  · intro k hk hk2
    rw [sl_o (i := 6) (by omega)] at hk2
    rw [sl_o (by omega), sl_o (by omega), sl_o (by omega), sl_o (by omega), sl_o (by omega)]
    exact h4 k hk hk2
section SLO
variable {E : ME} {Q : Option MV → MG → MU → Prop} {S : Row} {c : Nat}
theorem zq9 (hc : c ∈ gCs) {μ0 : MU} (hwf : wf S) {z : Int} (hz : 0 ≤ z ∧ z ≤ 99) (hQ : ∀ μ : MU, (∀ x, ¬ x = c + 2 → μ x = μ0 x) → (∀ j, j < 16 → μ (c + 2) j = sl S z (7 + j)) → Q none G0 μ) :
    ∀ (m i : Nat), i + m = 16 → ∀ μ : MU, (∀ x, ¬ x = c + 2 → μ x = μ0 x) → (∀ j, j < i → μ (c + 2) j = sl S z (7 + j)) → (∀ j, i ≤ j → j < 16 → μ (c + 2) j = S (7 + j)) →
    Wp E 9 2 [some (.inr (.inr (.inl c))), some (.inl z), some (.inl i)] [] G0 μ Q := by
  obtain ⟨qc0, qc1, qc2, qc3, qc4, qc5, qc6, qc7, qc8, qc9, qc10, qc11, qc12, qc13, qc14, qc15, qc16, qc17, qc18, qc19, qc20⟩ := gC_ok c hc
  intro m
  induction m with
  | zero =>
    intro i hi μ h1 h2 h3
    have e : i = 16 := by omega
    subst e
    simp (disch := first | omega | exact rfl) only [x9_2, x9_3, x9_5, x9_33, isF, isK, isH, mK, nl_i, nl_n, nl_o, nl_r, c1_i, c1_r, mPush, mRv, G0_1, true_and, and_true, and_self, implies_true, List.length_nil, List.length_cons, Nat.reduceAdd, Nat.reduceLeDiff, Nat.zero_le, beq_self_eq_true, Nat.reduceBEq, decide_true, Bool.and_self, reduceCtorEq, ne_eq, not_true_eq_false, not_false_eq_true, false_implies, true_implies, Nat.reduceLT, Nat.reduceEqDiff, or_true, true_or, or_false, false_or, or_self, Int.reduceEq, Int.reduceNe, Int.reduceLT, Int.reduceLE, Int.reduceAdd, Int.reduceSub, Int.reduceMul, Int.reduceNeg, Int.reduceToNat, if_true, if_false, Classical.not_not, Int.cast_ofNat_Int]
    exact hQ μ h1 h2
  | succ m ih =>
    intro i hi μ h1 h2 h3
    have e1 : ¬ (16 : Int) ≤ i := by omega
    have e2 : (i : Int) < 16 := by omega
    have e3 : (0 : Int) ≤ i := by omega
    have eI : (i : Int) + 1 = ((i + 1 : Nat) : Int) := by omega
    have ed : (i : Int).tdiv 4 = ((i / 4 : Nat) : Int) := by rw [Int.tdiv_eq_ediv_of_nonneg (by omega)]; omega
    have er : (i : Int).tmod 4 = ((i % 4 : Nat) : Int) := by rw [Int.tmod_eq_emod_of_nonneg (by omega)]; omega
    have ei : 7 + (4 * (i / 4) + i % 4) = 7 + i := by omega
    have hb := (hwf.2.1 (i / 4) (i % 4) (by omega) (by omega)).2
    have hs := sl_w (S := S) (z := z) (a := i / 4) (b := i % 4) (by omega) (by omega)
    rw [ei] at hb hs
    have h4 := h3 i (by omega) (by omega)
    by_cases q : i / 4 = i % 4
    · have q2 : ((i / 4 : Nat) : Int) = ((i % 4 : Nat) : Int) := by omega
      rw [if_pos q] at hs
      simp (disch := first | omega | exact rfl) only [x9_0, x9_1, x9_2, x9_3, x9_5, x9_8, x9_9, x9_10, x9_11, x9_12, x9_13, x9_14, x9_17, x9_18, x9_21, x9_22, x9_23, x9_24, x9_25, x9_26, x9_27, isF, isK, isH, mK, nl_i, nl_n, nl_o, nl_r, c1_i, c1_r, mPush, mRv, G0_1, true_and, and_true, and_self, implies_true, List.length_nil, List.length_cons, Nat.reduceAdd, Nat.reduceLeDiff, Nat.zero_le, beq_self_eq_true, Nat.reduceBEq, decide_true, Bool.and_self, reduceCtorEq, ne_eq, not_true_eq_false, not_false_eq_true, false_implies, true_implies, Nat.reduceLT, Nat.reduceEqDiff, or_true, true_or, or_false, false_or, or_self, Int.reduceEq, Int.reduceNe, Int.reduceLT, Int.reduceLE, Int.reduceAdd, Int.reduceSub, Int.reduceMul, Int.reduceNeg, Int.reduceToNat, if_true, if_false, Classical.not_not, Int.cast_ofNat_Int, qc0, qc1, qc2, qc3, qc4, qc5, qc6, qc7, qc8, qc9, qc10, qc11, qc12, qc13, qc14, qc15, qc16, qc17, qc18, qc19, qc20, mWr_of, e1, e2, e3, ed, er, q2]
      rw [x9_30, eI]
      refine ih (i + 1) (by omega) μ h1 ?_ (fun j hj hj2 => h3 j (by omega) hj2)
      intro j hj
      by_cases y : j = i
      · rw [y, h4, hs]
      · exact h2 j (by omega)
    · have q2 : ¬ ((i / 4 : Nat) : Int) = ((i % 4 : Nat) : Int) := by omega
      rw [if_neg q] at hs
      simp (disch := first | omega | exact rfl) only [x9_0, x9_1, x9_2, x9_3, x9_5, x9_8, x9_9, x9_10, x9_11, x9_12, x9_13, x9_14, x9_17, x9_18, x9_21, x9_22, x9_23, x9_24, x9_25, x9_26, x9_27, isF, isK, isH, mK, nl_i, nl_n, nl_o, nl_r, c1_i, c1_r, mPush, mRv, G0_1, true_and, and_true, and_self, implies_true, List.length_nil, List.length_cons, Nat.reduceAdd, Nat.reduceLeDiff, Nat.zero_le, beq_self_eq_true, Nat.reduceBEq, decide_true, Bool.and_self, reduceCtorEq, ne_eq, not_true_eq_false, not_false_eq_true, false_implies, true_implies, Nat.reduceLT, Nat.reduceEqDiff, or_true, true_or, or_false, false_or, or_self, Int.reduceEq, Int.reduceNe, Int.reduceLT, Int.reduceLE, Int.reduceAdd, Int.reduceSub, Int.reduceMul, Int.reduceNeg, Int.reduceToNat, if_true, if_false, Classical.not_not, Int.cast_ofNat_Int, qc0, qc1, qc2, qc3, qc4, qc5, qc6, qc7, qc8, qc9, qc10, qc11, qc12, qc13, qc14, qc15, qc16, qc17, qc18, qc19, qc20, mWr_of, e1, e2, e3, ed, er, q2, Int.toNat_natCast, h4, mC1]
      rw [x9_30, eI]
      refine ih (i + 1) (by omega) _ (fun x hx => by rw [mUp_ne hx]; exact h1 x hx) ?_ ?_
      · intro j hj
        rw [mUp_at]
        by_cases y : j = i
        · rw [if_pos y, y, hs]
        · rw [if_neg y]; exact h2 j (by omega)
      · intro j hj hj2
        rw [mUp_nj (by omega)]; exact h3 j (by omega) hj2
theorem ct9 (hc : c ∈ gCs) {μ : MU} (hs : cRel μ c S) (hwf : wf S) {z : Int} (hz : 0 ≤ z ∧ z ≤ 99) (hQ : ∀ μ' : MU, (∀ x, ¬ x = c + 2 → μ' x = μ x) → cRel μ' c (sl S z) → Q none G0 μ') :
    Wp E 9 0 [some (.inr (.inr (.inl c))), some (.inl z), none] [] G0 μ Q := by
  simp (disch := first | omega | exact rfl) only [x9_0, x9_1, isF, isK, isH, mK, nl_i, nl_n, nl_o, nl_r, c1_i, c1_r, mPush, mRv, G0_1, true_and, and_true, and_self, implies_true, List.length_nil, List.length_cons, Nat.reduceAdd, Nat.reduceLeDiff, Nat.zero_le, beq_self_eq_true, Nat.reduceBEq, decide_true, Bool.and_self, reduceCtorEq, ne_eq, not_true_eq_false, not_false_eq_true, false_implies, true_implies, Nat.reduceLT, Nat.reduceEqDiff, or_true, true_or, or_false, false_or, or_self, Int.reduceEq, Int.reduceNe, Int.reduceLT, Int.reduceLE, Int.reduceAdd, Int.reduceSub, Int.reduceMul, Int.reduceNeg, Int.reduceToNat, if_true, if_false, Classical.not_not, Int.cast_ofNat_Int]
  refine zq9 hc (μ0 := μ) hwf hz (fun μ' k1 k2 => hQ μ' k1 ?_) 16 0 (by omega) μ (fun _ _ => rfl) (fun j hj => by omega) (fun j hj hj2 => hs.2.2.2.1 j (by omega))
  obtain ⟨h1, h2, h3, h4, h5, h6, h7⟩ := hs
  unfold cRel
  rw [k1 (c + 1) (by omega), k1 c (by omega), k1 (c + 3) (by omega), k1 (c + 4) (by omega), k1 (c + 5) (by omega), k1 (c + 6) (by omega), k1 (c + 7) (by omega), k1 (c + 8) (by omega), k1 (c + 9) (by omega), k1 (c + 10) (by omega)]
  rw [sl_o (i := 5) (by omega), sl_o (i := 6) (by omega)]
  refine ⟨fun i hi => by rw [sl_o (by omega)]; exact h1 i hi, h2, h3, k2, fun f hf hf2 => ?_, fun f r hf hr => ?_, fun k hk hk2 => ?_⟩
  · rw [sl_o (by omega), sl_o (by omega), sl_o (by omega)]; exact h5 f hf hf2
  · rw [sl_o (by omega)]; exact h6 f r hf hr
  · rw [sl_o (by omega), sl_o (by omega), sl_o (by omega), sl_o (by omega)]; exact h7 k hk hk2
theorem RS_sl {μ : MU} {z : Int} (hwf : wf S) (hS : μ 177 = S) (h15 : μ 176 15 = z) (hz : 0 ≤ z ∧ z ≤ 99) : RS μ (sl S z) := by
  subst hS
  refine ⟨fun i hi => (sl_o hi).symm, fun a b ha hb hab => by rw [h15, sl_w ha hb, if_neg hab], by rw [h15]; exact hz, fun a b ha hb => (hwf.2.1 a b ha hb).2⟩
theorem rqz {μ : MU} (hI : INV μ) (hS : μ 177 = S) {N : Nat} (hN : S 6 = N) {z : Int} (hz : 0 ≤ z ∧ z ≤ 99) (hQ : ∀ μ2 : MU, (∀ x, x < 176 → μ2 x = μ x) → INV μ2 → μ2 177 = S → MZ μ2 (sl S z) N → Q none G0 μ2) :
    Wp E 89 0 [some (.inr (.inr (.inl 176))), some (.inl z), none, none] [] G0 μ Q := by
  have hw : wf S := by rw [← hS]; exact hI.1
  have hR : RS (mUp μ 176 15 z) (sl S z) := RS_sl hw (by rw [mUp_ne (by omega)]; exact hS) (by rw [mUp_eq]) hz
  refine ct89 hR (sl_wfR hw hz) (N := N) (by rw [sl_o (by omega)]; exact hN) (fun μ2 k1 k2 k3 k4 => ?_)
  refine hQ μ2 (fun x hx => k1 x (by omega) (by omega)) (INV_fr hI ⟨fun x hx => k1 x (by omega) (by omega), by rw [k1 128 (by omega) (by omega)], k2 3 (by omega), k2 7 (by omega)⟩) (by rw [k1 177 (by omega) (by omega)]; exact hS) k4
theorem on_sm {μ : MU} {a N : Nat} (hN20 : N ≤ 20) (hb : ∀ i, i < N → 0 ≤ μ a i ∧ μ a i < 64) : 0 ≤ sm (fun i => on (μ a i)) N ∧ sm (fun i => on (μ a i)) N ≤ 120 := by
  have := sm_b (g := fun i => on (μ a i)) (B := 6) N (fun i hi => on_bd (hb i hi))
  omega
theorem op61 {μ : MU} (hI : INV μ) {a : Int} : OPS E 61 [some (.inl a), none] 126 [some (.inl a), none] μ := by
  obtain ⟨S, N, F, hS, hN, hN20, hw, hwf, hc1, hF, hF5⟩ := inv_q hI
  unfold OPS
  have hINV : INV (mUp μ 176 0 0) := INV_fr hI ⟨fun x hx => mUp_ne (by omega), by rw [mUp_ne (by omega)], mUp_nj (by omega), mUp_nj (by omega)⟩
  by_cases p : 0 ≤ a ∧ a ≤ 99
  · have hwz := sl_wfR hwf p
    have hNz : sl S a 6 = N := by rw [sl_o (by omega)]; exact hN
    have g133 : (133 : Nat) ∈ gCs := by decide
    simp (disch := first | omega | exact rfl) only [x61_0, x61_1, x61_2, x61_4, x61_7, x61_13, x61_14, x61_17, x61_18, x61_21, isF, isK, isH, mK, nl_i, nl_n, nl_o, nl_r, c1_i, c1_r, mPush, mRv, G0_1, true_and, and_true, and_self, implies_true, List.length_nil, List.length_cons, Nat.reduceAdd, Nat.reduceLeDiff, Nat.zero_le, beq_self_eq_true, Nat.reduceBEq, decide_true, Bool.and_self, reduceCtorEq, ne_eq, not_true_eq_false, not_false_eq_true, false_implies, true_implies, Nat.reduceLT, Nat.reduceEqDiff, or_true, true_or, or_false, false_or, or_self, Int.reduceEq, Int.reduceNe, Int.reduceLT, Int.reduceLE, Int.reduceAdd, Int.reduceSub, Int.reduceMul, Int.reduceNeg, Int.reduceToNat, if_true, if_false, Classical.not_not, Int.cast_ofNat_Int, kd0, rf0_0, rf0_1, rf0_2, rf0_3, rf0_4, rf0_5, rf0_6, rf0_7, rf0_8, kd1, kd12, ct74, if_pos p]
    refine cq hI hS hN (fun μ1 k1 hI1 hS1 hc2 hC1 => ?_)
    have e7 : μ1 1 7 = N := hc2.2.2.1.trans hN
    have hb1 := fun i hi => (CZ_b hw hN hC1 i hi).2.1
    have b1 := on_sm hN20 hb1
    simp (disch := first | omega | exact rfl) only [x61_24, x61_25, x61_28, x61_29, x61_32, isF, isK, isH, mK, nl_i, nl_n, nl_o, nl_r, c1_i, c1_r, mPush, mRv, G0_1, true_and, and_true, and_self, implies_true, List.length_nil, List.length_cons, Nat.reduceAdd, Nat.reduceLeDiff, Nat.zero_le, beq_self_eq_true, Nat.reduceBEq, decide_true, Bool.and_self, reduceCtorEq, ne_eq, not_true_eq_false, not_false_eq_true, false_implies, true_implies, Nat.reduceLT, Nat.reduceEqDiff, or_true, true_or, or_false, false_or, or_self, Int.reduceEq, Int.reduceNe, Int.reduceLT, Int.reduceLE, Int.reduceAdd, Int.reduceSub, Int.reduceMul, Int.reduceNeg, Int.reduceToNat, if_true, if_false, Classical.not_not, Int.cast_ofNat_Int, kd0, rf0_0, rf0_1, rf0_2, rf0_3, rf0_4, rf0_5, rf0_6, rf0_7, rf0_8, kd1, kd12]
    refine ct32 gC1 e7 hN20 hb1 ?_
    simp (disch := first | omega | exact rfl) only [x61_35, x61_36, x61_37, x61_40, x61_41, x61_44, isF, isK, isH, mK, nl_i, nl_n, nl_o, nl_r, c1_i, c1_r, mPush, mRv, G0_1, true_and, and_true, and_self, implies_true, List.length_nil, List.length_cons, Nat.reduceAdd, Nat.reduceLeDiff, Nat.zero_le, beq_self_eq_true, Nat.reduceBEq, decide_true, Bool.and_self, reduceCtorEq, ne_eq, not_true_eq_false, not_false_eq_true, false_implies, true_implies, Nat.reduceLT, Nat.reduceEqDiff, or_true, true_or, or_false, false_or, or_self, Int.reduceEq, Int.reduceNe, Int.reduceLT, Int.reduceLE, Int.reduceAdd, Int.reduceSub, Int.reduceMul, Int.reduceNeg, Int.reduceToNat, if_true, if_false, Classical.not_not, Int.cast_ofNat_Int, kd0, rf0_0, rf0_1, rf0_2, rf0_3, rf0_4, rf0_5, rf0_6, rf0_7, rf0_8, kd1, kd133]
    refine ct1 g133 gC1 (by omega) (fun μ2 k2 k3 => ?_)
    have c133 := cSame_rel k3 hc2
    simp (disch := first | omega | exact rfl) only [x61_47, x61_48, x61_51, x61_52, isF, isK, isH, mK, nl_i, nl_n, nl_o, nl_r, c1_i, c1_r, mPush, mRv, G0_1, true_and, and_true, and_self, implies_true, List.length_nil, List.length_cons, Nat.reduceAdd, Nat.reduceLeDiff, Nat.zero_le, beq_self_eq_true, Nat.reduceBEq, decide_true, Bool.and_self, reduceCtorEq, ne_eq, not_true_eq_false, not_false_eq_true, false_implies, true_implies, Nat.reduceLT, Nat.reduceEqDiff, or_true, true_or, or_false, false_or, or_self, Int.reduceEq, Int.reduceNe, Int.reduceLT, Int.reduceLE, Int.reduceAdd, Int.reduceSub, Int.reduceMul, Int.reduceNeg, Int.reduceToNat, if_true, if_false, Classical.not_not, Int.cast_ofNat_Int, kd0, rf0_0, rf0_1, rf0_2, rf0_3, rf0_4, rf0_5, rf0_6, rf0_7, rf0_8, kd133]
    refine ct9 g133 c133 hwf p (fun μ3 k4 k5 => ?_)
    simp (disch := first | omega | exact rfl) only [x61_55, x61_56, x61_59, x61_60, x61_63, isF, isK, isH, mK, nl_i, nl_n, nl_o, nl_r, c1_i, c1_r, mPush, mRv, G0_1, true_and, and_true, and_self, implies_true, List.length_nil, List.length_cons, Nat.reduceAdd, Nat.reduceLeDiff, Nat.zero_le, beq_self_eq_true, Nat.reduceBEq, decide_true, Bool.and_self, reduceCtorEq, ne_eq, not_true_eq_false, not_false_eq_true, false_implies, true_implies, Nat.reduceLT, Nat.reduceEqDiff, or_true, true_or, or_false, false_or, or_self, Int.reduceEq, Int.reduceNe, Int.reduceLT, Int.reduceLE, Int.reduceAdd, Int.reduceSub, Int.reduceMul, Int.reduceNeg, Int.reduceToNat, if_true, if_false, Classical.not_not, Int.cast_ofNat_Int, kd0, rf0_0, rf0_1, rf0_2, rf0_3, rf0_4, rf0_5, rf0_6, rf0_7, rf0_8, kd12, kd133]
    refine ct28 g133 k5 hwz hNz hN20 (fun μ4 k6 k7 => ?_)
    have e74 : μ4 133 7 = N := by rw [k6 133 (by omega)]; exact k5.2.2.1.trans hNz
    have hb2 := fun i hi => (CZ_b hwz hNz k7 i hi).2.1
    have b2 := on_sm hN20 hb2
    simp (disch := first | omega | exact rfl) only [x61_66, x61_69, x61_70, x61_73, x61_74, x61_77, isF, isK, isH, mK, nl_i, nl_n, nl_o, nl_r, c1_i, c1_r, mPush, mRv, G0_1, true_and, and_true, and_self, implies_true, List.length_nil, List.length_cons, Nat.reduceAdd, Nat.reduceLeDiff, Nat.zero_le, beq_self_eq_true, Nat.reduceBEq, decide_true, Bool.and_self, reduceCtorEq, ne_eq, not_true_eq_false, not_false_eq_true, false_implies, true_implies, Nat.reduceLT, Nat.reduceEqDiff, or_true, true_or, or_false, false_or, or_self, Int.reduceEq, Int.reduceNe, Int.reduceLT, Int.reduceLE, Int.reduceAdd, Int.reduceSub, Int.reduceMul, Int.reduceNeg, Int.reduceToNat, if_true, if_false, Classical.not_not, Int.cast_ofNat_Int, kd0, rf0_0, rf0_1, rf0_2, rf0_3, rf0_4, rf0_5, rf0_6, rf0_7, rf0_8, kd12, kd133]
    refine ct32 g133 e74 hN20 hb2 ?_
    have hI4 : INV μ4 := INV_fr hI1 ⟨fun x hx => by rw [k6 x (by omega), k4 x (by omega), k2 x (by omega)], by rw [k6 128 (by omega), k4 128 (by omega), k2 128 (by omega)], by rw [k6 176 (by omega), k4 176 (by omega), k2 176 (by omega)], by rw [k6 176 (by omega), k4 176 (by omega), k2 176 (by omega)]⟩
    have hS4 : μ4 177 = S := by rw [k6 177 (by omega), k4 177 (by omega), k2 177 (by omega)]; exact hS1
    simp (disch := first | omega | exact rfl) only [x61_80, x61_81, x61_82, x61_83, isF, isK, isH, mK, nl_i, nl_n, nl_o, nl_r, c1_i, c1_r, mPush, mRv, G0_1, true_and, and_true, and_self, implies_true, List.length_nil, List.length_cons, Nat.reduceAdd, Nat.reduceLeDiff, Nat.zero_le, beq_self_eq_true, Nat.reduceBEq, decide_true, Bool.and_self, reduceCtorEq, ne_eq, not_true_eq_false, not_false_eq_true, false_implies, true_implies, Nat.reduceLT, Nat.reduceEqDiff, or_true, true_or, or_false, false_or, or_self, Int.reduceEq, Int.reduceNe, Int.reduceLT, Int.reduceLE, Int.reduceAdd, Int.reduceSub, Int.reduceMul, Int.reduceNeg, Int.reduceToNat, if_true, if_false, Classical.not_not, Int.cast_ofNat_Int, mWr_of]
    refine ⟨_, rfl, ?_⟩
    simp (disch := first | omega | exact rfl) only [x126_0, x126_1, x126_2, x126_5, x126_6, x126_7, x126_9, x126_12, x126_18, x126_19, x126_20, isF, isK, isH, mK, nl_i, nl_n, nl_o, nl_r, c1_i, c1_r, mPush, mRv, G0_1, true_and, and_true, and_self, implies_true, List.length_nil, List.length_cons, Nat.reduceAdd, Nat.reduceLeDiff, Nat.zero_le, beq_self_eq_true, Nat.reduceBEq, decide_true, Bool.and_self, reduceCtorEq, ne_eq, not_true_eq_false, not_false_eq_true, false_implies, true_implies, Nat.reduceLT, Nat.reduceEqDiff, or_true, true_or, or_false, false_or, or_self, Int.reduceEq, Int.reduceNe, Int.reduceLT, Int.reduceLE, Int.reduceAdd, Int.reduceSub, Int.reduceMul, Int.reduceNeg, Int.reduceToNat, if_true, if_false, Classical.not_not, Int.cast_ofNat_Int, kd176, kd177, kd178, kd179, kd180, kd181, kd182, kd183, kd184, kd185, kd186, kd187, kd188, kd189, kd190, kd191, kd192, kd193, kd194, rf176_1, rf176_2, rf176_4, rf176_5, rf176_6, rf176_8, rf176_9, rf176_10, rf176_11, rf176_12, rf176_13, rf176_14, rf176_16, rf176_17, rf176_18, rf176_19, rf176_20, rf176_23, ct77, if_pos p]
    refine rq hI4 hS4 hN (fun μ5 j1 hI5 hS5 hR5 hM5 => ?_)
    simp (disch := first | omega | exact rfl) only [x126_23, x126_24, x126_26, x126_28, x126_29, isF, isK, isH, mK, nl_i, nl_n, nl_o, nl_r, c1_i, c1_r, mPush, mRv, G0_1, true_and, and_true, and_self, implies_true, List.length_nil, List.length_cons, Nat.reduceAdd, Nat.reduceLeDiff, Nat.zero_le, beq_self_eq_true, Nat.reduceBEq, decide_true, Bool.and_self, reduceCtorEq, ne_eq, not_true_eq_false, not_false_eq_true, false_implies, true_implies, Nat.reduceLT, Nat.reduceEqDiff, or_true, true_or, or_false, false_or, or_self, Int.reduceEq, Int.reduceNe, Int.reduceLT, Int.reduceLE, Int.reduceAdd, Int.reduceSub, Int.reduceMul, Int.reduceNeg, Int.reduceToNat, if_true, if_false, Classical.not_not, Int.cast_ofNat_Int, kd176, kd177, kd178, kd179, kd180, kd181, kd182, kd183, kd184, kd185, kd186, kd187, kd188, kd189, kd190, kd191, kd192, kd193, kd194, rf176_1, rf176_2, rf176_4, rf176_5, rf176_6, rf176_8, rf176_9, rf176_10, rf176_11, rf176_12, rf176_13, rf176_14, rf176_16, rf176_17, rf176_18, rf176_19, rf176_20, rf176_23]
    refine ct112 hR5 hw hN (MZ_v hw hN hM5) ?_
    rw [sumA (g := fun i => on (μ1 17 i)) (fun i hi => (CZ_it hC1 hM5 i hi).2.2.2.2)]
    simp (disch := first | omega | exact rfl) only [x126_32, x126_33, x126_34, x126_35, isF, isK, isH, mK, nl_i, nl_n, nl_o, nl_r, c1_i, c1_r, mPush, mRv, G0_1, true_and, and_true, and_self, implies_true, List.length_nil, List.length_cons, Nat.reduceAdd, Nat.reduceLeDiff, Nat.zero_le, beq_self_eq_true, Nat.reduceBEq, decide_true, Bool.and_self, reduceCtorEq, ne_eq, not_true_eq_false, not_false_eq_true, false_implies, true_implies, Nat.reduceLT, Nat.reduceEqDiff, or_true, true_or, or_false, false_or, or_self, Int.reduceEq, Int.reduceNe, Int.reduceLT, Int.reduceLE, Int.reduceAdd, Int.reduceSub, Int.reduceMul, Int.reduceNeg, Int.reduceToNat, if_true, if_false, Classical.not_not, Int.cast_ofNat_Int, kd176, kd177, kd178, kd179, kd180, kd181, kd182, kd183, kd184, kd185, kd186, kd187, kd188, kd189, kd190, kd191, kd192, kd193, kd194, rf176_1, rf176_2, rf176_4, rf176_5, rf176_6, rf176_8, rf176_9, rf176_10, rf176_11, rf176_12, rf176_13, rf176_14, rf176_16, rf176_17, rf176_18, rf176_19, rf176_20, rf176_23]
    refine rqz hI5 hS5 hN p (fun μ6 j2 hI6 hS6 hM6 => ?_)
    simp (disch := first | omega | exact rfl) only [x126_38, x126_39, x126_41, x126_43, x126_44, isF, isK, isH, mK, nl_i, nl_n, nl_o, nl_r, c1_i, c1_r, mPush, mRv, G0_1, true_and, and_true, and_self, implies_true, List.length_nil, List.length_cons, Nat.reduceAdd, Nat.reduceLeDiff, Nat.zero_le, beq_self_eq_true, Nat.reduceBEq, decide_true, Bool.and_self, reduceCtorEq, ne_eq, not_true_eq_false, not_false_eq_true, false_implies, true_implies, Nat.reduceLT, Nat.reduceEqDiff, or_true, true_or, or_false, false_or, or_self, Int.reduceEq, Int.reduceNe, Int.reduceLT, Int.reduceLE, Int.reduceAdd, Int.reduceSub, Int.reduceMul, Int.reduceNeg, Int.reduceToNat, if_true, if_false, Classical.not_not, Int.cast_ofNat_Int, kd176, kd177, kd178, kd179, kd180, kd181, kd182, kd183, kd184, kd185, kd186, kd187, kd188, kd189, kd190, kd191, kd192, kd193, kd194, rf176_1, rf176_2, rf176_4, rf176_5, rf176_6, rf176_8, rf176_9, rf176_10, rf176_11, rf176_12, rf176_13, rf176_14, rf176_16, rf176_17, rf176_18, rf176_19, rf176_20, rf176_23]
    refine ct112 hM6.1 hwz hNz (MZ_v hwz hNz hM6) ?_
    rw [sumA (g := fun i => on (μ4 17 i)) (fun i hi => (CZ_it k7 hM6 i hi).2.2.2.2)]
    simp (disch := first | omega | exact rfl) only [x126_47, x126_48, x126_49, x126_52, x126_53, isF, isK, isH, mK, nl_i, nl_n, nl_o, nl_r, c1_i, c1_r, mPush, mRv, G0_1, true_and, and_true, and_self, implies_true, List.length_nil, List.length_cons, Nat.reduceAdd, Nat.reduceLeDiff, Nat.zero_le, beq_self_eq_true, Nat.reduceBEq, decide_true, Bool.and_self, reduceCtorEq, ne_eq, not_true_eq_false, not_false_eq_true, false_implies, true_implies, Nat.reduceLT, Nat.reduceEqDiff, or_true, true_or, or_false, false_or, or_self, Int.reduceEq, Int.reduceNe, Int.reduceLT, Int.reduceLE, Int.reduceAdd, Int.reduceSub, Int.reduceMul, Int.reduceNeg, Int.reduceToNat, if_true, if_false, Classical.not_not, Int.cast_ofNat_Int, kd176, kd177, kd178, kd179, kd180, kd181, kd182, kd183, kd184, kd185, kd186, kd187, kd188, kd189, kd190, kd191, kd192, kd193, kd194, rf176_1, rf176_2, rf176_4, rf176_5, rf176_6, rf176_8, rf176_9, rf176_10, rf176_11, rf176_12, rf176_13, rf176_14, rf176_16, rf176_17, rf176_18, rf176_19, rf176_20, rf176_23, mWr_of]
    have e : sm (fun i => on (μ4 17 i)) N - sm (fun i => on (μ1 17 i)) N + 1000 = 1000 + sm (fun i => on (μ4 17 i)) N - sm (fun i => on (μ1 17 i)) N := by omega
    rw [e]
    exact ⟨rfl, hI6⟩
  · simp (disch := first | omega | exact rfl) only [x61_0, x61_1, x61_2, x61_4, x61_7, x61_10, x61_12, isF, isK, isH, mK, nl_i, nl_n, nl_o, nl_r, c1_i, c1_r, mPush, mRv, G0_1, true_and, and_true, and_self, implies_true, List.length_nil, List.length_cons, Nat.reduceAdd, Nat.reduceLeDiff, Nat.zero_le, beq_self_eq_true, Nat.reduceBEq, decide_true, Bool.and_self, reduceCtorEq, ne_eq, not_true_eq_false, not_false_eq_true, false_implies, true_implies, Nat.reduceLT, Nat.reduceEqDiff, or_true, true_or, or_false, false_or, or_self, Int.reduceEq, Int.reduceNe, Int.reduceLT, Int.reduceLE, Int.reduceAdd, Int.reduceSub, Int.reduceMul, Int.reduceNeg, Int.reduceToNat, if_true, if_false, Classical.not_not, Int.cast_ofNat_Int, kd0, rf0_0, rf0_1, rf0_2, rf0_3, rf0_4, rf0_5, rf0_6, rf0_7, rf0_8, ct74, if_neg p]
    refine ⟨_, rfl, ?_⟩
    simp (disch := first | omega | exact rfl) only [x126_0, x126_1, x126_2, x126_5, x126_6, x126_7, x126_9, x126_12, x126_15, x126_17, isF, isK, isH, mK, nl_i, nl_n, nl_o, nl_r, c1_i, c1_r, mPush, mRv, G0_1, true_and, and_true, and_self, implies_true, List.length_nil, List.length_cons, Nat.reduceAdd, Nat.reduceLeDiff, Nat.zero_le, beq_self_eq_true, Nat.reduceBEq, decide_true, Bool.and_self, reduceCtorEq, ne_eq, not_true_eq_false, not_false_eq_true, false_implies, true_implies, Nat.reduceLT, Nat.reduceEqDiff, or_true, true_or, or_false, false_or, or_self, Int.reduceEq, Int.reduceNe, Int.reduceLT, Int.reduceLE, Int.reduceAdd, Int.reduceSub, Int.reduceMul, Int.reduceNeg, Int.reduceToNat, if_true, if_false, Classical.not_not, Int.cast_ofNat_Int, kd176, kd177, kd178, kd179, kd180, kd181, kd182, kd183, kd184, kd185, kd186, kd187, kd188, kd189, kd190, kd191, kd192, kd193, kd194, rf176_1, rf176_2, rf176_4, rf176_5, rf176_6, rf176_8, rf176_9, rf176_10, rf176_11, rf176_12, rf176_13, rf176_14, rf176_16, rf176_17, rf176_18, rf176_19, rf176_20, rf176_23, ct77, if_neg p]
    exact hINV
end SLO
