section GOD
variable {E : ME} {Q : Option MV → MG → MU → Prop} {S : Row} {c : Nat}
def EF (μ0 μ : MU) (S : Row) (f : Nat) : Prop := (∀ x, ¬ (22 ≤ x ∧ x ≤ 48) → μ x = μ0 x) ∧ ∀ g, g < f → RC μ (24 + 5 * g) S g (fBeg S g) ∧ μ 22 g = 0
theorem RC_fr {μ μ' : MU} {b f : Nat} {P : MU} (h : RC μ b S f P) (hx : ∀ x, b ≤ x → x ≤ b + 3 → μ' x = μ x) : RC μ' b S f P := by
  unfold RC
  rw [hx b (by omega) (by omega), hx (b + 1) (by omega) (by omega), hx (b + 2) (by omega) (by omega), hx (b + 3) (by omega) (by omega)]
  exact h
theorem zq28a (hc : c ∈ gCs) {μ0 : MU} (hs : cRel μ0 c S) {F : Nat} (hF : S 5 = F) (hF5 : F ≤ 5) (hQ : ∀ μ : MU, EF μ0 μ S F → Wp E 28 34 [some (.inr (.inr (.inl 12))), some (.inr (.inr (.inl c))), some (.inl F)] [] G0 μ Q) : ∀ (m f : Nat), f + m = F → ∀ μ : MU, EF μ0 μ S f →
    Wp E 28 2 [some (.inr (.inr (.inl 12))), some (.inr (.inr (.inl c))), some (.inl f)] [] G0 μ Q := by
  obtain ⟨qc0, qc1, qc2, qc3, qc4, qc5, qc6, qc7, qc8, qc9, qc10, qc11, qc12, qc13, qc14, qc15, qc16, qc17, qc18, qc19, qc20⟩ := gC_ok c hc
  have hcl := gC_no c hc
  intro m
  induction m with
  | zero =>
    intro f hf μ h
    have ef : f = F := by omega
    subst ef
    have e2 : μ c 2 = f := by rw [h.1 c (by omega)]; exact hs.2.1.trans hF
    simp (disch := first | omega | exact rfl) only [x28_2, x28_3, x28_4, x28_7, isF, isK, isH, mK, nl_i, nl_n, nl_o, nl_r, c1_i, c1_r, mPush, mRv, G0_1, true_and, and_true, and_self, implies_true, List.length_nil, List.length_cons, Nat.reduceAdd, Nat.reduceLeDiff, Nat.zero_le, beq_self_eq_true, Nat.reduceBEq, decide_true, Bool.and_self, reduceCtorEq, ne_eq, not_true_eq_false, not_false_eq_true, false_implies, true_implies, Nat.reduceLT, Nat.reduceEqDiff, or_true, true_or, or_false, false_or, or_self, Int.reduceEq, Int.reduceNe, Int.reduceLT, Int.reduceLE, Int.reduceAdd, Int.reduceSub, Int.reduceMul, Int.reduceNeg, Int.reduceToNat, if_true, if_false, Classical.not_not, Int.cast_ofNat_Int, qc0, qc1, qc2, qc3, qc4, qc5, qc6, qc7, qc8, qc9, qc10, qc11, qc12, qc13, qc14, qc15, qc16, qc17, qc18, qc19, qc20, e2, Int.le_refl, Int.lt_irrefl]
    exact hQ μ h
  | succ m ih =>
    intro f hf μ h
    have e2 : μ c 2 = F := by rw [h.1 c (by omega)]; exact hs.2.1.trans hF
    have ef : ¬ (F : Int) ≤ f := by omega
    have ef2 : (f : Int) < F := by omega
    have ef3 : (f : Int) < 5 := by omega
    have ef4 : (0 : Int) ≤ f := by omega
    have eI : (f : Int) + 1 = ((f + 1 : Nat) : Int) := by omega
    have hf5 : f < 5 := by omega
    have hr := rf23_m hf5
    have hb := gR_m hf5
    obtain ⟨q1, q2, q3, q4, q5, q6, q7, q8, q9⟩ := gR_ok _ hb
    have hs' : cRel μ c S := cRel_fr (fun x p1 p2 => h.1 x (by omega)) hs
    simp (disch := first | omega | exact rfl) only [x28_2, x28_3, x28_4, x28_7, x28_10, x28_11, x28_14, x28_15, x28_16, x28_17, x28_18, isF, isK, isH, mK, nl_i, nl_n, nl_o, nl_r, c1_i, c1_r, mPush, mRv, G0_1, true_and, and_true, and_self, implies_true, List.length_nil, List.length_cons, Nat.reduceAdd, Nat.reduceLeDiff, Nat.zero_le, beq_self_eq_true, Nat.reduceBEq, decide_true, Bool.and_self, reduceCtorEq, ne_eq, not_true_eq_false, not_false_eq_true, false_implies, true_implies, Nat.reduceLT, Nat.reduceEqDiff, or_true, true_or, or_false, false_or, or_self, Int.reduceEq, Int.reduceNe, Int.reduceLT, Int.reduceLE, Int.reduceAdd, Int.reduceSub, Int.reduceMul, Int.reduceNeg, Int.reduceToNat, if_true, if_false, Classical.not_not, Int.cast_ofNat_Int, kd12, kd13, kd14, kd15, kd16, kd17, kd18, kd19, kd20, kd21, kd22, kd23, rf12_0, rf12_1, rf12_2, rf12_3, rf12_4, rf12_5, rf12_6, rf12_7, rf12_8, rf12_9, rf12_10, rf23_0, rf23_1, rf23_2, rf23_3, rf23_4, qc0, qc1, qc2, qc3, qc4, qc5, qc6, qc7, qc8, qc9, qc10, qc11, qc12, qc13, qc14, qc15, qc16, qc17, qc18, qc19, qc20, e2, ef, ef2, ef3, ef4, hr, q1, Int.toNat_natCast]
    refine ct35 hc hb hs' hf5 (by omega) ?_
    intro μ1 k1 k2
    simp (disch := first | omega | exact rfl) only [x28_21, x28_22, x28_25, x28_26, x28_27, x28_28, isF, isK, isH, mK, nl_i, nl_n, nl_o, nl_r, c1_i, c1_r, mPush, mRv, G0_1, true_and, and_true, and_self, implies_true, List.length_nil, List.length_cons, Nat.reduceAdd, Nat.reduceLeDiff, Nat.zero_le, beq_self_eq_true, Nat.reduceBEq, decide_true, Bool.and_self, reduceCtorEq, ne_eq, not_true_eq_false, not_false_eq_true, false_implies, true_implies, Nat.reduceLT, Nat.reduceEqDiff, or_true, true_or, or_false, false_or, or_self, Int.reduceEq, Int.reduceNe, Int.reduceLT, Int.reduceLE, Int.reduceAdd, Int.reduceSub, Int.reduceMul, Int.reduceNeg, Int.reduceToNat, if_true, if_false, Classical.not_not, Int.cast_ofNat_Int, kd12, kd13, kd14, kd15, kd16, kd17, kd18, kd19, kd20, kd21, kd22, kd23, rf12_0, rf12_1, rf12_2, rf12_3, rf12_4, rf12_5, rf12_6, rf12_7, rf12_8, rf12_9, rf12_10, rf23_0, rf23_1, rf23_2, rf23_3, rf23_4, ef3, ef4, Int.toNat_natCast, mWr_of]
    rw [x28_31, eI]
    refine ih (f + 1) (by omega) _ ⟨?_, ?_⟩
    · intro x hx
      rw [mUp_ne (by omega), k1 x (by omega)]; exact h.1 x hx
    · intro g hg
      by_cases q : g = f
      · subst q
        refine ⟨RC_fr k2 (fun x z1 z2 => mUp_ne (by omega)), by rw [mUp_eq]⟩
      · obtain ⟨z1, z2⟩ := h.2 g (by omega)
        refine ⟨RC_fr z1 (fun x y1 y2 => ?_), ?_⟩
        · rw [mUp_ne (by omega), k1 x (by omega)]
        · rw [mUp_nj q, k1 22 (by omega)]; exact z2
/-- what is written down of the show at the place j by the class -/
def RY (μ : MU) (S : Row) (o : Nat → Nat) (j : Nat) : Prop := μ 14 (o j) = j ∧ μ 15 (o j) = oP S o j 5 0 ∧ μ 16 (o j) = oP S o j 5 1 ∧ μ 17 (o j) = oP S o j 5 2 ∧ (∀ i : Nat, (i : Int) < S (23 + 9 * fmF S (o j)) → μ 18 (6 * o j + i) = oP S o j 3 i) ∧ μ 19 (o j) = tkn S (o j) ∧ μ 20 (o j) = kpt S (o j) (oP S o j 5 2) ∧ μ 21 (o j) = rnt S (o j) (oP S o j 5 2)
def GZ (μ0 μ : MU) (S : Row) (o : Nat → Nat) (k : Nat) : Prop := (∀ x, ¬ (14 ≤ x ∧ x ≤ 48) → μ x = μ0 x) ∧ (∀ f : Nat, (f : Int) < S 5 → RC μ (24 + 5 * f) S f (fSt S o f k) ∧ μ 22 f = fSt S o f k 5 4) ∧ ∀ j, j < k → RY μ S o j
theorem oP_q (hw : wfR S) {o : Nat → Nat} {N : Nat} (hN : S 6 = N) (hO : isO (sT S) o N) {j : Nat} (hj : j < N) : okM S (o j) (oP S o j 5 2) ∧ (0 ≤ oP S o j 5 0 ∧ oP S o j 5 0 ≤ 2219) ∧ (0 ≤ oP S o j 5 1 ∧ oP S o j 5 1 ≤ 360) ∧ (0 ≤ oP S o j 5 3 ∧ oP S o j 5 3 ≤ 6) := by
  have h1 := hO.1 j hj
  have h6 := hw.1.2.2.2.2.2.2
  have hs := hw.2.2.2 (o j) (by omega) (by omega)
  obtain ⟨f1, f2, f3⟩ := fmF_lt hw (k := o j) (by omega) (by omega)
  have hrn := (hw.2.2.1 _ f1 f2).1
  have q := (fSt_q hw (o := o) (N := N) (by omega) (fun k hk => (hO.1 k hk).1) f1 f2 j (by omega)).1
  have e : oP S o j = sGo S (fmF S (o j)) (o j) (fSt S o (fmF S (o j)) j) := if_pos f3
  obtain ⟨⟨a1, a2⟩, ⟨b1, b2⟩, c1, ⟨d1, d2⟩⟩ := (rRun_q hw (f := fmF S (o j)) hs.2.1 hs.2.2.1 q (S (23 + 9 * fmF S (o j))).toNat (by omega)).2
  rw [e]
  unfold sGo
  exact ⟨c1, ⟨by omega, by omega⟩, ⟨b1, by omega⟩, ⟨d1, by omega⟩⟩
theorem zq28b (hc : c ∈ gCs) {μ0 : MU} (hs : cRel μ0 c S) (hw : wfR S) {N : Nat} (hN : S 6 = N) (hN20 : N ≤ 20) {o : Nat → Nat} (hO : isO (sT S) o N) (ho : ∀ k, k < N → μ0 13 k = o k) (hQ : ∀ μ : MU, GZ μ0 μ S o N → Q none G0 μ) : ∀ (m k : Nat), k + m = N → ∀ μ : MU, GZ μ0 μ S o k →
    Wp E 28 41 [some (.inr (.inr (.inl 12))), some (.inr (.inr (.inl c))), some (.inl k)] [] G0 μ Q := by
  obtain ⟨qc0, qc1, qc2, qc3, qc4, qc5, qc6, qc7, qc8, qc9, qc10, qc11, qc12, qc13, qc14, qc15, qc16, qc17, qc18, qc19, qc20⟩ := gC_ok c hc
  have hcl := gC_no c hc
  have hF2 := hw.1.2.2.2.2.2.1
  intro m
  induction m with
  | zero =>
    intro k hk μ h
    have ek : k = N := by omega
    subst ek
    have e7 : μ c 7 = k := by rw [h.1 c (by omega)]; exact hs.2.2.1.trans hN
    simp (disch := first | omega | exact rfl) only [x28_41, x28_42, x28_43, x28_46, x28_89, isF, isK, isH, mK, nl_i, nl_n, nl_o, nl_r, c1_i, c1_r, mPush, mRv, G0_1, true_and, and_true, and_self, implies_true, List.length_nil, List.length_cons, Nat.reduceAdd, Nat.reduceLeDiff, Nat.zero_le, beq_self_eq_true, Nat.reduceBEq, decide_true, Bool.and_self, reduceCtorEq, ne_eq, not_true_eq_false, not_false_eq_true, false_implies, true_implies, Nat.reduceLT, Nat.reduceEqDiff, or_true, true_or, or_false, false_or, or_self, Int.reduceEq, Int.reduceNe, Int.reduceLT, Int.reduceLE, Int.reduceAdd, Int.reduceSub, Int.reduceMul, Int.reduceNeg, Int.reduceToNat, if_true, if_false, Classical.not_not, Int.cast_ofNat_Int, qc0, qc1, qc2, qc3, qc4, qc5, qc6, qc7, qc8, qc9, qc10, qc11, qc12, qc13, qc14, qc15, qc16, qc17, qc18, qc19, qc20, e7, Int.le_refl, Int.lt_irrefl]
    exact hQ μ h
  | succ m ih =>
    intro k hk μ h
    have e7 : μ c 7 = N := by rw [h.1 c (by omega)]; exact hs.2.2.1.trans hN
    have ek : ¬ (N : Int) ≤ k := by omega
    have ek2 : (k : Int) < N := by omega
    have ek3 : (0 : Int) ≤ k := by omega
    have ek4 : (k : Int) < 20 := by omega
    have eo : μ 13 k = o k := by rw [h.1 13 (by omega)]; exact ho k (by omega)
    have hok := hO.1 k (by omega)
    have eo2 : (0 : Int) ≤ o k := by omega
    have eo3 : (o k : Int) < 20 := by omega
    have eI : (k : Int) + 1 = ((k + 1 : Nat) : Int) := by omega
    have eo4 : (mUp μ 14 (o k) k) 13 k = o k := by rw [mUp_ne (by omega)]; exact eo
    simp (disch := first | omega | exact rfl) only [x28_41, x28_42, x28_43, x28_46, x28_49, x28_50, x28_53, x28_54, x28_57, x28_58, x28_59, x28_60, x28_61, x28_62, x28_63, x28_64, x28_67, x28_68, x28_69, isF, isK, isH, mK, nl_i, nl_n, nl_o, nl_r, c1_i, c1_r, mPush, mRv, G0_1, true_and, and_true, and_self, implies_true, List.length_nil, List.length_cons, Nat.reduceAdd, Nat.reduceLeDiff, Nat.zero_le, beq_self_eq_true, Nat.reduceBEq, decide_true, Bool.and_self, reduceCtorEq, ne_eq, not_true_eq_false, not_false_eq_true, false_implies, true_implies, Nat.reduceLT, Nat.reduceEqDiff, or_true, true_or, or_false, false_or, or_self, Int.reduceEq, Int.reduceNe, Int.reduceLT, Int.reduceLE, Int.reduceAdd, Int.reduceSub, Int.reduceMul, Int.reduceNeg, Int.reduceToNat, if_true, if_false, Classical.not_not, Int.cast_ofNat_Int, kd12, kd13, kd14, kd15, kd16, kd17, kd18, kd19, kd20, kd21, kd22, kd23, rf12_0, rf12_1, rf12_2, rf12_3, rf12_4, rf12_5, rf12_6, rf12_7, rf12_8, rf12_9, rf12_10, rf23_0, rf23_1, rf23_2, rf23_3, rf23_4, qc0, qc1, qc2, qc3, qc4, qc5, qc6, qc7, qc8, qc9, qc10, qc11, qc12, qc13, qc14, qc15, qc16, qc17, qc18, qc19, qc20, e7, ek, ek2, ek3, ek4, eo, eo2, eo3, eo4, Int.toNat_natCast]
    obtain ⟨f1, f2, f3⟩ := fmF_lt hw (k := o k) (by omega) (by omega)
    have hq := fSt_q hw (o := o) (N := N) (by omega) (fun k hk => (hO.1 k hk).1) f1 f2 k (by omega)
    obtain ⟨p, hp⟩ : ∃ p, fmF S (o k) = p := ⟨_, rfl⟩
    rw [hp] at f1 f2 f3 hq
    obtain ⟨y1, y2⟩ := h.2.1 p f2
    have hs1 : cRel (mUp μ 14 (o k) k) c S := cRel_fr (fun x p1 p2 => by rw [mUp_ne (by omega), h.1 x (by omega)]) hs
    refine ct30 hc hs1 hw (by omega) (by omega) f1 f2 f3 hq.1 (by omega) (RC_fr y1 (fun x z1 z2 => mUp_ne (by omega))) (by rw [mUp_ne (by omega)]; exact y2) ?_
    intro μ1 k1 k2 k3 k4 k5 k6 k7
    have e1 : fSt S o p (k + 1) = sGo S p (o k) (fSt S o p k) := if_pos f3
    have eP : oP S o k = sGo S p (o k) (fSt S o p k) := by
      unfold oP
      have : (S (68 + 4 * o k)).toNat = p := hp
      rw [this]; exact e1
    have hoq := (oP_q hw hN hO (j := k) (by omega)).1
    rw [← eP] at k2 k3 k4 k5 k6 k7
    rw [← k6] at hoq
    have eo5 : μ1 13 k = o k := by rw [k1.1 13 (by omega) (by omega) (by omega)]; exact eo4
    simp (disch := first | omega | exact rfl) only [x28_72, x28_73, x28_74, x28_75, x28_78, x28_79, x28_80, isF, isK, isH, mK, nl_i, nl_n, nl_o, nl_r, c1_i, c1_r, mPush, mRv, G0_1, true_and, and_true, and_self, implies_true, List.length_nil, List.length_cons, Nat.reduceAdd, Nat.reduceLeDiff, Nat.zero_le, beq_self_eq_true, Nat.reduceBEq, decide_true, Bool.and_self, reduceCtorEq, ne_eq, not_true_eq_false, not_false_eq_true, false_implies, true_implies, Nat.reduceLT, Nat.reduceEqDiff, or_true, true_or, or_false, false_or, or_self, Int.reduceEq, Int.reduceNe, Int.reduceLT, Int.reduceLE, Int.reduceAdd, Int.reduceSub, Int.reduceMul, Int.reduceNeg, Int.reduceToNat, if_true, if_false, Classical.not_not, Int.cast_ofNat_Int, kd12, kd13, kd14, kd15, kd16, kd17, kd18, kd19, kd20, kd21, kd22, kd23, rf12_0, rf12_1, rf12_2, rf12_3, rf12_4, rf12_5, rf12_6, rf12_7, rf12_8, rf12_9, rf12_10, rf23_0, rf23_1, rf23_2, rf23_3, rf23_4, ek3, ek4, eo5, Int.toNat_natCast]
    have hs2 : cRel μ1 c S := cRel_fr (fun x p1 p2 => k1.1 x (by omega) (by omega) (by omega)) hs1
    refine ct31 hc hs2 hw (by omega) (by omega) hoq ?_
    simp (disch := first | omega | exact rfl) only [x28_83, isF, isK, isH, mK, nl_i, nl_n, nl_o, nl_r, c1_i, c1_r, mPush, mRv, G0_1, true_and, and_true, and_self, implies_true, List.length_nil, List.length_cons, Nat.reduceAdd, Nat.reduceLeDiff, Nat.zero_le, beq_self_eq_true, Nat.reduceBEq, decide_true, Bool.and_self, reduceCtorEq, ne_eq, not_true_eq_false, not_false_eq_true, false_implies, true_implies, Nat.reduceLT, Nat.reduceEqDiff, or_true, true_or, or_false, false_or, or_self, Int.reduceEq, Int.reduceNe, Int.reduceLT, Int.reduceLE, Int.reduceAdd, Int.reduceSub, Int.reduceMul, Int.reduceNeg, Int.reduceToNat, if_true, if_false, Classical.not_not, Int.cast_ofNat_Int, mWr_of]
    rw [x28_86, eI]
    have g : ∀ x, ¬ x = 19 → ¬ x = 20 → ¬ x = 21 → (mUp (mUp (mUp μ1 19 (o k) (tkn S (o k))) 20 (o k) (kpt S (o k) (μ1 17 (o k)))) 21 (o k) (rnt S (o k) (μ1 17 (o k)))) x = μ1 x := by
      intro x z1 z2 z3
      rw [mUp_ne z3, mUp_ne z2, mUp_ne z1]
    refine ih (k + 1) (by omega) _ ⟨?_, ?_, ?_⟩
    · intro x hx
      rw [g x (by omega) (by omega) (by omega), k1.1 x (by omega) (by omega) (by omega), mUp_ne (by omega)]; exact h.1 x hx
    · intro f hf
      rw [g 22 (by omega) (by omega) (by omega)]
      by_cases q : f = p
      · subst q
        rw [e1, ← eP]
        exact ⟨RC_fr k2 (fun x z1 z2 => g x (by omega) (by omega) (by omega)), k3⟩
      · have e2 : fSt S o f (k + 1) = fSt S o f k := if_neg (by rw [f3]; omega)
        rw [e2, k1.2.2.2 f q, mUp_ne (by omega)]
        obtain ⟨z1, z2⟩ := h.2.1 f hf
        refine ⟨RC_fr z1 (fun x z3 z4 => ?_), z2⟩
        rw [g x (by omega) (by omega) (by omega), k1.1 x (by omega) (by omega) (by omega), mUp_ne (by omega)]
    · intro j hj
      by_cases q : j = k
      · subst q
        unfold RY
        rw [hp, g 14 (by omega) (by omega) (by omega), g 15 (by omega) (by omega) (by omega), g 16 (by omega) (by omega) (by omega), g 17 (by omega) (by omega) (by omega), g 18 (by omega) (by omega) (by omega), k6]
        refine ⟨?_, k4, k5, rfl, k7, ?_, ?_, ?_⟩
        · rw [k1.1 14 (by omega) (by omega) (by omega), mUp_eq]
        · rw [mUp_ne (by omega), mUp_ne (by omega), mUp_eq]
        · rw [mUp_ne (by omega), mUp_eq]
        · rw [mUp_eq]
      · have hj1 := hO.1 j (by omega)
        have hne : ¬ o j = o k := fun e => q (by rw [← hj1.2, e]; exact hok.2)
        obtain ⟨z1, z2, z3, z4, z5, z6, z7, z8⟩ := h.2.2 j (by omega)
        obtain ⟨g1, g2, g3⟩ := fmF_lt hw (k := o j) (by omega) (by omega)
        have hrn := (hw.2.2.1 _ g1 g2).1
        have y := k1.2.1 (o j) hne
        unfold RY
        rw [g 14 (by omega) (by omega) (by omega), g 15 (by omega) (by omega) (by omega), g 16 (by omega) (by omega) (by omega), g 17 (by omega) (by omega) (by omega), g 18 (by omega) (by omega) (by omega), y.1, y.2.1, y.2.2, k1.1 14 (by omega) (by omega) (by omega), mUp_nj hne, mUp_ne (by omega), mUp_ne (by omega), mUp_ne (by omega)]
        refine ⟨z1, z2, z3, z4, ?_, ?_, ?_, ?_⟩
        · intro i hi
          rw [k1.2.2.1 _ (by omega), mUp_ne (by omega)]; exact z5 i hi
        · rw [mUp_ne (by omega), mUp_ne (by omega), mUp_nj hne, k1.1 19 (by omega) (by omega) (by omega), mUp_ne (by omega)]; exact z6
        · rw [mUp_ne (by omega), mUp_nj hne, mUp_ne (by omega), k1.1 20 (by omega) (by omega) (by omega), mUp_ne (by omega)]; exact z7
        · rw [mUp_nj hne, mUp_ne (by omega), mUp_ne (by omega), k1.1 21 (by omega) (by omega) (by omega), mUp_ne (by omega)]; exact z8
/-- what the class has of a circuit that it went through -/
def CZ (μ : MU) (S : Row) (N : Nat) : Prop := (∀ k, k < N → μ 13 k = ord (sT S) N k) ∧ (∀ f : Nat, (f : Int) < S 5 → RC μ (24 + 5 * f) S f (fSt S (ord (sT S) N) f N) ∧ μ 22 f = fSt S (ord (sT S) N) f N 5 4) ∧ ∀ j, j < N → RY μ S (ord (sT S) N) j
theorem ct28 (hc : c ∈ gCs) {μ : MU} (hs : cRel μ c S) (hw : wfR S) {N : Nat} (hN : S 6 = N) (hN20 : N ≤ 20) (hQ : ∀ μ' : MU, (∀ x, ¬ (13 ≤ x ∧ x ≤ 48) → μ' x = μ x) → CZ μ' S N → Q none G0 μ') :
    Wp E 28 0 [some (.inr (.inr (.inl 12))), some (.inr (.inr (.inl c))), none] [] G0 μ Q := by
  obtain ⟨qc0, qc1, qc2, qc3, qc4, qc5, qc6, qc7, qc8, qc9, qc10, qc11, qc12, qc13, qc14, qc15, qc16, qc17, qc18, qc19, qc20⟩ := gC_ok c hc
  have hcl := gC_no c hc
  have hF2 := hw.1.2.2.2.2.2.1
  obtain ⟨F, hF⟩ := Int.eq_ofNat_of_zero_le hF2.1
  simp (disch := first | omega | exact rfl) only [x28_0, x28_1, isF, isK, isH, mK, nl_i, nl_n, nl_o, nl_r, c1_i, c1_r, mPush, mRv, G0_1, true_and, and_true, and_self, implies_true, List.length_nil, List.length_cons, Nat.reduceAdd, Nat.reduceLeDiff, Nat.zero_le, beq_self_eq_true, Nat.reduceBEq, decide_true, Bool.and_self, reduceCtorEq, ne_eq, not_true_eq_false, not_false_eq_true, false_implies, true_implies, Nat.reduceLT, Nat.reduceEqDiff, or_true, true_or, or_false, false_or, or_self, Int.reduceEq, Int.reduceNe, Int.reduceLT, Int.reduceLE, Int.reduceAdd, Int.reduceSub, Int.reduceMul, Int.reduceNeg, Int.reduceToNat, if_true, if_false, Classical.not_not, Int.cast_ofNat_Int]
  refine zq28a hc hs hF (by omega) (fun μ1 k1 => ?_) F 0 (by omega) _ ⟨fun _ _ => rfl, fun g hg => by omega⟩
  simp (disch := first | omega | exact rfl) only [x28_34, x28_35, x28_36, isF, isK, isH, mK, nl_i, nl_n, nl_o, nl_r, c1_i, c1_r, mPush, mRv, G0_1, true_and, and_true, and_self, implies_true, List.length_nil, List.length_cons, Nat.reduceAdd, Nat.reduceLeDiff, Nat.zero_le, beq_self_eq_true, Nat.reduceBEq, decide_true, Bool.and_self, reduceCtorEq, ne_eq, not_true_eq_false, not_false_eq_true, false_implies, true_implies, Nat.reduceLT, Nat.reduceEqDiff, or_true, true_or, or_false, false_or, or_self, Int.reduceEq, Int.reduceNe, Int.reduceLT, Int.reduceLE, Int.reduceAdd, Int.reduceSub, Int.reduceMul, Int.reduceNeg, Int.reduceToNat, if_true, if_false, Classical.not_not, Int.cast_ofNat_Int, kd12, kd13, kd14, kd15, kd16, kd17, kd18, kd19, kd20, kd21, kd22, kd23, rf12_0, rf12_1, rf12_2, rf12_3, rf12_4, rf12_5, rf12_6, rf12_7, rf12_8, rf12_9, rf12_10, rf23_0, rf23_1, rf23_2, rf23_3, rf23_4]
  have hs1 : cRel μ1 c S := cRel_fr (fun x p1 p2 => k1.1 x (by omega)) hs
  refine ct29 hc hs1 hw hN hN20 (fun μ2 k2 k3 => ?_)
  simp (disch := first | omega | exact rfl) only [x28_39, x28_40, isF, isK, isH, mK, nl_i, nl_n, nl_o, nl_r, c1_i, c1_r, mPush, mRv, G0_1, true_and, and_true, and_self, implies_true, List.length_nil, List.length_cons, Nat.reduceAdd, Nat.reduceLeDiff, Nat.zero_le, beq_self_eq_true, Nat.reduceBEq, decide_true, Bool.and_self, reduceCtorEq, ne_eq, not_true_eq_false, not_false_eq_true, false_implies, true_implies, Nat.reduceLT, Nat.reduceEqDiff, or_true, true_or, or_false, false_or, or_self, Int.reduceEq, Int.reduceNe, Int.reduceLT, Int.reduceLE, Int.reduceAdd, Int.reduceSub, Int.reduceMul, Int.reduceNeg, Int.reduceToNat, if_true, if_false, Classical.not_not, Int.cast_ofNat_Int]
  have hs2 : cRel μ2 c S := cRel_fr (fun x p1 p2 => k2 x (by omega)) hs1
  refine zq28b hc hs2 hw hN hN20 (isO_ord N) k3 (fun μ3 k4 => ?_) N 0 (by omega) _ ⟨fun _ _ => rfl, fun f hf => ?_, fun j hj => by omega⟩
  · refine hQ μ3 ?_ ⟨?_, k4.2.1, k4.2.2⟩
    · intro x hx
      rw [k4.1 x (by omega), k2 x (by omega), k1.1 x (by omega)]
    · intro k hk
      rw [k4.1 13 (by omega)]; exact k3 k hk
  · obtain ⟨z1, z2⟩ := k1.2 f (by omega)
    refine ⟨RC_fr z1 (fun x z3 z4 => k2 x (by omega)), ?_⟩
    rw [k2 22 (by omega)]; exact z2
end GOD
