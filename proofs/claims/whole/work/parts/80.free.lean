section FREC
variable {E : ME} {Q : Option MV → MG → MU → Prop} {S : Row}
theorem ct36 {b d : Nat} (hb : b ∈ gRs) (hd : d ∈ gRs) (hbd : b + 4 < d ∨ d + 4 < b) {μ : MU} {f : Nat} {P : MU} (hR : RC μ d S f P) (hQ : ∀ μ' : MU, (∀ x, ¬ (b ≤ x ∧ x ≤ b + 3) → μ' x = μ x) → RC μ' b S f P → Q none G0 μ') :
    Wp E 36 0 [some (.inr (.inr (.inl b))), some (.inr (.inr (.inl d)))] [] G0 μ Q := by
  obtain ⟨qb0, qb1, qb2, qb3, qb4, qb5, qb6, qb7, qb8⟩ := gR_ok b hb
  obtain ⟨d0, d1, d2, d3, d4, d5, d6, d7, d8⟩ := gR_ok d hd
  simp (disch := first | omega | exact rfl) only [x36_0, x36_1, x36_2, x36_5, x36_8, x36_9, x36_12, x36_13, x36_14, x36_17, x36_18, x36_20, x36_23, x36_24, x36_27, x36_28, x36_29, x36_32, x36_33, x36_35, x36_38, x36_39, x36_42, x36_43, x36_44, x36_47, x36_48, x36_50, x36_53, isF, isK, isH, mK, nl_i, nl_n, nl_o, nl_r, c1_i, c1_r, mPush, mRv, G0_1, true_and, and_true, and_self, implies_true, List.length_nil, List.length_cons, Nat.reduceAdd, Nat.reduceLeDiff, Nat.zero_le, beq_self_eq_true, Nat.reduceBEq, decide_true, Bool.and_self, reduceCtorEq, ne_eq, not_true_eq_false, not_false_eq_true, false_implies, true_implies, Nat.reduceLT, Nat.reduceEqDiff, or_true, true_or, or_false, false_or, or_self, Int.reduceEq, Int.reduceNe, Int.reduceLT, Int.reduceLE, Int.reduceAdd, Int.reduceSub, Int.reduceMul, Int.reduceNeg, Int.reduceToNat, if_true, if_false, Classical.not_not, Int.cast_ofNat_Int, qb0, qb1, qb2, qb3, qb4, qb5, qb6, qb7, qb8, d0, d1, d2, d3, d4, d5, d6, d7, d8]
  repeat (refine And.intro (by omega) ?_)
  refine hQ _ ?_ ⟨?_, fun r hr => ⟨?_, ?_, ?_⟩⟩
  · intro x hx
    rw [mCpy_ne (by omega), mCpy_ne (by omega), mCpy_ne (by omega), mUp_ne (by omega)]
  · rw [mCpy_ne (by omega), mCpy_ne (by omega), mCpy_ne (by omega), mUp_eq]; exact hR.1
  · rw [mCpy_ne (by omega), mCpy_ne (by omega), mCpy_0 hr, mUp_ne (by omega)]; exact (hR.2 r hr).1
  · rw [mCpy_ne (by omega), mCpy_0 hr, mCpy_ne (by omega), mUp_ne (by omega)]; exact (hR.2 r hr).2.1
  · rw [mCpy_0 hr, mCpy_ne (by omega), mCpy_ne (by omega), mUp_ne (by omega)]; exact (hR.2 r hr).2.2
theorem zq62 {μ0 : MU} (hs : cRel μ0 1 S) (hw : wfR S) {N f p : Nat} {t q0 : Int} (hN : S 6 = N) (hN20 : N ≤ 20) (hf : f < 5) (hf2 : (f : Int) < S 5) (ho : ∀ k, k < N → μ0 13 k = ord (sT S) N k) (hp : pIn (sT S) (ord (sT S) N) t N = p)
    (hQ : ∀ μ : MU, (∀ x, ¬ (144 ≤ x ∧ x ≤ 148) → μ x = μ0 x) → RC μ 144 S f (fSt S (ord (sT S) N) f p) → Q (some (.inl p)) G0 μ) :
    ∀ (i q : Nat), q + i = p → ∀ (μ : MU) (o5 : Option MV), mNl (some o5) = true → (∀ x, ¬ (144 ≤ x ∧ x ≤ 148) → μ x = μ0 x) → RC μ 144 S f (fSt S (ord (sT S) N) f q) →
    Wp E 62 3 [some (.inr (.inr (.inl 0))), some (.inl t), some (.inl f), some (.inl q0), some (.inl q), o5] [] G0 μ Q := by
  have hO := isO_ord (T := sT S) N
  have hcut := isO_cut hO (q := t)
  have hhi := pIn_hi (T := sT S) (o := ord (sT S) N) (q := t) N
  have hpN := pIn_le (T := sT S) (o := ord (sT S) N) (q := t) N
  rw [hp] at hcut hhi hpN
  generalize ord (sT S) N = o at *
  have hb : (144 : Nat) ∈ gRs := by decide
  intro i
  induction i with
  | zero =>
    intro q hq μ o5 n5 h1 h2
    have eq1 : q = p := by omega
    subst eq1
    have e7 : μ 1 7 = N := by rw [h1 1 (by omega), hs.2.2.1, hN]
    by_cases z : q = N
    · have z1 : (N : Int) ≤ q := by omega
      have z2 : ¬ (q : Int) < N := by omega
      simp (disch := first | omega | exact rfl) only [x62_3, x62_5, x62_6, x62_9, x62_12, x62_95, x62_96, x62_99, x62_102, isF, isK, isH, mK, nl_i, nl_n, nl_o, nl_r, c1_i, c1_r, mPush, mRv, G0_1, true_and, and_true, and_self, implies_true, List.length_nil, List.length_cons, Nat.reduceAdd, Nat.reduceLeDiff, Nat.zero_le, beq_self_eq_true, Nat.reduceBEq, decide_true, Bool.and_self, reduceCtorEq, ne_eq, not_true_eq_false, not_false_eq_true, false_implies, true_implies, Nat.reduceLT, Nat.reduceEqDiff, or_true, true_or, or_false, false_or, or_self, Int.reduceEq, Int.reduceNe, Int.reduceLT, Int.reduceLE, Int.reduceAdd, Int.reduceSub, Int.reduceMul, Int.reduceNeg, Int.reduceToNat, if_true, if_false, Classical.not_not, Int.cast_ofNat_Int, kd0, rf0_0, rf0_1, rf0_2, rf0_3, rf0_4, rf0_5, rf0_6, rf0_7, rf0_8, kd1, e7, z1, z2]
      rw [← z]
      exact hQ μ h1 h2
    · have z1 : ¬ (N : Int) ≤ q := by omega
      have z2 : (q : Int) < N := by omega
      have z3 : (0 : Int) ≤ q := by omega
      have z4 : (q : Int) < 20 := by omega
      have eo : μ 13 q = o q := by rw [h1 13 (by omega)]; exact ho q (by omega)
      have hok := (hO.1 q (by omega)).1
      have eo2 : (0 : Int) ≤ o q := by omega
      have eo3 : (o q : Int) < 20 := by omega
      have hs' : cRel μ 1 S := cRel_fr (fun x p1 p2 => h1 x (by omega)) hs
      have c10 := (hs'.2.2.2.2.2.2 (o q) (by omega) (by omega)).2.2.1
      simp only [Nat.reduceAdd] at c10
      have z5 := hhi q (Nat.le_refl _) (by omega)
      unfold sT at z5
      have z6 : ¬ S (70 + 4 * o q) ≤ t := by omega
      simp (disch := first | omega | exact rfl) only [x62_3, x62_5, x62_6, x62_9, x62_12, x62_15, x62_16, x62_19, x62_22, x62_24, x62_25, x62_27, x62_28, x62_31, x62_34, x62_36, x62_37, x62_38, x62_41, x62_43, isF, isK, isH, mK, nl_i, nl_n, nl_o, nl_r, c1_i, c1_r, mPush, mRv, G0_1, true_and, and_true, and_self, implies_true, List.length_nil, List.length_cons, Nat.reduceAdd, Nat.reduceLeDiff, Nat.zero_le, beq_self_eq_true, Nat.reduceBEq, decide_true, Bool.and_self, reduceCtorEq, ne_eq, not_true_eq_false, not_false_eq_true, false_implies, true_implies, Nat.reduceLT, Nat.reduceEqDiff, or_true, true_or, or_false, false_or, or_self, Int.reduceEq, Int.reduceNe, Int.reduceLT, Int.reduceLE, Int.reduceAdd, Int.reduceSub, Int.reduceMul, Int.reduceNeg, Int.reduceToNat, if_true, if_false, Classical.not_not, Int.cast_ofNat_Int, kd0, rf0_0, rf0_1, rf0_2, rf0_3, rf0_4, rf0_5, rf0_6, rf0_7, rf0_8, kd1, kd2, kd3, kd4, kd5, kd6, kd7, kd8, kd9, kd10, kd11, rf1_0, rf1_1, rf1_3, rf1_4, rf1_5, rf1_6, rf1_8, rf1_9, rf1_10, rf1_11, kd12, kd13, kd14, kd15, kd16, kd17, kd18, kd19, kd20, kd21, kd22, kd23, rf12_0, rf12_1, rf12_2, rf12_3, rf12_4, rf12_5, rf12_6, rf12_7, rf12_8, rf12_9, rf12_10, rf23_0, rf23_1, rf23_2, rf23_3, rf23_4, e7, z1, z2, z3, z4, eo, eo2, eo3, c10, z5, z6, n5, Int.toNat_natCast]
      exact hQ μ h1 h2
  | succ i ih =>
    intro q hq μ o5 n5 h1 h2
    have e7 : μ 1 7 = N := by rw [h1 1 (by omega), hs.2.2.1, hN]
    have z1 : ¬ (N : Int) ≤ q := by omega
    have z2 : (q : Int) < N := by omega
    have z3 : (0 : Int) ≤ q := by omega
    have z4 : (q : Int) < 20 := by omega
    have eI : (q : Int) + 1 = ((q + 1 : Nat) : Int) := by omega
    have eo : μ 13 q = o q := by rw [h1 13 (by omega)]; exact ho q (by omega)
    have hok := (hO.1 q (by omega)).1
    have eo2 : (0 : Int) ≤ o q := by omega
    have eo3 : (o q : Int) < 20 := by omega
    have hs' : cRel μ 1 S := cRel_fr (fun x p1 p2 => h1 x (by omega)) hs
    obtain ⟨c8, c9, c10, _⟩ := hs'.2.2.2.2.2.2 (o q) (by omega) (by omega)
    simp only [Nat.reduceAdd] at c8 c9 c10
    have z5 := hcut q (by omega)
    unfold sT at z5
    have z6 : ¬ t < S (70 + 4 * o q) := by omega
    by_cases y : S (68 + 4 * o q) = f
    · have e2 : fSt S o f (q + 1) = sGo S f (o q) (fSt S o f q) := if_pos y
      have hsk := hw.2.2.2 (o q) (by omega) (by omega)
      have hq1 := (fSt_q hw (o := o) (N := N) (by omega) (fun k hk => (hO.1 k hk).1) hf hf2 q (by omega)).1
      rw [y] at c8
      simp (disch := first | omega | exact rfl) only [x62_3, x62_5, x62_6, x62_9, x62_12, x62_15, x62_16, x62_19, x62_22, x62_24, x62_25, x62_27, x62_28, x62_31, x62_34, x62_36, x62_37, x62_38, x62_44, x62_45, x62_48, x62_51, x62_53, x62_54, x62_55, x62_58, x62_59, x62_62, x62_63, x62_66, x62_67, x62_70, x62_73, x62_75, x62_76, x62_77, x62_80, x62_83, x62_85, x62_86, isF, isK, isH, mK, nl_i, nl_n, nl_o, nl_r, c1_i, c1_r, mPush, mRv, G0_1, true_and, and_true, and_self, implies_true, List.length_nil, List.length_cons, Nat.reduceAdd, Nat.reduceLeDiff, Nat.zero_le, beq_self_eq_true, Nat.reduceBEq, decide_true, Bool.and_self, reduceCtorEq, ne_eq, not_true_eq_false, not_false_eq_true, false_implies, true_implies, Nat.reduceLT, Nat.reduceEqDiff, or_true, true_or, or_false, false_or, or_self, Int.reduceEq, Int.reduceNe, Int.reduceLT, Int.reduceLE, Int.reduceAdd, Int.reduceSub, Int.reduceMul, Int.reduceNeg, Int.reduceToNat, if_true, if_false, Classical.not_not, Int.cast_ofNat_Int, kd0, rf0_0, rf0_1, rf0_2, rf0_3, rf0_4, rf0_5, rf0_6, rf0_7, rf0_8, kd1, kd2, kd3, kd4, kd5, kd6, kd7, kd8, kd9, kd10, kd11, rf1_0, rf1_1, rf1_3, rf1_4, rf1_5, rf1_6, rf1_8, rf1_9, rf1_10, rf1_11, kd12, kd13, kd14, kd15, kd16, kd17, kd18, kd19, kd20, kd21, kd22, kd23, rf12_0, rf12_1, rf12_2, rf12_3, rf12_4, rf12_5, rf12_6, rf12_7, rf12_8, rf12_9, rf12_10, rf23_0, rf23_1, rf23_2, rf23_3, rf23_4, kd144, e7, z1, z2, z3, z4, eo, eo2, eo3, c8, c9, c10, z5, z6, n5, Int.toNat_natCast]
      refine ct37 gC1 hb hw hf hf2 hsk.2.1 hsk.2.2.1 hq1 hs' h2 ?_
      intro μ1 k1 k2 k3 k4
      have k2' : RC μ1 144 S f (fSt S o f (q + 1)) := by rw [e2]; exact k2
      simp (disch := first | omega | exact rfl) only [x62_89, isF, isK, isH, mK, nl_i, nl_n, nl_o, nl_r, c1_i, c1_r, mPush, mRv, G0_1, true_and, and_true, and_self, implies_true, List.length_nil, List.length_cons, Nat.reduceAdd, Nat.reduceLeDiff, Nat.zero_le, beq_self_eq_true, Nat.reduceBEq, decide_true, Bool.and_self, reduceCtorEq, ne_eq, not_true_eq_false, not_false_eq_true, false_implies, true_implies, Nat.reduceLT, Nat.reduceEqDiff, or_true, true_or, or_false, false_or, or_self, Int.reduceEq, Int.reduceNe, Int.reduceLT, Int.reduceLE, Int.reduceAdd, Int.reduceSub, Int.reduceMul, Int.reduceNeg, Int.reduceToNat, if_true, if_false, Classical.not_not, Int.cast_ofNat_Int, mWr_of]
      rw [x62_92, eI]
      exact ih (q + 1) (by omega) μ1 _ rfl (fun x hx => by rw [k1 x (by omega), h1 x hx]) k2'
    · have e2 : fSt S o f (q + 1) = fSt S o f q := if_neg y
      simp (disch := first | omega | exact rfl) only [x62_3, x62_5, x62_6, x62_9, x62_12, x62_15, x62_16, x62_19, x62_22, x62_24, x62_25, x62_27, x62_28, x62_31, x62_34, x62_36, x62_37, x62_38, x62_44, x62_45, x62_48, x62_51, x62_53, x62_54, x62_55, x62_89, isF, isK, isH, mK, nl_i, nl_n, nl_o, nl_r, c1_i, c1_r, mPush, mRv, G0_1, true_and, and_true, and_self, implies_true, List.length_nil, List.length_cons, Nat.reduceAdd, Nat.reduceLeDiff, Nat.zero_le, beq_self_eq_true, Nat.reduceBEq, decide_true, Bool.and_self, reduceCtorEq, ne_eq, not_true_eq_false, not_false_eq_true, false_implies, true_implies, Nat.reduceLT, Nat.reduceEqDiff, or_true, true_or, or_false, false_or, or_self, Int.reduceEq, Int.reduceNe, Int.reduceLT, Int.reduceLE, Int.reduceAdd, Int.reduceSub, Int.reduceMul, Int.reduceNeg, Int.reduceToNat, if_true, if_false, Classical.not_not, Int.cast_ofNat_Int, kd0, rf0_0, rf0_1, rf0_2, rf0_3, rf0_4, rf0_5, rf0_6, rf0_7, rf0_8, kd1, kd2, kd3, kd4, kd5, kd6, kd7, kd8, kd9, kd10, kd11, rf1_0, rf1_1, rf1_3, rf1_4, rf1_5, rf1_6, rf1_8, rf1_9, rf1_10, rf1_11, kd12, kd13, kd14, kd15, kd16, kd17, kd18, kd19, kd20, kd21, kd22, kd23, rf12_0, rf12_1, rf12_2, rf12_3, rf12_4, rf12_5, rf12_6, rf12_7, rf12_8, rf12_9, rf12_10, rf23_0, rf23_1, rf23_2, rf23_3, rf23_4, e7, z1, z2, z3, z4, eo, eo2, eo3, c8, c10, z5, z6, n5, Int.toNat_natCast, y, mWr_of]
      rw [x62_92, eI]
      exact ih (q + 1) (by omega) μ _ rfl h1 (by rw [e2]; exact h2)
theorem zq63 {μ0 : MU} (hs : cRel μ0 1 S) (hw : wfR S) {N f : Nat} {q0 : Int} (hN : S 6 = N) (hN20 : N ≤ 20) (hf : f < 5) (hf2 : (f : Int) < S 5) (hC : CZ μ0 S N) :
    ∀ (n k : Nat), k + n = N → ∀ (μ X : MU) (o4 : Option MV), mNl (some o4) = true → (∀ x, ¬ (149 ≤ x ∧ x ≤ 153) → μ x = μ0 x) → RC μ 149 S f X → qP X →
    (nW S (ord (sT S) N) f n k X → ∀ μ : MU, (∀ x, ¬ (149 ≤ x ∧ x ≤ 153) → μ x = μ0 x) → Q (some (.inl 1)) G0 μ) → (¬ nW S (ord (sT S) N) f n k X → ∀ μ : MU, (∀ x, ¬ (149 ≤ x ∧ x ≤ 153) → μ x = μ0 x) → Q (some (.inl 0)) G0 μ) →
    Wp E 63 2 [some (.inr (.inr (.inl 0))), some (.inl f), some (.inl q0), some (.inl k), o4] [] G0 μ Q := by
  have hO := isO_ord (T := sT S) N
  have hqo := fun j hj => oP_q hw hN hO (j := j) hj
  obtain ⟨ho, _, hy⟩ := hC
  generalize ord (sT S) N = o at *
  have hb : (149 : Nat) ∈ gRs := by decide
  intro n
  induction n with
  | zero =>
    intro k hk μ X o4 n4 h1 h2 hX hq1 hq0
    have z1 : (N : Int) ≤ k := by omega
    have z2 : ¬ (k : Int) < N := by omega
    have e7 : μ 1 7 = N := by rw [h1 1 (by omega), hs.2.2.1, hN]
    simp (disch := first | omega | exact rfl) only [x63_2, x63_3, x63_4, x63_7, x63_10, x63_126, x63_127, isF, isK, isH, mK, nl_i, nl_n, nl_o, nl_r, c1_i, c1_r, mPush, mRv, G0_1, true_and, and_true, and_self, implies_true, List.length_nil, List.length_cons, Nat.reduceAdd, Nat.reduceLeDiff, Nat.zero_le, beq_self_eq_true, Nat.reduceBEq, decide_true, Bool.and_self, reduceCtorEq, ne_eq, not_true_eq_false, not_false_eq_true, false_implies, true_implies, Nat.reduceLT, Nat.reduceEqDiff, or_true, true_or, or_false, false_or, or_self, Int.reduceEq, Int.reduceNe, Int.reduceLT, Int.reduceLE, Int.reduceAdd, Int.reduceSub, Int.reduceMul, Int.reduceNeg, Int.reduceToNat, if_true, if_false, Classical.not_not, Int.cast_ofNat_Int, kd0, rf0_0, rf0_1, rf0_2, rf0_3, rf0_4, rf0_5, rf0_6, rf0_7, rf0_8, kd1, e7, z1, z2]
    exact hq1 trivial μ h1
  | succ n ih =>
    intro k hk μ X o4 n4 h1 h2 hX hq1 hq0
    have e7 : μ 1 7 = N := by rw [h1 1 (by omega), hs.2.2.1, hN]
    have z1 : ¬ (N : Int) ≤ k := by omega
    have z2 : (k : Int) < N := by omega
    have z3 : (0 : Int) ≤ k := by omega
    have z4 : (k : Int) < 20 := by omega
    have eI : (k : Int) + 1 = ((k + 1 : Nat) : Int) := by omega
    have eo : μ 13 k = o k := by rw [h1 13 (by omega)]; exact ho k (by omega)
    have hok := (hO.1 k (by omega)).1
    have eo2 : (0 : Int) ≤ o k := by omega
    have eo3 : (o k : Int) < 20 := by omega
    have hs' : cRel μ 1 S := cRel_fr (fun x p1 p2 => h1 x (by omega)) hs
    obtain ⟨c8, c9, c10, _⟩ := hs'.2.2.2.2.2.2 (o k) (by omega) (by omega)
    simp only [Nat.reduceAdd] at c8 c9 c10
    simp only [nW] at hq1 hq0
    by_cases y : S (68 + 4 * o k) = f
    · rw [if_pos y] at hq1 hq0
      have hsk := hw.2.2.2 (o k) (by omega) (by omega)
      rw [y] at c8
      have hsq := sGo_q hw hf hf2 (k := o k) (by omega) (by omega) hX
      obtain ⟨_, _, y16, y17, _⟩ := hy k (by omega)
      have qo := hqo k (by omega)
      obtain ⟨g1, g2, _⟩ := fmF_lt hw (k := o k) (by omega) (by omega)
      have hrn := (hw.2.2.1 _ g1 g2).1
      have qo2 := (on_pd (by omega) qo.1).1
      simp (disch := first | omega | exact rfl) only [x63_2, x63_3, x63_4, x63_7, x63_10, x63_13, x63_14, x63_17, x63_20, x63_21, x63_22, x63_24, x63_25, x63_28, x63_31, x63_33, x63_34, x63_35, x63_41, x63_42, x63_45, x63_46, x63_49, x63_50, x63_53, x63_56, x63_58, x63_59, x63_60, x63_63, x63_66, x63_68, x63_69, isF, isK, isH, mK, nl_i, nl_n, nl_o, nl_r, c1_i, c1_r, mPush, mRv, G0_1, true_and, and_true, and_self, implies_true, List.length_nil, List.length_cons, Nat.reduceAdd, Nat.reduceLeDiff, Nat.zero_le, beq_self_eq_true, Nat.reduceBEq, decide_true, Bool.and_self, reduceCtorEq, ne_eq, not_true_eq_false, not_false_eq_true, false_implies, true_implies, Nat.reduceLT, Nat.reduceEqDiff, or_true, true_or, or_false, false_or, or_self, Int.reduceEq, Int.reduceNe, Int.reduceLT, Int.reduceLE, Int.reduceAdd, Int.reduceSub, Int.reduceMul, Int.reduceNeg, Int.reduceToNat, if_true, if_false, Classical.not_not, Int.cast_ofNat_Int, kd0, rf0_0, rf0_1, rf0_2, rf0_3, rf0_4, rf0_5, rf0_6, rf0_7, rf0_8, kd1, kd2, kd3, kd4, kd5, kd6, kd7, kd8, kd9, kd10, kd11, rf1_0, rf1_1, rf1_3, rf1_4, rf1_5, rf1_6, rf1_8, rf1_9, rf1_10, rf1_11, kd12, kd13, kd14, kd15, kd16, kd17, kd18, kd19, kd20, kd21, kd22, kd23, rf12_0, rf12_1, rf12_2, rf12_3, rf12_4, rf12_5, rf12_6, rf12_7, rf12_8, rf12_9, rf12_10, rf23_0, rf23_1, rf23_2, rf23_3, rf23_4, kd149, e7, z1, z2, z3, z4, eo, eo2, eo3, c8, c9, c10, n4, Int.toNat_natCast]
      refine ct37 gC1 hb hw hf hf2 hsk.2.1 hsk.2.2.1 hX hs' h2 ?_
      intro μ1 k1 k2 k3 k4
      have eG : rRun S f (S (69 + 4 * o k)) (S (70 + 4 * o k)) (S (23 + 9 * f)).toNat (sBeg (S (70 + 4 * o k)) X) = sGo S f (o k) X := rfl
      rw [eG] at k2 k3
      have w6 := k3.2.1
      have w7 := k3.2.2.1
      have f1 : ∀ x, ¬ (149 ≤ x ∧ x ≤ 153) → μ1 x = μ0 x := fun x hx => by rw [k1 x (by omega), h1 x hx]
      have y16' : μ1 16 (o k) = oP S o k 5 1 := by rw [f1 16 (by omega)]; exact y16
      have y17' : μ1 17 (o k) = oP S o k 5 2 := by rw [f1 17 (by omega)]; exact y17
      by_cases a1 : sGo S f (o k) X 5 1 ≤ oP S o k 5 1
      · have a1' : ¬ oP S o k 5 1 < sGo S f (o k) X 5 1 := by omega
        by_cases a2 : on (sGo S f (o k) X 5 2) ≤ on (oP S o k 5 2)
        · have a2' : ¬ on (oP S o k 5 2) < on (sGo S f (o k) X 5 2) := by omega
          simp (disch := first | omega | exact rfl) only [x63_72, x63_73, x63_76, x63_79, x63_80, x63_83, x63_86, x63_88, x63_89, x63_92, x63_93, x63_96, x63_99, x63_102, x63_103, x63_106, x63_109, x63_111, x63_112, x63_115, x63_120, isF, isK, isH, mK, nl_i, nl_n, nl_o, nl_r, c1_i, c1_r, mPush, mRv, G0_1, true_and, and_true, and_self, implies_true, List.length_nil, List.length_cons, Nat.reduceAdd, Nat.reduceLeDiff, Nat.zero_le, beq_self_eq_true, Nat.reduceBEq, decide_true, Bool.and_self, reduceCtorEq, ne_eq, not_true_eq_false, not_false_eq_true, false_implies, true_implies, Nat.reduceLT, Nat.reduceEqDiff, or_true, true_or, or_false, false_or, or_self, Int.reduceEq, Int.reduceNe, Int.reduceLT, Int.reduceLE, Int.reduceAdd, Int.reduceSub, Int.reduceMul, Int.reduceNeg, Int.reduceToNat, if_true, if_false, Classical.not_not, Int.cast_ofNat_Int, kd0, rf0_0, rf0_1, rf0_2, rf0_3, rf0_4, rf0_5, rf0_6, rf0_7, rf0_8, kd12, kd13, kd14, kd15, kd16, kd17, kd18, kd19, kd20, kd21, kd22, kd23, rf12_0, rf12_1, rf12_2, rf12_3, rf12_4, rf12_5, rf12_6, rf12_7, rf12_8, rf12_9, rf12_10, rf23_0, rf23_1, rf23_2, rf23_3, rf23_4, kd149, eo2, eo3, w6, w7, y16', y17', a1, a1', a2, a2', ct142 hsq.2, ct142 qo2, Int.toNat_natCast, mWr_of]
          rw [x63_123, eI]
          exact ih (k + 1) (by omega) μ1 _ _ rfl f1 k2 hsq.1 (fun v => hq1 ⟨⟨a1, a2⟩, v⟩) (fun v => hq0 (fun u => v u.2))
        · have a2' : on (oP S o k 5 2) < on (sGo S f (o k) X 5 2) := by omega
          simp (disch := first | omega | exact rfl) only [x63_72, x63_73, x63_76, x63_79, x63_80, x63_83, x63_86, x63_88, x63_89, x63_92, x63_93, x63_96, x63_99, x63_102, x63_103, x63_106, x63_109, x63_111, x63_112, x63_115, x63_118, x63_119, isF, isK, isH, mK, nl_i, nl_n, nl_o, nl_r, c1_i, c1_r, mPush, mRv, G0_1, true_and, and_true, and_self, implies_true, List.length_nil, List.length_cons, Nat.reduceAdd, Nat.reduceLeDiff, Nat.zero_le, beq_self_eq_true, Nat.reduceBEq, decide_true, Bool.and_self, reduceCtorEq, ne_eq, not_true_eq_false, not_false_eq_true, false_implies, true_implies, Nat.reduceLT, Nat.reduceEqDiff, or_true, true_or, or_false, false_or, or_self, Int.reduceEq, Int.reduceNe, Int.reduceLT, Int.reduceLE, Int.reduceAdd, Int.reduceSub, Int.reduceMul, Int.reduceNeg, Int.reduceToNat, if_true, if_false, Classical.not_not, Int.cast_ofNat_Int, kd0, rf0_0, rf0_1, rf0_2, rf0_3, rf0_4, rf0_5, rf0_6, rf0_7, rf0_8, kd12, kd13, kd14, kd15, kd16, kd17, kd18, kd19, kd20, kd21, kd22, kd23, rf12_0, rf12_1, rf12_2, rf12_3, rf12_4, rf12_5, rf12_6, rf12_7, rf12_8, rf12_9, rf12_10, rf23_0, rf23_1, rf23_2, rf23_3, rf23_4, kd149, eo2, eo3, w6, w7, y16', y17', a1, a1', a2, a2', ct142 hsq.2, ct142 qo2, Int.toNat_natCast]
          exact hq0 (fun u => a2 u.1.2) μ1 f1
      · have a1' : oP S o k 5 1 < sGo S f (o k) X 5 1 := by omega
        simp (disch := first | omega | exact rfl) only [x63_72, x63_73, x63_76, x63_79, x63_80, x63_83, x63_86, x63_88, x63_89, x63_118, x63_119, isF, isK, isH, mK, nl_i, nl_n, nl_o, nl_r, c1_i, c1_r, mPush, mRv, G0_1, true_and, and_true, and_self, implies_true, List.length_nil, List.length_cons, Nat.reduceAdd, Nat.reduceLeDiff, Nat.zero_le, beq_self_eq_true, Nat.reduceBEq, decide_true, Bool.and_self, reduceCtorEq, ne_eq, not_true_eq_false, not_false_eq_true, false_implies, true_implies, Nat.reduceLT, Nat.reduceEqDiff, or_true, true_or, or_false, false_or, or_self, Int.reduceEq, Int.reduceNe, Int.reduceLT, Int.reduceLE, Int.reduceAdd, Int.reduceSub, Int.reduceMul, Int.reduceNeg, Int.reduceToNat, if_true, if_false, Classical.not_not, Int.cast_ofNat_Int, kd0, rf0_0, rf0_1, rf0_2, rf0_3, rf0_4, rf0_5, rf0_6, rf0_7, rf0_8, kd12, kd13, kd14, kd15, kd16, kd17, kd18, kd19, kd20, kd21, kd22, kd23, rf12_0, rf12_1, rf12_2, rf12_3, rf12_4, rf12_5, rf12_6, rf12_7, rf12_8, rf12_9, rf12_10, rf23_0, rf23_1, rf23_2, rf23_3, rf23_4, kd149, eo2, eo3, w6, w7, y16', y17', a1, a1', Int.toNat_natCast]
        exact hq0 (fun u => a1 u.1.1) μ1 f1
    · rw [if_neg y] at hq1 hq0
      simp (disch := first | omega | exact rfl) only [x63_2, x63_3, x63_4, x63_7, x63_10, x63_13, x63_14, x63_17, x63_20, x63_21, x63_22, x63_24, x63_25, x63_28, x63_31, x63_33, x63_34, x63_35, x63_38, x63_120, isF, isK, isH, mK, nl_i, nl_n, nl_o, nl_r, c1_i, c1_r, mPush, mRv, G0_1, true_and, and_true, and_self, implies_true, List.length_nil, List.length_cons, Nat.reduceAdd, Nat.reduceLeDiff, Nat.zero_le, beq_self_eq_true, Nat.reduceBEq, decide_true, Bool.and_self, reduceCtorEq, ne_eq, not_true_eq_false, not_false_eq_true, false_implies, true_implies, Nat.reduceLT, Nat.reduceEqDiff, or_true, true_or, or_false, false_or, or_self, Int.reduceEq, Int.reduceNe, Int.reduceLT, Int.reduceLE, Int.reduceAdd, Int.reduceSub, Int.reduceMul, Int.reduceNeg, Int.reduceToNat, if_true, if_false, Classical.not_not, Int.cast_ofNat_Int, kd0, rf0_0, rf0_1, rf0_2, rf0_3, rf0_4, rf0_5, rf0_6, rf0_7, rf0_8, kd1, kd2, kd3, kd4, kd5, kd6, kd7, kd8, kd9, kd10, kd11, rf1_0, rf1_1, rf1_3, rf1_4, rf1_5, rf1_6, rf1_8, rf1_9, rf1_10, rf1_11, kd12, kd13, kd14, kd15, kd16, kd17, kd18, kd19, kd20, kd21, kd22, kd23, rf12_0, rf12_1, rf12_2, rf12_3, rf12_4, rf12_5, rf12_6, rf12_7, rf12_8, rf12_9, rf12_10, rf23_0, rf23_1, rf23_2, rf23_3, rf23_4, e7, z1, z2, z3, z4, eo, eo2, eo3, c8, n4, Int.toNat_natCast, y, mWr_of]
      rw [x63_123, eI]
      exact ih (k + 1) (by omega) μ X _ rfl h1 h2 hX hq1 hq0
end FREC
