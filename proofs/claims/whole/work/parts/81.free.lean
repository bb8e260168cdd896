section FREC2
variable {E : ME} {Q : Option MV → MG → MU → Prop} {S : Row}
/-- the cut behind the shows that begin at t or earlier -/
def pM (S : Row) (N : Nat) (t : Int) : Nat := pIn (sT S) (ord (sT S) N) t N
def FR (S : Row) (N f : Nat) (h t : Int) : Prop := FRc S (ord (sT S) N) N f h t (pM S N t)
/-- v is the first minute for a show more, or none -/
def AN (S : Row) (N f : Nat) (h a v : Int) : Prop := (v = -6 ∧ ∀ t, a ≤ t → t ≤ 1439 → ¬ FR S N f h t) ∨ ((a ≤ v ∧ v ≤ 1439 ∧ FR S N f h v) ∧ ∀ t, a ≤ t → t < v → ¬ FR S N f h t)
theorem zq60 {μ0 : MU} (hs : cRel μ0 1 S) (hw : wfR S) {N f : Nat} {h a : Int} (hN : S 6 = N) (hN20 : N ≤ 20) (hf : f < 5) (hf2 : (f : Int) < S 5) (hh : isH h) (ha : 0 ≤ a) (hC : CZ μ0 S N)
    (hQ : ∀ (v : Int) (μ : MU), AN S N f h a v → (∀ x, ¬ (144 ≤ x ∧ x ≤ 153) → μ x = μ0 x) → Q (some (.inl v)) G0 μ) :
    ∀ (i : Nat) (t : Int), t + i = 1440 → a ≤ t → (∀ u, a ≤ u → u < t → ¬ FR S N f h u) → ∀ (μ : MU) (q : Nat), q ≤ pM S N t → (∀ x, ¬ (144 ≤ x ∧ x ≤ 153) → μ x = μ0 x) → RC μ 144 S f (fSt S (ord (sT S) N) f q) →
    Wp E 60 78 [some (.inr (.inr (.inl 0))), some (.inl f), some (.inl h), some (.inl a), some (.inl q), some (.inl t)] [] G0 μ Q := by
  have hO := isO_ord (T := sT S) N
  have h144 : (144 : Nat) ∈ gRs := by decide
  have h149 : (149 : Nat) ∈ gRs := by decide
  intro i
  induction i with
  | zero =>
    intro t ht hat hno μ q hq h1 h2
    have e1 : 1439 < t := by omega
    have e2 : ¬ t ≤ 1439 := by omega
    simp (disch := first | omega | exact rfl) only [x60_78, x60_80, x60_83, x60_161, x60_163, isF, isK, isH, mK, nl_i, nl_n, nl_o, nl_r, c1_i, c1_r, mPush, mRv, G0_1, true_and, and_true, and_self, implies_true, List.length_nil, List.length_cons, Nat.reduceAdd, Nat.reduceLeDiff, Nat.zero_le, beq_self_eq_true, Nat.reduceBEq, decide_true, Bool.and_self, reduceCtorEq, ne_eq, not_true_eq_false, not_false_eq_true, false_implies, true_implies, Nat.reduceLT, Nat.reduceEqDiff, or_true, true_or, or_false, false_or, or_self, Int.reduceEq, Int.reduceNe, Int.reduceLT, Int.reduceLE, Int.reduceAdd, Int.reduceSub, Int.reduceMul, Int.reduceNeg, Int.reduceToNat, if_true, if_false, Classical.not_not, Int.cast_ofNat_Int, e1, e2]
    exact hQ (-6) μ (Or.inl ⟨rfl, fun u z1 z2 => hno u z1 (by omega)⟩) h1
  | succ i ih =>
    intro t ht hat hno μ q hq h1 h2
    have e1 : ¬ 1439 < t := by omega
    have e2 : t ≤ 1439 := by omega
    have hs1 : cRel μ 1 S := cRel_fr (fun x p1 p2 => h1 x (by omega)) hs
    have ho1 : ∀ k, k < N → μ 13 k = ord (sT S) N k := fun k hk => by rw [h1 13 (by omega)]; exact hC.1 k hk
    simp (disch := first | omega | exact rfl) only [x60_78, x60_80, x60_83, x60_86, x60_87, x60_89, x60_90, x60_92, x62_0, x62_1, isF, isK, isH, mK, nl_i, nl_n, nl_o, nl_r, c1_i, c1_r, mPush, mRv, G0_1, true_and, and_true, and_self, implies_true, List.length_nil, List.length_cons, Nat.reduceAdd, Nat.reduceLeDiff, Nat.zero_le, beq_self_eq_true, Nat.reduceBEq, decide_true, Bool.and_self, reduceCtorEq, ne_eq, not_true_eq_false, not_false_eq_true, false_implies, true_implies, Nat.reduceLT, Nat.reduceEqDiff, or_true, true_or, or_false, false_or, or_self, Int.reduceEq, Int.reduceNe, Int.reduceLT, Int.reduceLE, Int.reduceAdd, Int.reduceSub, Int.reduceMul, Int.reduceNeg, Int.reduceToNat, if_true, if_false, Classical.not_not, Int.cast_ofNat_Int, kd0, rf0_0, rf0_1, rf0_2, rf0_3, rf0_4, rf0_5, rf0_6, rf0_7, rf0_8, e1, e2]
    refine zq62 (μ0 := μ) (p := pM S N t) hs1 hw hN hN20 hf hf2 ho1 rfl (fun μ1 k1 k2 => ?_) (pM S N t - q) q (by omega) μ none rfl (fun _ _ => rfl) h2
    simp (disch := first | omega | exact rfl) only [x60_95, x60_97, x60_98, x60_101, x60_102, x60_105, isF, isK, isH, mK, nl_i, nl_n, nl_o, nl_r, c1_i, c1_r, mPush, mRv, G0_1, true_and, and_true, and_self, implies_true, List.length_nil, List.length_cons, Nat.reduceAdd, Nat.reduceLeDiff, Nat.zero_le, beq_self_eq_true, Nat.reduceBEq, decide_true, Bool.and_self, reduceCtorEq, ne_eq, not_true_eq_false, not_false_eq_true, false_implies, true_implies, Nat.reduceLT, Nat.reduceEqDiff, or_true, true_or, or_false, false_or, or_self, Int.reduceEq, Int.reduceNe, Int.reduceLT, Int.reduceLE, Int.reduceAdd, Int.reduceSub, Int.reduceMul, Int.reduceNeg, Int.reduceToNat, if_true, if_false, Classical.not_not, Int.cast_ofNat_Int, kd0, rf0_0, rf0_1, rf0_2, rf0_3, rf0_4, rf0_5, rf0_6, rf0_7, rf0_8, kd149, kd144]
    refine ct36 h149 h144 (by omega) k2 (fun μ2 k3 k4 => ?_)
    have f2 : ∀ x, ¬ (144 ≤ x ∧ x ≤ 153) → μ2 x = μ0 x := fun x hx => by rw [k3 x (by omega), k1 x (by omega), h1 x hx]
    have hs2 : cRel μ2 1 S := cRel_fr (fun x p1 p2 => f2 x (by omega)) hs
    have hp := pIn_le (T := sT S) (o := ord (sT S) N) (q := t) N
    have hqp := (fSt_q hw (o := ord (sT S) N) (N := N) (by omega) (fun k hk => (hO.1 k hk).1) hf hf2 (pM S N t) hp).1
    have hrn := (hw.2.2.1 f hf hf2).1
    have hqx := (rRun_q hw (f := f) hh (t := t) ⟨by omega, e2⟩ hqp (S (23 + 9 * f)).toNat (by omega)).1
    simp (disch := first | omega | exact rfl) only [x60_108, x60_109, x60_112, x60_113, x60_116, x60_117, x60_119, isF, isK, isH, mK, nl_i, nl_n, nl_o, nl_r, c1_i, c1_r, mPush, mRv, G0_1, true_and, and_true, and_self, implies_true, List.length_nil, List.length_cons, Nat.reduceAdd, Nat.reduceLeDiff, Nat.zero_le, beq_self_eq_true, Nat.reduceBEq, decide_true, Bool.and_self, reduceCtorEq, ne_eq, not_true_eq_false, not_false_eq_true, false_implies, true_implies, Nat.reduceLT, Nat.reduceEqDiff, or_true, true_or, or_false, false_or, or_self, Int.reduceEq, Int.reduceNe, Int.reduceLT, Int.reduceLE, Int.reduceAdd, Int.reduceSub, Int.reduceMul, Int.reduceNeg, Int.reduceToNat, if_true, if_false, Classical.not_not, Int.cast_ofNat_Int, kd0, rf0_0, rf0_1, rf0_2, rf0_3, rf0_4, rf0_5, rf0_6, rf0_7, rf0_8, kd149, kd1]
    refine ct37 gC1 h149 hw hf hf2 hh ⟨by omega, e2⟩ hqp hs2 k4 (fun μ3 k5 k6 k7 k8 => ?_)
    have eX : rRun S f h t (S (23 + 9 * f)).toNat (sBeg t (fSt S (ord (sT S) N) f (pM S N t))) = xN S (ord (sT S) N) f h t (pM S N t) := rfl
    rw [eX] at k6 k7 hqx
    have f3 : ∀ x, ¬ (144 ≤ x ∧ x ≤ 153) → μ3 x = μ0 x := fun x hx => by rw [k5 x (by omega), f2 x hx]
    have r144 : RC μ3 144 S f (fSt S (ord (sT S) N) f (pM S N t)) := RC_fr k2 (fun x z1 z2 => by rw [k5 x (by omega), k3 x (by omega)])
    have w6 := k7.2.1
    have w7 := k7.2.2.1
    have hpm : pM S N t ≤ pM S N (t + 1) := pIn_mono hO (by omega)
    have next : ∀ μ' : MU, (∀ x, ¬ (149 ≤ x ∧ x ≤ 153) → μ' x = μ3 x) → ¬ FR S N f h t → Wp E 60 155 [some (.inr (.inr (.inl 0))), some (.inl f), some (.inl h), some (.inl a), some (.inl (pM S N t)), some (.inl t)] [] G0 μ' Q := by
      intro μ' g1 g2
      simp (disch := first | omega | exact rfl) only [x60_155, isF, isK, isH, mK, nl_i, nl_n, nl_o, nl_r, c1_i, c1_r, mPush, mRv, G0_1, true_and, and_true, and_self, implies_true, List.length_nil, List.length_cons, Nat.reduceAdd, Nat.reduceLeDiff, Nat.zero_le, beq_self_eq_true, Nat.reduceBEq, decide_true, Bool.and_self, reduceCtorEq, ne_eq, not_true_eq_false, not_false_eq_true, false_implies, true_implies, Nat.reduceLT, Nat.reduceEqDiff, or_true, true_or, or_false, false_or, or_self, Int.reduceEq, Int.reduceNe, Int.reduceLT, Int.reduceLE, Int.reduceAdd, Int.reduceSub, Int.reduceMul, Int.reduceNeg, Int.reduceToNat, if_true, if_false, Classical.not_not, Int.cast_ofNat_Int, mWr_of]
      rw [x60_158]
      refine ih (t + 1) (by omega) (by omega) ?_ μ' (pM S N t) hpm (fun x hx => by rw [g1 x (by omega), f3 x hx]) (RC_fr r144 (fun x z1 z2 => g1 x (by omega)))
      intro u z1 z2
      by_cases y : u = t
      · rw [y]; exact g2
      · exact hno u z1 (by omega)
    by_cases y1 : xN S (ord (sT S) N) f h t (pM S N t) 5 1 = 0
    · by_cases y2 : xN S (ord (sT S) N) f h t (pM S N t) 5 2 = 0
      · rw [y1] at w6
        rw [y2] at w7
        simp (disch := first | omega | exact rfl) only [x60_122, x60_123, x60_126, x60_129, x60_132, x60_133, x60_136, x60_139, x60_142, x60_143, x60_144, x60_146, x63_0, x63_1, isF, isK, isH, mK, nl_i, nl_n, nl_o, nl_r, c1_i, c1_r, mPush, mRv, G0_1, true_and, and_true, and_self, implies_true, List.length_nil, List.length_cons, Nat.reduceAdd, Nat.reduceLeDiff, Nat.zero_le, beq_self_eq_true, Nat.reduceBEq, decide_true, Bool.and_self, reduceCtorEq, ne_eq, not_true_eq_false, not_false_eq_true, false_implies, true_implies, Nat.reduceLT, Nat.reduceEqDiff, or_true, true_or, or_false, false_or, or_self, Int.reduceEq, Int.reduceNe, Int.reduceLT, Int.reduceLE, Int.reduceAdd, Int.reduceSub, Int.reduceMul, Int.reduceNeg, Int.reduceToNat, if_true, if_false, Classical.not_not, Int.cast_ofNat_Int, kd0, rf0_0, rf0_1, rf0_2, rf0_3, rf0_4, rf0_5, rf0_6, rf0_7, rf0_8, kd149, w6, w7]
        have hs3 : cRel μ3 1 S := cRel_fr (fun x p1 p2 => f3 x (by omega)) hs
        have hC3 : CZ μ3 S N := by
          obtain ⟨c1, c2, c3⟩ := hC
          refine ⟨fun k hk => by rw [f3 13 (by omega)]; exact c1 k hk, fun f hf => ?_, fun j hj => ?_⟩
          · obtain ⟨d1, d2⟩ := c2 f hf
            have h5 := hw.1.2.2.2.2.2.1
            exact ⟨RC_fr d1 (fun x z1 z2 => f3 x (by omega)), by rw [f3 22 (by omega)]; exact d2⟩
          · have d := c3 j hj
            unfold RY at d ⊢
            rw [f3 14 (by omega), f3 15 (by omega), f3 16 (by omega), f3 17 (by omega), f3 18 (by omega), f3 19 (by omega), f3 20 (by omega), f3 21 (by omega)]
            exact d
        refine zq63 (μ0 := μ3) hs3 hw hN hN20 hf hf2 hC3 (N - pM S N t) (pM S N t) (by unfold pM; omega) μ3 _ none rfl (fun _ _ => rfl) k6 hqx (fun z μ4 g => ?_) (fun z μ4 g => ?_)
        · simp (disch := first | omega | exact rfl) only [x60_149, x60_152, x60_154, isF, isK, isH, mK, nl_i, nl_n, nl_o, nl_r, c1_i, c1_r, mPush, mRv, G0_1, true_and, and_true, and_self, implies_true, List.length_nil, List.length_cons, Nat.reduceAdd, Nat.reduceLeDiff, Nat.zero_le, beq_self_eq_true, Nat.reduceBEq, decide_true, Bool.and_self, reduceCtorEq, ne_eq, not_true_eq_false, not_false_eq_true, false_implies, true_implies, Nat.reduceLT, Nat.reduceEqDiff, or_true, true_or, or_false, false_or, or_self, Int.reduceEq, Int.reduceNe, Int.reduceLT, Int.reduceLE, Int.reduceAdd, Int.reduceSub, Int.reduceMul, Int.reduceNeg, Int.reduceToNat, if_true, if_false, Classical.not_not, Int.cast_ofNat_Int]
          exact hQ t μ4 (Or.inr ⟨⟨hat, e2, y1, y2, z⟩, hno⟩) (fun x hx => by rw [g x (by omega), f3 x hx])
        · simp (disch := first | omega | exact rfl) only [x60_149, isF, isK, isH, mK, nl_i, nl_n, nl_o, nl_r, c1_i, c1_r, mPush, mRv, G0_1, true_and, and_true, and_self, implies_true, List.length_nil, List.length_cons, Nat.reduceAdd, Nat.reduceLeDiff, Nat.zero_le, beq_self_eq_true, Nat.reduceBEq, decide_true, Bool.and_self, reduceCtorEq, ne_eq, not_true_eq_false, not_false_eq_true, false_implies, true_implies, Nat.reduceLT, Nat.reduceEqDiff, or_true, true_or, or_false, false_or, or_self, Int.reduceEq, Int.reduceNe, Int.reduceLT, Int.reduceLE, Int.reduceAdd, Int.reduceSub, Int.reduceMul, Int.reduceNeg, Int.reduceToNat, if_true, if_false, Classical.not_not, Int.cast_ofNat_Int]
          exact next μ4 g (fun v => z v.2.2)
      · rw [y1] at w6
        have w7' : ¬ μ3 149 7 = 0 := by rw [w7]; exact y2
        simp (disch := first | omega | exact rfl) only [x60_122, x60_123, x60_126, x60_129, x60_132, x60_133, x60_136, x60_139, isF, isK, isH, mK, nl_i, nl_n, nl_o, nl_r, c1_i, c1_r, mPush, mRv, G0_1, true_and, and_true, and_self, implies_true, List.length_nil, List.length_cons, Nat.reduceAdd, Nat.reduceLeDiff, Nat.zero_le, beq_self_eq_true, Nat.reduceBEq, decide_true, Bool.and_self, reduceCtorEq, ne_eq, not_true_eq_false, not_false_eq_true, false_implies, true_implies, Nat.reduceLT, Nat.reduceEqDiff, or_true, true_or, or_false, false_or, or_self, Int.reduceEq, Int.reduceNe, Int.reduceLT, Int.reduceLE, Int.reduceAdd, Int.reduceSub, Int.reduceMul, Int.reduceNeg, Int.reduceToNat, if_true, if_false, Classical.not_not, Int.cast_ofNat_Int, kd0, rf0_0, rf0_1, rf0_2, rf0_3, rf0_4, rf0_5, rf0_6, rf0_7, rf0_8, kd149, w6, w7']
        exact next μ3 (fun _ _ => rfl) (fun v => y2 v.2.1)
    · have w6' : ¬ μ3 149 6 = 0 := by rw [w6]; exact y1
      simp (disch := first | omega | exact rfl) only [x60_122, x60_123, x60_126, x60_129, isF, isK, isH, mK, nl_i, nl_n, nl_o, nl_r, c1_i, c1_r, mPush, mRv, G0_1, true_and, and_true, and_self, implies_true, List.length_nil, List.length_cons, Nat.reduceAdd, Nat.reduceLeDiff, Nat.zero_le, beq_self_eq_true, Nat.reduceBEq, decide_true, Bool.and_self, reduceCtorEq, ne_eq, not_true_eq_false, not_false_eq_true, false_implies, true_implies, Nat.reduceLT, Nat.reduceEqDiff, or_true, true_or, or_false, false_or, or_self, Int.reduceEq, Int.reduceNe, Int.reduceLT, Int.reduceLE, Int.reduceAdd, Int.reduceSub, Int.reduceMul, Int.reduceNeg, Int.reduceToNat, if_true, if_false, Classical.not_not, Int.cast_ofNat_Int, kd0, rf0_0, rf0_1, rf0_2, rf0_3, rf0_4, rf0_5, rf0_6, rf0_7, rf0_8, kd149, w6']
      exact next μ3 (fun _ _ => rfl) (fun v => y1 v.1)
end FREC2
