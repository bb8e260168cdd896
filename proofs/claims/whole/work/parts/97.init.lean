section INI3
variable {E : ME} {Q : Option MV → MG → MU → Prop}
theorem GS_tr {a b c : MG} {n m : Nat} (h1 : GS a b n) (h2 : GS b c m) (h : n ≤ m) : GS a c n := fun x hx => ⟨(h2 x (by omega)).1.trans (h1 x hx).1, fun k => ((h2 x (by omega)).2 k).trans ((h1 x hx).2 k)⟩
theorem rfG {a : Nat} {l : List (Option Nat)} (h : gRf.getD a [] = l) (k : Nat) : mRf G0 a k = l.getD k none := by
  show (gRf.getD a []).getD k none = _
  rw [h]
theorem ct18 {g : MG} {μ : MU} (hA : GA g 129) (hk : mKd g 128 = (2, 0)) (hr : ∀ k, mRf g 128 k = none)
    (hQ : ∀ (g' : MG) (μ' : MU), GA g' 131 → g'.2.1 = g.2.1 + 84 → GS g g' 128 → GE g' 128 131 → (∀ x, x < 128 → μ' x = μ x) → μ' 128 2 = 0 → Q none g' μ') :
    Wp E 18 0 [some (.inr (.inr (.inl 128)))] [] g μ Q := by
  obtain ⟨hg, hA2⟩ := hA
  have ok0 : mOk 1 0 = true := rfl
  simp (disch := first | omega | exact rfl | (simp only [gr_1, st_1, hg]; done) | (simp only [gr_1, st_1, hg]; omega)) only [x18_0, x18_1, x18_4, x18_5, x18_7, x18_9, x18_12, x18_13, x18_14, x18_16, x18_19, x18_20, x18_21, x18_24, x18_25, x18_26, x18_29, x18_30, x18_31, x18_34, x18_35, x18_36, x18_39, isF, isK, isH, mK, nl_i, nl_n, nl_o, nl_r, c1_i, c1_r, mPush, mRv, G0_1, true_and, and_true, and_self, implies_true, List.length_nil, List.length_cons, Nat.reduceAdd, Nat.reduceLeDiff, Nat.zero_le, beq_self_eq_true, Nat.reduceBEq, decide_true, Bool.and_self, reduceCtorEq, ne_eq, not_true_eq_false, not_false_eq_true, false_implies, true_implies, Nat.reduceLT, Nat.reduceEqDiff, or_true, true_or, or_false, false_or, or_self, Int.reduceEq, Int.reduceNe, Int.reduceLT, Int.reduceLE, Int.reduceAdd, Int.reduceSub, Int.reduceMul, Int.reduceNeg, Int.reduceToNat, if_true, if_false, Classical.not_not, Int.cast_ofNat_Int, gr_1, st_1, hg, gr_kn, gr_ke, st_k, hk, Nat.add_assoc, ok0]
  refine hQ _ _ ⟨by simp only [gr_1, st_1, hg], fun x hx => ⟨?_, fun k => ?_⟩⟩ (by simp only [gr_s, st_s, Nat.add_assoc, Int.reduceToNat, Nat.reduceAdd]) (fun x hx => ⟨?_, fun k => ?_⟩) (fun x h1 h2 => ?_) (fun x hx => ?_) ?_
  · simp (disch := first | omega | exact rfl | (simp only [gr_1, st_1, hg]; done) | (simp only [gr_1, st_1, hg]; omega)) only [gr_kn, st_k]; exact (hA2 x (by omega)).1
  · simp (disch := first | omega | exact rfl | (simp only [gr_1, st_1, hg]; done) | (simp only [gr_1, st_1, hg]; omega)) only [gr_rn, st_rn]; exact (hA2 x (by omega)).2 k
  · simp (disch := first | omega | exact rfl | (simp only [gr_1, st_1, hg]; done) | (simp only [gr_1, st_1, hg]; omega)) only [gr_kn, st_k]
  · simp (disch := first | omega | exact rfl | (simp only [gr_1, st_1, hg]; done) | (simp only [gr_1, st_1, hg]; omega)) only [gr_rn, st_rn]
  · have h3 : x = 128 ∨ x = 129 ∨ x = 130 := by omega
    rcases h3 with z | z | z <;> subst z
    · refine ⟨?_, fun k => ?_⟩
      · simp (disch := first | omega | exact rfl | (simp only [gr_1, st_1, hg]; done) | (simp only [gr_1, st_1, hg]; omega)) only [gr_kn, st_k, hk]; rfl
      · simp (disch := first | omega | exact rfl | (simp only [gr_1, st_1, hg]; done) | (simp only [gr_1, st_1, hg]; omega)) only [gr_rn, st_ra, hr]
        rw [rfG (l := [some 129, some 130]) rfl]
        by_cases k0 : k = 0
        · subst k0; rfl
        by_cases k1 : k = 1
        · subst k1; rfl
        rw [if_neg k1, if_neg k0]
        obtain ⟨j, rfl⟩ : ∃ j, k = j + 2 := ⟨k - 2, by omega⟩
        rfl
    · refine ⟨?_, fun k => ?_⟩
      · simp (disch := first | omega | exact rfl | (simp only [gr_1, st_1, hg]; done) | (simp only [gr_1, st_1, hg]; omega)) only [gr_kn, gr_ke, st_k]; rfl
      · simp (disch := first | omega | exact rfl | (simp only [gr_1, st_1, hg]; done) | (simp only [gr_1, st_1, hg]; omega)) only [gr_rn, gr_re, st_rn]; exact (rfG (l := []) rfl k).symm
    · refine ⟨?_, fun k => ?_⟩
      · simp (disch := first | omega | exact rfl | (simp only [gr_1, st_1, hg]; done) | (simp only [gr_1, st_1, hg]; omega)) only [gr_kn, gr_ke, st_k]; rfl
      · simp (disch := first | omega | exact rfl | (simp only [gr_1, st_1, hg]; done) | (simp only [gr_1, st_1, hg]; omega)) only [gr_rn, gr_re, st_rn]; exact (rfG (l := []) rfl k).symm
  · simp (disch := omega) only [mUp_ne, ze_n]
  · simp (disch := omega) only [mUp_nj, mUp_eq]
/-- a row of references that is laid to the place q -/
def RW (g : MG) (a w q : Nat) : Prop := ∀ k, mRf g a k = if k < q then some (a + 1 + w * k) else none
theorem rw50 : ∀ k, mRf G0 50 k = if k < 7 then some (50 + 1 + 11 * k) else none := by
  intro k
  rw [rfG (l := [some 51, some 62, some 73, some 84, some 95, some 106, some 117]) rfl]
  by_cases h : k < 7
  · have h2 : k = 0 ∨ k = 1 ∨ k = 2 ∨ k = 3 ∨ k = 4 ∨ k = 5 ∨ k = 6 := by omega
    rcases h2 with z | z | z | z | z | z | z <;> subst z <;> rfl
  · rw [if_neg h]
    obtain ⟨j, rfl⟩ : ∃ j, k = j + 7 := ⟨k - 7, by omega⟩
    rfl
theorem rw23 : ∀ k, mRf G0 23 k = if k < 5 then some (23 + 1 + 5 * k) else none := by
  intro k
  rw [rfG (l := [some 24, some 29, some 34, some 39, some 44]) rfl]
  by_cases h : k < 5
  · have h2 : k = 0 ∨ k = 1 ∨ k = 2 ∨ k = 3 ∨ k = 4 := by omega
    rcases h2 with z | z | z | z | z <;> subst z <;> rfl
  · rw [if_neg h]
    obtain ⟨j, rfl⟩ : ∃ j, k = j + 5 := ⟨k - 5, by omega⟩
    rfl
theorem zq14 {g0 : MG} {μ0 : MU} (hk0 : mKd g0 49 = (1, 0)) (hr0 : ∀ k, mRf g0 49 k = if k = 0 then some 50 else none) (hk1 : mKd g0 50 = (13, 7))
    (hQ : ∀ (g' : MG) (μ' : MU), GA g' 128 → g'.2.1 = g0.2.1 + 158 * 7 → GS g0 g' 50 → GE g' 51 128 → mKd g' 50 = (13, 7) → RW g' 50 11 7 → (∀ x, x < 51 → μ' x = μ0 x) → Q none g' μ') :
    ∀ (m q : Nat), q + m = 7 → ∀ (g : MG) (μ : MU), GA g (51 + 11 * q) → g.2.1 = g0.2.1 + 158 * q → GS g0 g 50 → GE g 51 (51 + 11 * q) → mKd g 50 = (13, 7) → RW g 50 11 q → (∀ x, x < 51 → μ x = μ0 x) →
    Wp E 14 25 [some (.inr (.inr (.inl 49))), some (.inl q)] [] g μ Q := by
  intro m
  induction m with
  | zero =>
    intro q hq g μ h1 h2 h3 h4 h5 h6 h7
    have e : q = 7 := by omega
    subst e
    simp (disch := first | omega | exact rfl) only [x14_25, x14_26, x14_28, x14_50, isF, isK, isH, mK, nl_i, nl_n, nl_o, nl_r, c1_i, c1_r, mPush, mRv, G0_1, true_and, and_true, and_self, implies_true, List.length_nil, List.length_cons, Nat.reduceAdd, Nat.reduceLeDiff, Nat.zero_le, beq_self_eq_true, Nat.reduceBEq, decide_true, Bool.and_self, reduceCtorEq, ne_eq, not_true_eq_false, not_false_eq_true, false_implies, true_implies, Nat.reduceLT, Nat.reduceEqDiff, or_true, true_or, or_false, false_or, or_self, Int.reduceEq, Int.reduceNe, Int.reduceLT, Int.reduceLE, Int.reduceAdd, Int.reduceSub, Int.reduceMul, Int.reduceNeg, Int.reduceToNat, if_true, if_false, Classical.not_not, Int.cast_ofNat_Int]
    exact hQ g μ h1 h2 h3 h4 h5 h6 h7
  | succ m ih =>
    intro q hq g μ h1 h2 h3 h4 h5 h6 h7
    have e1 : ¬ (7 : Int) ≤ q := by omega
    have e2 : (q : Int) < 7 := by omega
    have e3 : (0 : Int) ≤ q := by omega
    have eI : (q : Int) + 1 = ((q + 1 : Nat) : Int) := by omega
    have hc : 51 + 11 * q ∈ gCs := by
      have h : ∀ q : Fin 7, 51 + 11 * (q : Nat) ∈ gCs := by decide
      exact h ⟨q, by omega⟩
    obtain ⟨hg, hA2⟩ := h1
    have k49 : mKd g 49 = (1, 0) := (h3 49 (by omega)).1.trans hk0
    have r49 : mRf g 49 0 = some 50 := ((h3 49 (by omega)).2 0).trans (hr0 0)
    simp (disch := first | omega | exact rfl | (simp only [gr_1, st_1, hg]; done) | (simp only [gr_1, st_1, hg]; omega)) only [x14_25, x14_26, x14_28, x14_31, x14_32, x14_35, x14_36, x14_39, x14_40, isF, isK, isH, mK, nl_i, nl_n, nl_o, nl_r, c1_i, c1_r, mPush, mRv, G0_1, true_and, and_true, and_self, implies_true, List.length_nil, List.length_cons, Nat.reduceAdd, Nat.reduceLeDiff, Nat.zero_le, beq_self_eq_true, Nat.reduceBEq, decide_true, Bool.and_self, reduceCtorEq, ne_eq, not_true_eq_false, not_false_eq_true, false_implies, true_implies, Nat.reduceLT, Nat.reduceEqDiff, or_true, true_or, or_false, false_or, or_self, Int.reduceEq, Int.reduceNe, Int.reduceLT, Int.reduceLE, Int.reduceAdd, Int.reduceSub, Int.reduceMul, Int.reduceNeg, Int.reduceToNat, if_true, if_false, Classical.not_not, Int.cast_ofNat_Int, e1, e2, k49, r49, hg, gr_ke, mC1]
    refine ct0 hc ⟨by rw [gr_1, hg], fun x hx => ⟨?_, fun k => ?_⟩⟩ (gr_ke hg.symm) (fun k => gr_re hg.symm) (fun g1 μ1 m1 m2 m3 m4 m5 _ => ?_)
    · rw [gr_kn (by omega)]; exact (hA2 x (by omega)).1
    · rw [gr_rn (by omega)]; exact (hA2 x (by omega)).2 k
    obtain ⟨n1, n2⟩ := m1
    have kc : mKd g1 (51 + 11 * q) = (0, 0) := (m4 _ (by omega) (by omega)).1.trans (gC_ok _ hc).1
    have k50 : mKd g1 50 = (13, 7) := ((m3 50 (by omega)).1.trans (gr_kn (by omega))).trans h5
    have n1' : g1.1 = (mGrow g (0, 0) 12).1 + 10 := by rw [gr_1, hg]; exact n1
    have m2' : g1.2.1 = (mGrow g (0, 0) 12).2.1 + 146 := m2
    refine ⟨⟨n1', m2'⟩, ?_⟩
    simp (disch := first | omega | exact rfl) only [x14_43, x14_44, isF, isK, isH, mK, nl_i, nl_n, nl_o, nl_r, c1_i, c1_r, mPush, mRv, G0_1, true_and, and_true, and_self, implies_true, List.length_nil, List.length_cons, Nat.reduceAdd, Nat.reduceLeDiff, Nat.zero_le, beq_self_eq_true, Nat.reduceBEq, decide_true, Bool.and_self, reduceCtorEq, ne_eq, not_true_eq_false, not_false_eq_true, false_implies, true_implies, Nat.reduceLT, Nat.reduceEqDiff, or_true, true_or, or_false, false_or, or_self, Int.reduceEq, Int.reduceNe, Int.reduceLT, Int.reduceLE, Int.reduceAdd, Int.reduceSub, Int.reduceMul, Int.reduceNeg, Int.reduceToNat, if_true, if_false, Classical.not_not, Int.cast_ofNat_Int, kc, k50, e2, e3, mWr_of, Int.toNat_natCast]
    rw [x14_47, eI]
    refine ih (q + 1) (by omega) _ μ1 ⟨?_, fun x hx => ⟨?_, fun k => ?_⟩⟩ ?_ (fun x hx => ⟨?_, fun k => ?_⟩) (fun x z1 z2 => ⟨?_, fun k => ?_⟩) ?_ (fun k => ?_) (fun x hx => ?_)
    · rw [st_1, n1]; omega
    · rw [st_k]; exact (n2 x (by omega)).1
    · rw [st_rn (by omega)]; exact (n2 x (by omega)).2 k
    · rw [st_s, m2, gr_s, h2]; omega
    · rw [st_k, (m3 x (by omega)).1, gr_kn (by omega)]; exact (h3 x hx).1
    · rw [st_rn (by omega), (m3 x (by omega)).2 k, gr_rn (by omega)]; exact (h3 x hx).2 k
    · rw [st_k]
      by_cases w : x < 51 + 11 * q
      · rw [(m3 x w).1, gr_kn (by omega)]; exact (h4 x z1 w).1
      · exact (m4 x (by omega) (by omega)).1
    · rw [st_rn (by omega)]
      by_cases w : x < 51 + 11 * q
      · rw [(m3 x w).2 k, gr_rn (by omega)]; exact (h4 x z1 w).2 k
      · exact (m4 x (by omega) (by omega)).2 k
    · rw [st_k]; exact k50
    · rw [st_ra]
      by_cases w : k = q
      · rw [if_pos w, if_pos (by omega), w]
      · rw [if_neg w, (m3 50 (by omega)).2 k, gr_rn (by omega), h6 k]
        by_cases w2 : k < q
        · rw [if_pos w2, if_pos (by omega)]
        · rw [if_neg w2, if_neg (by omega)]
    · rw [m5 x (by omega), ze_n (by omega)]; exact h7 x hx
theorem ct14 {g : MG} {μ : MU} (hA : GA g 50) (hk : mKd g 49 = (1, 0)) (hr : ∀ k, mRf g 49 k = none)
    (hQ : ∀ (g' : MG) (μ' : MU), GA g' 128 → g'.2.1 = g.2.1 + 1113 → GS g g' 49 → GE g' 49 128 → (∀ x, x < 49 → μ' x = μ x) → μ' 49 1 = 0 → μ' 49 2 = 0 → Q none g' μ') :
    Wp E 14 0 [some (.inr (.inr (.inl 49))), none] [] g μ Q := by
  obtain ⟨hg, hA2⟩ := hA
  simp (disch := first | omega | exact rfl | (simp only [gr_1, st_1, hg]; done) | (simp only [gr_1, st_1, hg]; omega)) only [x14_0, x14_1, x14_4, x14_5, x14_7, x14_10, x14_13, x14_14, x14_15, x14_18, x14_19, x14_20, x14_23, x14_24, x14_26, x14_28, x14_31, x14_32, x14_35, x14_36, x14_39, x14_40, x14_43, x14_44, x14_47, x14_50, isF, isK, isH, mK, nl_i, nl_n, nl_o, nl_r, c1_i, c1_r, mPush, mRv, G0_1, true_and, and_true, and_self, implies_true, List.length_nil, List.length_cons, Nat.reduceAdd, Nat.reduceLeDiff, Nat.zero_le, beq_self_eq_true, Nat.reduceBEq, decide_true, Bool.and_self, reduceCtorEq, ne_eq, not_true_eq_false, not_false_eq_true, false_implies, true_implies, Nat.reduceLT, Nat.reduceEqDiff, or_true, true_or, or_false, false_or, or_self, Int.reduceEq, Int.reduceNe, Int.reduceLT, Int.reduceLE, Int.reduceAdd, Int.reduceSub, Int.reduceMul, Int.reduceNeg, Int.reduceToNat, if_true, if_false, Classical.not_not, Int.cast_ofNat_Int, gr_1, st_1, hg, gr_kn, gr_ke, st_k, hk, Nat.add_assoc]
  refine zq14 (g0 := mSetR (mGrow g (13, 7) 7) 49 0 (some 50)) (μ0 := mUp (mUp (mZero μ 50) 49 1 0) 49 2 0) ?_ (fun k => ?_) ?_ (fun g1 μ1 k1 k2 k3 k4 k5 k6 k7 => ?_) 7 0 (by omega) _ _ ⟨by simp only [gr_1, st_1, hg], fun x hx => ⟨?_, fun k => ?_⟩⟩ (by omega) (fun x hx => ⟨rfl, fun k => rfl⟩) (fun x z1 z2 => by omega) ?_ (fun k => ?_) (fun x hx => rfl)
  · simp (disch := first | omega | exact rfl | (simp only [gr_1, st_1, hg]; done) | (simp only [gr_1, st_1, hg]; omega)) only [gr_kn, st_k, hk]
  · simp (disch := first | omega | exact rfl | (simp only [gr_1, st_1, hg]; done) | (simp only [gr_1, st_1, hg]; omega)) only [gr_rn, st_ra, hr]
  · simp (disch := first | omega | exact rfl | (simp only [gr_1, st_1, hg]; done) | (simp only [gr_1, st_1, hg]; omega)) only [gr_kn, gr_ke, st_k]
  · refine hQ g1 μ1 k1 ?_ (fun x hx => ⟨?_, fun k => ?_⟩) (fun x z1 z2 => ?_) (fun x hx => ?_) ?_ ?_
    · rw [k2, st_s, gr_s]
    · rw [(k3 x (by omega)).1, st_k, gr_kn (by omega)]
    · rw [(k3 x (by omega)).2 k, st_rn (by omega), gr_rn (by omega)]
    · by_cases w : x = 49
      · subst w
        refine ⟨?_, fun k => ?_⟩
        · rw [(k3 49 (by omega)).1, st_k, gr_kn (by omega), hk]; rfl
        · rw [(k3 49 (by omega)).2 k, st_ra, gr_rn (by omega), hr, rfG (l := [some 50]) rfl]
          by_cases k0 : k = 0
          · subst k0; rfl
          · rw [if_neg k0]
            obtain ⟨j, rfl⟩ : ∃ j, k = j + 1 := ⟨k - 1, by omega⟩
            rfl
      · by_cases w2 : x = 50
        · subst w2
          refine ⟨k5, fun k => ?_⟩
          rw [k6 k, rw50]
        · exact k4 x (by omega) z2
    · rw [k7 x (by omega), mUp_ne (by omega), mUp_ne (by omega), ze_n (by omega)]
    · rw [k7 49 (by omega), mUp_nj (by omega), mUp_eq]
    · rw [k7 49 (by omega), mUp_eq]
  · simp (disch := first | omega | exact rfl | (simp only [gr_1, st_1, hg]; done) | (simp only [gr_1, st_1, hg]; omega)) only [gr_kn, st_k]; exact (hA2 x (by omega)).1
  · simp (disch := first | omega | exact rfl | (simp only [gr_1, st_1, hg]; done) | (simp only [gr_1, st_1, hg]; omega)) only [gr_rn, st_rn]; exact (hA2 x (by omega)).2 k
  · simp (disch := first | omega | exact rfl | (simp only [gr_1, st_1, hg]; done) | (simp only [gr_1, st_1, hg]; omega)) only [gr_ke, st_k]
  · simp (disch := first | omega | exact rfl | (simp only [gr_1, st_1, hg]; done) | (simp only [gr_1, st_1, hg]; omega)) only [gr_re, st_rn]
    rw [if_neg (by omega)]
end INI3
