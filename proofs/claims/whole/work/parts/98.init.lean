section INI4
variable {E : ME} {Q : Option MV → MG → MU → Prop}
theorem zq27 {g0 : MG} {μ0 : MU} (hk0 : mKd g0 12 = (3, 0)) (hr0 : mRf g0 12 10 = some 23)
    (hQ : ∀ (g' : MG) (μ' : MU), GA g' 49 → g'.2.1 = g0.2.1 + 33 * 5 → GS g0 g' 23 → GE g' 24 49 → mKd g' 23 = (14, 5) → RW g' 23 5 5 → (∀ x, x < 24 → μ' x = μ0 x) → Q none g' μ') :
    ∀ (m q : Nat), q + m = 5 → ∀ (g : MG) (μ : MU), GA g (24 + 5 * q) → g.2.1 = g0.2.1 + 33 * q → GS g0 g 23 → GE g 24 (24 + 5 * q) → mKd g 23 = (14, 5) → RW g 23 5 q → (∀ x, x < 24 → μ x = μ0 x) →
    Wp E 27 93 [some (.inr (.inr (.inl 12))), some (.inl q)] [] g μ Q := by
  intro m
  induction m with
  | zero =>
    intro q hq g μ h1 h2 h3 h4 h5 h6 h7
    have e : q = 5 := by omega
    subst e
    simp (disch := first | omega | exact rfl) only [x27_93, x27_94, x27_95, x27_117, isF, isK, isH, mK, nl_i, nl_n, nl_o, nl_r, c1_i, c1_r, mPush, mRv, G0_1, true_and, and_true, and_self, implies_true, List.length_nil, List.length_cons, Nat.reduceAdd, Nat.reduceLeDiff, Nat.zero_le, beq_self_eq_true, Nat.reduceBEq, decide_true, Bool.and_self, reduceCtorEq, ne_eq, not_true_eq_false, not_false_eq_true, false_implies, true_implies, Nat.reduceLT, Nat.reduceEqDiff, or_true, true_or, or_false, false_or, or_self, Int.reduceEq, Int.reduceNe, Int.reduceLT, Int.reduceLE, Int.reduceAdd, Int.reduceSub, Int.reduceMul, Int.reduceNeg, Int.reduceToNat, if_true, if_false, Classical.not_not, Int.cast_ofNat_Int]
    exact hQ g μ h1 h2 h3 h4 h5 h6 h7
  | succ m ih =>
    intro q hq g μ h1 h2 h3 h4 h5 h6 h7
    have e1 : ¬ (5 : Int) ≤ q := by omega
    have e2 : (q : Int) < 5 := by omega
    have e3 : (0 : Int) ≤ q := by omega
    have eI : (q : Int) + 1 = ((q + 1 : Nat) : Int) := by omega
    have hc : 24 + 5 * q ∈ gRs := gR_m (by omega)
    obtain ⟨hg, hA2⟩ := h1
    have k12 : mKd g 12 = (3, 0) := (h3 12 (by omega)).1.trans hk0
    have r12 : mRf g 12 10 = some 23 := ((h3 12 (by omega)).2 10).trans hr0
    simp (disch := first | omega | exact rfl | (simp only [gr_1, st_1, hg]; done) | (simp only [gr_1, st_1, hg]; omega)) only [x27_93, x27_94, x27_95, x27_98, x27_99, x27_102, x27_103, x27_106, x27_107, isF, isK, isH, mK, nl_i, nl_n, nl_o, nl_r, c1_i, c1_r, mPush, mRv, G0_1, true_and, and_true, and_self, implies_true, List.length_nil, List.length_cons, Nat.reduceAdd, Nat.reduceLeDiff, Nat.zero_le, beq_self_eq_true, Nat.reduceBEq, decide_true, Bool.and_self, reduceCtorEq, ne_eq, not_true_eq_false, not_false_eq_true, false_implies, true_implies, Nat.reduceLT, Nat.reduceEqDiff, or_true, true_or, or_false, false_or, or_self, Int.reduceEq, Int.reduceNe, Int.reduceLT, Int.reduceLE, Int.reduceAdd, Int.reduceSub, Int.reduceMul, Int.reduceNeg, Int.reduceToNat, if_true, if_false, Classical.not_not, Int.cast_ofNat_Int, e1, e2, k12, r12, hg, gr_ke, mC1]
    refine ct34 hc ⟨by rw [gr_1, hg], fun x hx => ⟨?_, fun k => ?_⟩⟩ (gr_ke hg.symm) (fun k => gr_re hg.symm) (fun g1 μ1 m1 m2 m3 m4 m5 => ?_)
    · rw [gr_kn (by omega)]; exact (hA2 x (by omega)).1
    · rw [gr_rn (by omega)]; exact (hA2 x (by omega)).2 k
    obtain ⟨n1, n2⟩ := m1
    have kc : mKd g1 (24 + 5 * q) = (4, 0) := (m4 _ (by omega) (by omega)).1.trans (gR_ok _ hc).1
    have k23 : mKd g1 23 = (14, 5) := ((m3 23 (by omega)).1.trans (gr_kn (by omega))).trans h5
    have n1' : g1.1 = (mGrow g (4, 0) 9).1 + 4 := by rw [gr_1, hg]; exact n1
    refine ⟨⟨n1', m2⟩, ?_⟩
    simp (disch := first | omega | exact rfl) only [x27_110, x27_111, isF, isK, isH, mK, nl_i, nl_n, nl_o, nl_r, c1_i, c1_r, mPush, mRv, G0_1, true_and, and_true, and_self, implies_true, List.length_nil, List.length_cons, Nat.reduceAdd, Nat.reduceLeDiff, Nat.zero_le, beq_self_eq_true, Nat.reduceBEq, decide_true, Bool.and_self, reduceCtorEq, ne_eq, not_true_eq_false, not_false_eq_true, false_implies, true_implies, Nat.reduceLT, Nat.reduceEqDiff, or_true, true_or, or_false, false_or, or_self, Int.reduceEq, Int.reduceNe, Int.reduceLT, Int.reduceLE, Int.reduceAdd, Int.reduceSub, Int.reduceMul, Int.reduceNeg, Int.reduceToNat, if_true, if_false, Classical.not_not, Int.cast_ofNat_Int, kc, k23, e2, e3, mWr_of, Int.toNat_natCast]
    rw [x27_114, eI]
    refine ih (q + 1) (by omega) _ μ1 ⟨?_, fun x hx => ⟨?_, fun k => ?_⟩⟩ ?_ (fun x hx => ⟨?_, fun k => ?_⟩) (fun x z1 z2 => ⟨?_, fun k => ?_⟩) ?_ (fun k => ?_) (fun x hx => ?_)
    · rw [st_1, n1]; omega
    · rw [st_k]; exact (n2 x (by omega)).1
    · rw [st_rn (by omega)]; exact (n2 x (by omega)).2 k
    · rw [st_s, m2, gr_s, h2]; omega
    · rw [st_k, (m3 x (by omega)).1, gr_kn (by omega)]; exact (h3 x hx).1
    · rw [st_rn (by omega), (m3 x (by omega)).2 k, gr_rn (by omega)]; exact (h3 x hx).2 k
    · rw [st_k]
      by_cases w : x < 24 + 5 * q
      · rw [(m3 x w).1, gr_kn (by omega)]; exact (h4 x z1 w).1
      · exact (m4 x (by omega) (by omega)).1
    · rw [st_rn (by omega)]
      by_cases w : x < 24 + 5 * q
      · rw [(m3 x w).2 k, gr_rn (by omega)]; exact (h4 x z1 w).2 k
      · exact (m4 x (by omega) (by omega)).2 k
    · rw [st_k]; exact k23
    · rw [st_ra]
      by_cases w : k = q
      · rw [if_pos w, if_pos (by omega), w]
      · rw [if_neg w, (m3 23 (by omega)).2 k, gr_rn (by omega), h6 k]
        by_cases w2 : k < q
        · rw [if_pos w2, if_pos (by omega)]
        · rw [if_neg w2, if_neg (by omega)]
    · rw [m5 x (by omega), ze_n (by omega)]; exact h7 x hx
theorem rf12 : ∀ k, mRf G0 12 k = if k = 10 then some 23 else if k = 9 then some 22 else if k = 8 then some 21 else if k = 7 then some 20 else if k = 6 then some 19 else if k = 5 then some 18 else if k = 4 then some 17 else if k = 3 then some 16 else if k = 2 then some 15 else if k = 1 then some 14 else if k = 0 then some 13 else none := by
  intro k
  rw [rfG (l := [some 13, some 14, some 15, some 16, some 17, some 18, some 19, some 20, some 21, some 22, some 23]) rfl]
  by_cases h : k < 11
  · have h2 : k = 0 ∨ k = 1 ∨ k = 2 ∨ k = 3 ∨ k = 4 ∨ k = 5 ∨ k = 6 ∨ k = 7 ∨ k = 8 ∨ k = 9 ∨ k = 10 := by omega
    rcases h2 with z | z | z | z | z | z | z | z | z | z | z <;> subst z <;> rfl
  · rw [if_neg (by omega), if_neg (by omega), if_neg (by omega), if_neg (by omega), if_neg (by omega), if_neg (by omega), if_neg (by omega), if_neg (by omega), if_neg (by omega), if_neg (by omega), if_neg (by omega)]
    obtain ⟨j, rfl⟩ : ∃ j, k = j + 11 := ⟨k - 11, by omega⟩
    rfl
theorem ct27 {g : MG} {μ : MU} (hA : GA g 13) (hk : mKd g 12 = (3, 0)) (hr : ∀ k, mRf g 12 k = none)
    (hQ : ∀ (g' : MG) (μ' : MU), GA g' 49 → g'.2.1 = g.2.1 + 455 → GS g g' 12 → GE g' 12 49 → (∀ x, x < 12 → μ' x = μ x) → Q none g' μ') :
    Wp E 27 0 [some (.inr (.inr (.inl 12))), none] [] g μ Q := by
  obtain ⟨hg, hA2⟩ := hA
  simp (disch := first | omega | exact rfl | (simp only [gr_1, st_1, hg]; done) | (simp only [gr_1, st_1, hg]; omega)) only [x27_0, x27_1, x27_4, x27_5, x27_7, x27_9, x27_12, x27_13, x27_15, x27_17, x27_20, x27_21, x27_23, x27_25, x27_28, x27_29, x27_31, x27_33, x27_36, x27_37, x27_39, x27_41, x27_44, x27_45, x27_47, x27_49, x27_52, x27_53, x27_55, x27_57, x27_60, x27_61, x27_63, x27_65, x27_68, x27_69, x27_71, x27_73, x27_76, x27_77, x27_78, x27_80, x27_83, x27_84, x27_85, x27_88, x27_91, x27_92, x27_94, x27_95, x27_98, x27_99, x27_102, x27_103, x27_106, x27_107, x27_110, x27_111, x27_114, x27_117, isF, isK, isH, mK, nl_i, nl_n, nl_o, nl_r, c1_i, c1_r, mPush, mRv, G0_1, true_and, and_true, and_self, implies_true, List.length_nil, List.length_cons, Nat.reduceAdd, Nat.reduceLeDiff, Nat.zero_le, beq_self_eq_true, Nat.reduceBEq, decide_true, Bool.and_self, reduceCtorEq, ne_eq, not_true_eq_false, not_false_eq_true, false_implies, true_implies, Nat.reduceLT, Nat.reduceEqDiff, or_true, true_or, or_false, false_or, or_self, Int.reduceEq, Int.reduceNe, Int.reduceLT, Int.reduceLE, Int.reduceAdd, Int.reduceSub, Int.reduceMul, Int.reduceNeg, Int.reduceToNat, if_true, if_false, Classical.not_not, Int.cast_ofNat_Int, gr_1, st_1, hg, gr_kn, gr_ke, st_k, hk, Nat.add_assoc]
  refine zq27 (g0 := _) (μ0 := _) ?_ ?_ (fun g1 μ1 k1 k2 k3 k4 k5 k6 k7 => ?_) 5 0 (by omega) _ _ ⟨by simp only [gr_1, st_1, hg], fun x hx => ⟨?_, fun k => ?_⟩⟩ (by omega) (fun x hx => ⟨rfl, fun k => rfl⟩) (fun x z1 z2 => by omega) ?_ (fun k => ?_) (fun x hx => rfl)
  · simp (disch := first | omega | exact rfl | (simp only [gr_1, st_1, hg]; done) | (simp only [gr_1, st_1, hg]; omega)) only [gr_kn, st_k, hk]
  · simp (disch := first | omega | exact rfl | (simp only [gr_1, st_1, hg]; done) | (simp only [gr_1, st_1, hg]; omega)) only [gr_rn, st_ra, hr, if_true]
  · refine hQ g1 μ1 k1 ?_ (fun x hx => ⟨?_, fun k => ?_⟩) (fun x z1 z2 => ?_) (fun x hx => ?_)
    · rw [k2]; simp only [gr_s, st_s, Int.reduceToNat]
    · rw [(k3 x (by omega)).1]; simp (disch := first | omega | exact rfl | (simp only [gr_1, st_1, hg]; done) | (simp only [gr_1, st_1, hg]; omega)) only [gr_kn, st_k]
    · rw [(k3 x (by omega)).2 k]; simp (disch := first | omega | exact rfl | (simp only [gr_1, st_1, hg]; done) | (simp only [gr_1, st_1, hg]; omega)) only [gr_rn, st_rn]
    · by_cases w : x < 23
      · have h3 : x = 12 ∨ x = 13 ∨ x = 14 ∨ x = 15 ∨ x = 16 ∨ x = 17 ∨ x = 18 ∨ x = 19 ∨ x = 20 ∨ x = 21 ∨ x = 22 := by omega
        refine ⟨?_, fun k => ?_⟩
        · rw [(k3 x w).1]
          rcases h3 with z | z | z | z | z | z | z | z | z | z | z <;> subst z <;> simp (disch := first | omega | exact rfl | (simp only [gr_1, st_1, hg]; done) | (simp only [gr_1, st_1, hg]; omega)) only [gr_kn, gr_ke, st_k, hk] <;> rfl
        · rw [(k3 x w).2 k]
          rcases h3 with z | z | z | z | z | z | z | z | z | z | z <;> subst z
          · simp (disch := first | omega | exact rfl | (simp only [gr_1, st_1, hg]; done) | (simp only [gr_1, st_1, hg]; omega)) only [gr_rn, st_ra, hr]; exact (rf12 k).symm
          all_goals
            simp (disch := first | omega | exact rfl | (simp only [gr_1, st_1, hg]; done) | (simp only [gr_1, st_1, hg]; omega)) only [gr_rn, gr_re, st_rn]; exact (rfG (l := []) rfl k).symm
      · by_cases w2 : x = 23
        · subst w2
          refine ⟨k5, fun k => ?_⟩
          rw [k6 k, rw23]
        · exact k4 x (by omega) z2
    · rw [k7 x (by omega)]; simp (disch := omega) only [mUp_ne, ze_n]
  · simp (disch := first | omega | exact rfl | (simp only [gr_1, st_1, hg]; done) | (simp only [gr_1, st_1, hg]; omega)) only [gr_kn, st_k]; exact (hA2 x (by omega)).1
  · simp (disch := first | omega | exact rfl | (simp only [gr_1, st_1, hg]; done) | (simp only [gr_1, st_1, hg]; omega)) only [gr_rn, st_rn]; exact (hA2 x (by omega)).2 k
  · simp (disch := first | omega | exact rfl | (simp only [gr_1, st_1, hg]; done) | (simp only [gr_1, st_1, hg]; omega)) only [gr_ke, st_k]
  · simp (disch := first | omega | exact rfl | (simp only [gr_1, st_1, hg]; done) | (simp only [gr_1, st_1, hg]; omega)) only [gr_re, st_rn]
    rw [if_neg (by omega)]
/-- the heap to the place n, with the references r in the object 0; the row 131 is laid later -/
def HB (g : MG) (n : Nat) (r : Nat → Option Nat) : Prop := GA g n ∧ mKd g 0 = (5, 0) ∧ (∀ k, mRf g 0 k = r k) ∧ ∀ x, 1 ≤ x → x < n → ¬ x = 131 → mKd g x = mKd G0 x ∧ ∀ k, mRf g x k = mRf G0 x k
theorem HB_g {g : MG} {n : Nat} {r : Nat → Option Nat} {kd : Nat × Nat} {s : Nat} (h : HB g n r) : GA (mGrow g kd s) (n + 1) ∧ mKd (mGrow g kd s) n = kd ∧ ∀ k, mRf (mGrow g kd s) n k = none := by
  obtain ⟨⟨hg, hA⟩, _⟩ := h
  refine ⟨⟨by rw [gr_1, hg], fun x hx => ⟨?_, fun k => ?_⟩⟩, gr_ke hg.symm, fun k => gr_re hg.symm⟩
  · rw [gr_kn (by omega)]; exact (hA x (by omega)).1
  · rw [gr_rn (by omega)]; exact (hA x (by omega)).2 k
theorem HB_c {g g1 : MG} {n n' i : Nat} {r : Nat → Option Nat} {kd : Nat × Nat} {s : Nat} (h : HB g n r) (hn : 1 ≤ n) (h1 : GA g1 n') (h2 : GS (mGrow g kd s) g1 n) (h3 : GE g1 n n') (hn' : n ≤ n') : HB (mSetR g1 0 i (some n)) n' (fun k => if k = i then some n else r k) := by
  obtain ⟨⟨hg, hA⟩, hk, hr, hE⟩ := h
  refine ⟨⟨by rw [st_1]; exact h1.1, fun x hx => ⟨by rw [st_k]; exact (h1.2 x hx).1, fun k => by rw [st_rn (by omega)]; exact (h1.2 x hx).2 k⟩⟩, ?_, fun k => ?_, fun x z1 z2 z3 => ⟨?_, fun k => ?_⟩⟩
  · rw [st_k, (h2 0 (by omega)).1, gr_kn (by omega)]; exact hk
  · show _ = if k = i then some n else r k
    rw [st_ra]
    by_cases w : k = i
    · rw [if_pos w, if_pos w]
    · rw [if_neg w, if_neg w, (h2 0 (by omega)).2 k, gr_rn (by omega)]; exact hr k
  · rw [st_k]
    by_cases w : x < n
    · rw [(h2 x w).1, gr_kn (by omega)]; exact (hE x z1 w z3).1
    · exact (h3 x (by omega) z2).1
  · rw [st_rn (by omega)]
    by_cases w : x < n
    · rw [(h2 x w).2 k, gr_rn (by omega)]; exact (hE x z1 w z3).2 k
    · exact (h3 x (by omega) z2).2 k
/-- the row 131, laid to the place q -/
def R1 (g : MG) (q : Nat) : Prop := mKd g 131 = (13, 2) ∧ ∀ k, mRf g 131 k = if k < q then some (154 + 11 * k) else none
theorem R1_c {g g1 : MG} {n i q : Nat} {kd : Nat × Nat} {s : Nat} {v : Option Nat} (h : R1 g q) (hg : g.1 = n) (hn : 132 ≤ n) (h2 : GS (mGrow g kd s) g1 n) : R1 (mSetR g1 0 i v) q := by
  refine ⟨?_, fun k => ?_⟩
  · rw [st_k, (h2 131 (by omega)).1, gr_kn (by omega)]; exact h.1
  · rw [st_rn (by omega), (h2 131 (by omega)).2 k, gr_rn (by omega)]; exact h.2 k
end INI4
