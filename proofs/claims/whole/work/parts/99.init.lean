section INI5
variable {E : ME} {Q : Option MV → MG → MU → Prop}
theorem rf0 : ∀ k, mRf G0 0 k = if k = 8 then some 149 else if k = 7 then some 144 else if k = 6 then some 133 else if k = 5 then some 132 else if k = 4 then some 131 else if k = 3 then some 128 else if k = 2 then some 49 else if k = 1 then some 12 else if k = 0 then some 1 else none := by
  intro k
  rw [rfG (l := [some 1, some 12, some 49, some 128, some 131, some 132, some 133, some 144, some 149]) rfl]
  by_cases h : k < 9
  · have h2 : k = 0 ∨ k = 1 ∨ k = 2 ∨ k = 3 ∨ k = 4 ∨ k = 5 ∨ k = 6 ∨ k = 7 ∨ k = 8 := by omega
    rcases h2 with z | z | z | z | z | z | z | z | z <;> subst z <;> rfl
  · rw [if_neg (by omega), if_neg (by omega), if_neg (by omega), if_neg (by omega), if_neg (by omega), if_neg (by omega), if_neg (by omega), if_neg (by omega), if_neg (by omega)]
    obtain ⟨j, rfl⟩ : ∃ j, k = j + 9 := ⟨k - 9, by omega⟩
    rfl
theorem rf131 : ∀ k, mRf G0 131 k = if k < 2 then some (154 + 11 * k) else none := by
  intro k
  rw [rfG (l := [some 154, some 165]) rfl]
  by_cases h : k < 2
  · have h2 : k = 0 ∨ k = 1 := by omega
    rcases h2 with z | z <;> subst z <;> rfl
  · rw [if_neg h]
    obtain ⟨j, rfl⟩ : ∃ j, k = j + 2 := ⟨k - 2, by omega⟩
    rfl
theorem GE_131 : GE (mGrow G0 (0, 0) 0) 0 0 := fun x z1 z2 => by omega
/-- the beginnings that are kept -/
def MI (μ : MU) : Prop := CI μ 1 ∧ μ 49 1 = 0 ∧ μ 49 2 = 0 ∧ μ 128 2 = 0
theorem zq39 {μ0 : MU} {s0 : Nat} {r : Nat → Option Nat} (hr4 : r 4 = some 131)
    (hQ : ∀ (g' : MG) (μ' : MU), HB g' 176 r → R1 g' 2 → g'.2.1 = s0 + 158 * 2 → (∀ x, x < 154 → μ' x = μ0 x) → Q none g' μ') :
    ∀ (m q : Nat), q + m = 2 → ∀ (g : MG) (μ : MU), HB g (154 + 11 * q) r → R1 g q → g.2.1 = s0 + 158 * q → (∀ x, x < 154 → μ x = μ0 x) →
    Wp E 39 98 [some (.inr (.inr (.inl 0))), some (.inl q)] [] g μ Q := by
  intro m
  induction m with
  | zero =>
    intro q hq g μ h1 h2 h3 h4
    have e : q = 2 := by omega
    subst e
    simp (disch := first | omega | exact rfl) only [x39_98, x39_99, x39_100, x39_122, isF, isK, isH, mK, nl_i, nl_n, nl_o, nl_r, c1_i, c1_r, mPush, mRv, G0_1, true_and, and_true, and_self, implies_true, List.length_nil, List.length_cons, Nat.reduceAdd, Nat.reduceLeDiff, Nat.zero_le, beq_self_eq_true, Nat.reduceBEq, decide_true, Bool.and_self, reduceCtorEq, ne_eq, not_true_eq_false, not_false_eq_true, false_implies, true_implies, Nat.reduceLT, Nat.reduceEqDiff, or_true, true_or, or_false, false_or, or_self, Int.reduceEq, Int.reduceNe, Int.reduceLT, Int.reduceLE, Int.reduceAdd, Int.reduceSub, Int.reduceMul, Int.reduceNeg, Int.reduceToNat, if_true, if_false, Classical.not_not, Int.cast_ofNat_Int]
    exact hQ g μ h1 h2 h3 h4
  | succ m ih =>
    intro q hq g μ h1 h2 h3 h4
    have e1 : ¬ (2 : Int) ≤ q := by omega
    have e2 : (q : Int) < 2 := by omega
    have e3 : (0 : Int) ≤ q := by omega
    have eI : (q : Int) + 1 = ((q + 1 : Nat) : Int) := by omega
    have hc : 154 + 11 * q ∈ gCs := by
      have h : ∀ q : Fin 2, 154 + 11 * (q : Nat) ∈ gCs := by decide
      exact h ⟨q, by omega⟩
    obtain ⟨⟨hg, hA2⟩, hk0, hr0, hE⟩ := id h1
    have r4 : mRf g 0 4 = some 131 := (hr0 4).trans hr4
    obtain ⟨b1, b2, b3⟩ := HB_g (kd := (0, 0)) (s := 12) h1
    simp (disch := first | omega | exact rfl) only [x39_98, x39_99, x39_100, x39_103, x39_104, x39_107, x39_108, x39_111, x39_112, isF, isK, isH, mK, nl_i, nl_n, nl_o, nl_r, c1_i, c1_r, mPush, mRv, G0_1, true_and, and_true, and_self, implies_true, List.length_nil, List.length_cons, Nat.reduceAdd, Nat.reduceLeDiff, Nat.zero_le, beq_self_eq_true, Nat.reduceBEq, decide_true, Bool.and_self, reduceCtorEq, ne_eq, not_true_eq_false, not_false_eq_true, false_implies, true_implies, Nat.reduceLT, Nat.reduceEqDiff, or_true, true_or, or_false, false_or, or_self, Int.reduceEq, Int.reduceNe, Int.reduceLT, Int.reduceLE, Int.reduceAdd, Int.reduceSub, Int.reduceMul, Int.reduceNeg, Int.reduceToNat, if_true, if_false, Classical.not_not, Int.cast_ofNat_Int, e1, e2, hk0, r4, hg, b2, mC1]
    refine ct0 hc b1 b2 b3 (fun g1 μ1 m1 m2 m3 m4 m5 _ => ?_)
    obtain ⟨n1, n2⟩ := m1
    have kc : mKd g1 (154 + 11 * q) = (0, 0) := (m4 _ (by omega) (by omega)).1.trans (gC_ok _ hc).1
    have k131 : mKd g1 131 = (13, 2) := ((m3 131 (by omega)).1.trans (gr_kn (by omega))).trans h2.1
    have n1' : g1.1 = (mGrow g (0, 0) 12).1 + 10 := by rw [gr_1, hg]; exact n1
    refine ⟨⟨n1', m2⟩, ?_⟩
    simp (disch := first | omega | exact rfl) only [x39_115, x39_116, isF, isK, isH, mK, nl_i, nl_n, nl_o, nl_r, c1_i, c1_r, mPush, mRv, G0_1, true_and, and_true, and_self, implies_true, List.length_nil, List.length_cons, Nat.reduceAdd, Nat.reduceLeDiff, Nat.zero_le, beq_self_eq_true, Nat.reduceBEq, decide_true, Bool.and_self, reduceCtorEq, ne_eq, not_true_eq_false, not_false_eq_true, false_implies, true_implies, Nat.reduceLT, Nat.reduceEqDiff, or_true, true_or, or_false, false_or, or_self, Int.reduceEq, Int.reduceNe, Int.reduceLT, Int.reduceLE, Int.reduceAdd, Int.reduceSub, Int.reduceMul, Int.reduceNeg, Int.reduceToNat, if_true, if_false, Classical.not_not, Int.cast_ofNat_Int, kc, k131, e2, e3, mWr_of, Int.toNat_natCast]
    rw [x39_119, eI]
    refine ih (q + 1) (by omega) _ μ1 ⟨⟨?_, fun x hx => ⟨?_, fun k => ?_⟩⟩, ?_, fun k => ?_, fun x z1 z2 z3 => ⟨?_, fun k => ?_⟩⟩ ⟨?_, fun k => ?_⟩ ?_ (fun x hx => ?_)
    · rw [st_1, n1]; omega
    · rw [st_k]; exact (n2 x (by omega)).1
    · rw [st_rn (by omega)]; exact (n2 x (by omega)).2 k
    · rw [st_k, (m3 0 (by omega)).1, gr_kn (by omega)]; exact hk0
    · rw [st_rn (by omega), (m3 0 (by omega)).2 k, gr_rn (by omega)]; exact hr0 k
    · rw [st_k]
      by_cases w : x < 154 + 11 * q
      · rw [(m3 x w).1, gr_kn (by omega)]; exact (hE x z1 w z3).1
      · exact (m4 x (by omega) (by omega)).1
    · rw [st_rn z3]
      by_cases w : x < 154 + 11 * q
      · rw [(m3 x w).2 k, gr_rn (by omega)]; exact (hE x z1 w z3).2 k
      · exact (m4 x (by omega) (by omega)).2 k
    · rw [st_k]; exact k131
    · rw [st_ra]
      by_cases w : k = q
      · rw [if_pos w, if_pos (by omega), w]
      · rw [if_neg w, (m3 131 (by omega)).2 k, gr_rn (by omega), h2.2 k]
        by_cases w2 : k < q
        · rw [if_pos w2, if_pos (by omega)]
        · rw [if_neg w2, if_neg (by omega)]
    · rw [st_s, m2, gr_s, h3]; omega
    · rw [m5 x (by omega), ze_n (by omega)]; exact h4 x hx
theorem ct39 {g : MG} {μ : MU} (h : HB g 1 (fun _ => none)) (hQ : ∀ (g' : MG) (μ' : MU), GA g' 176 → GE g' 0 176 → g'.2.1 = g.2.1 + 2374 → MI μ' → (∀ j, μ' 132 j = 0) → Q none g' μ') :
    Wp E 39 0 [some (.inr (.inr (.inl 0))), none] [] g μ Q := by
  have g1c : (1 : Nat) ∈ gCs := by decide
  have g133 : (133 : Nat) ∈ gCs := by decide
  have g144 : (144 : Nat) ∈ gRs := by decide
  have g149 : (149 : Nat) ∈ gRs := by decide
  have hg := h.1.1
  have hk := h.2.1
  obtain ⟨b1, b2, b3⟩ := HB_g (kd := (0, 0)) (s := 12) h
  simp (disch := first | omega | exact rfl) only [x39_0, x39_1, x39_4, x39_5, x39_8, x39_9, isF, isK, isH, mK, nl_i, nl_n, nl_o, nl_r, c1_i, c1_r, mPush, mRv, G0_1, true_and, and_true, and_self, implies_true, List.length_nil, List.length_cons, Nat.reduceAdd, Nat.reduceLeDiff, Nat.zero_le, beq_self_eq_true, Nat.reduceBEq, decide_true, Bool.and_self, reduceCtorEq, ne_eq, not_true_eq_false, not_false_eq_true, false_implies, true_implies, Nat.reduceLT, Nat.reduceEqDiff, or_true, true_or, or_false, false_or, or_self, Int.reduceEq, Int.reduceNe, Int.reduceLT, Int.reduceLE, Int.reduceAdd, Int.reduceSub, Int.reduceMul, Int.reduceNeg, Int.reduceToNat, if_true, if_false, Classical.not_not, Int.cast_ofNat_Int, hg, b2, mC1]
  refine ct0 g1c b1 b2 b3 (fun g1 μ1 m1 m2 m3 m4 m5 mC => ?_)
  refine ⟨⟨by rw [gr_1, hg]; exact m1.1, m2⟩, ?_⟩
  have hH1 := HB_c (i := 0) h (by omega) m1 m3 m4 (by omega)
  have hk1 := hH1.2.1
  have hg1 := hH1.1.1
  rw [st_k] at hk1
  simp (disch := first | omega | exact rfl) only [x39_12, x39_15, x39_16, isF, isK, isH, mK, nl_i, nl_n, nl_o, nl_r, c1_i, c1_r, mPush, mRv, G0_1, true_and, and_true, and_self, implies_true, List.length_nil, List.length_cons, Nat.reduceAdd, Nat.reduceLeDiff, Nat.zero_le, beq_self_eq_true, Nat.reduceBEq, decide_true, Bool.and_self, reduceCtorEq, ne_eq, not_true_eq_false, not_false_eq_true, false_implies, true_implies, Nat.reduceLT, Nat.reduceEqDiff, or_true, true_or, or_false, false_or, or_self, Int.reduceEq, Int.reduceNe, Int.reduceLT, Int.reduceLE, Int.reduceAdd, Int.reduceSub, Int.reduceMul, Int.reduceNeg, Int.reduceToNat, if_true, if_false, Classical.not_not, Int.cast_ofNat_Int, hk1]
  generalize hgg : mSetR g1 0 0 (some 1) = ga at hH1 hg1 ⊢
  have sa : ga.2.1 = g.2.1 + 12 + 146 := by rw [← hgg, st_s, m2, gr_s]
  obtain ⟨c1, c2, c3⟩ := HB_g (kd := (3, 0)) (s := 11) hH1
  simp (disch := first | omega | exact rfl) only [x39_19, x39_20, isF, isK, isH, mK, nl_i, nl_n, nl_o, nl_r, c1_i, c1_r, mPush, mRv, G0_1, true_and, and_true, and_self, implies_true, List.length_nil, List.length_cons, Nat.reduceAdd, Nat.reduceLeDiff, Nat.zero_le, beq_self_eq_true, Nat.reduceBEq, decide_true, Bool.and_self, reduceCtorEq, ne_eq, not_true_eq_false, not_false_eq_true, false_implies, true_implies, Nat.reduceLT, Nat.reduceEqDiff, or_true, true_or, or_false, false_or, or_self, Int.reduceEq, Int.reduceNe, Int.reduceLT, Int.reduceLE, Int.reduceAdd, Int.reduceSub, Int.reduceMul, Int.reduceNeg, Int.reduceToNat, if_true, if_false, Classical.not_not, Int.cast_ofNat_Int, hg1, c2, mC1]
  refine ct27 c1 c2 c3 (fun g2 μ2 n1 n2 n3 n4 n5 => ?_)
  refine ⟨⟨by rw [gr_1, hg1]; exact n1.1, n2⟩, ?_⟩
  have hH2 := HB_c (i := 1) hH1 (by omega) n1 n3 n4 (by omega)
  have hk2 := hH2.2.1
  have hg2 := hH2.1.1
  rw [st_k] at hk2
  simp (disch := first | omega | exact rfl) only [x39_23, x39_26, x39_27, isF, isK, isH, mK, nl_i, nl_n, nl_o, nl_r, c1_i, c1_r, mPush, mRv, G0_1, true_and, and_true, and_self, implies_true, List.length_nil, List.length_cons, Nat.reduceAdd, Nat.reduceLeDiff, Nat.zero_le, beq_self_eq_true, Nat.reduceBEq, decide_true, Bool.and_self, reduceCtorEq, ne_eq, not_true_eq_false, not_false_eq_true, false_implies, true_implies, Nat.reduceLT, Nat.reduceEqDiff, or_true, true_or, or_false, false_or, or_self, Int.reduceEq, Int.reduceNe, Int.reduceLT, Int.reduceLE, Int.reduceAdd, Int.reduceSub, Int.reduceMul, Int.reduceNeg, Int.reduceToNat, if_true, if_false, Classical.not_not, Int.cast_ofNat_Int, hk2]
  generalize hgh : mSetR g2 0 1 (some 12) = gb at hH2 hg2 ⊢
  have sb : gb.2.1 = g.2.1 + 12 + 146 + 11 + 455 := by rw [← hgh, st_s, n2, gr_s, sa]
  obtain ⟨d1, d2, d3⟩ := HB_g (kd := (1, 0)) (s := 3) hH2
  simp (disch := first | omega | exact rfl) only [x39_30, x39_31, isF, isK, isH, mK, nl_i, nl_n, nl_o, nl_r, c1_i, c1_r, mPush, mRv, G0_1, true_and, and_true, and_self, implies_true, List.length_nil, List.length_cons, Nat.reduceAdd, Nat.reduceLeDiff, Nat.zero_le, beq_self_eq_true, Nat.reduceBEq, decide_true, Bool.and_self, reduceCtorEq, ne_eq, not_true_eq_false, not_false_eq_true, false_implies, true_implies, Nat.reduceLT, Nat.reduceEqDiff, or_true, true_or, or_false, false_or, or_self, Int.reduceEq, Int.reduceNe, Int.reduceLT, Int.reduceLE, Int.reduceAdd, Int.reduceSub, Int.reduceMul, Int.reduceNeg, Int.reduceToNat, if_true, if_false, Classical.not_not, Int.cast_ofNat_Int, hg2, d2, mC1]
  refine ct14 d1 d2 d3 (fun g3 μ3 o1 o2 o3 o4 o5 o6 o7 => ?_)
  refine ⟨⟨by rw [gr_1, hg2]; exact o1.1, o2⟩, ?_⟩
  have hH3 := HB_c (i := 2) hH2 (by omega) o1 o3 o4 (by omega)
  have hk3 := hH3.2.1
  have hg3 := hH3.1.1
  rw [st_k] at hk3
  simp (disch := first | omega | exact rfl) only [x39_34, x39_37, x39_38, isF, isK, isH, mK, nl_i, nl_n, nl_o, nl_r, c1_i, c1_r, mPush, mRv, G0_1, true_and, and_true, and_self, implies_true, List.length_nil, List.length_cons, Nat.reduceAdd, Nat.reduceLeDiff, Nat.zero_le, beq_self_eq_true, Nat.reduceBEq, decide_true, Bool.and_self, reduceCtorEq, ne_eq, not_true_eq_false, not_false_eq_true, false_implies, true_implies, Nat.reduceLT, Nat.reduceEqDiff, or_true, true_or, or_false, false_or, or_self, Int.reduceEq, Int.reduceNe, Int.reduceLT, Int.reduceLE, Int.reduceAdd, Int.reduceSub, Int.reduceMul, Int.reduceNeg, Int.reduceToNat, if_true, if_false, Classical.not_not, Int.cast_ofNat_Int, hk3]
  generalize hgi : mSetR g3 0 2 (some 49) = gc at hH3 hg3 ⊢
  have sc : gc.2.1 = g.2.1 + 12 + 146 + 11 + 455 + 3 + 1113 := by rw [← hgi, st_s, o2, gr_s, sb]
  obtain ⟨e1, e2, e3⟩ := HB_g (kd := (2, 0)) (s := 6) hH3
  simp (disch := first | omega | exact rfl) only [x39_41, x39_42, isF, isK, isH, mK, nl_i, nl_n, nl_o, nl_r, c1_i, c1_r, mPush, mRv, G0_1, true_and, and_true, and_self, implies_true, List.length_nil, List.length_cons, Nat.reduceAdd, Nat.reduceLeDiff, Nat.zero_le, beq_self_eq_true, Nat.reduceBEq, decide_true, Bool.and_self, reduceCtorEq, ne_eq, not_true_eq_false, not_false_eq_true, false_implies, true_implies, Nat.reduceLT, Nat.reduceEqDiff, or_true, true_or, or_false, false_or, or_self, Int.reduceEq, Int.reduceNe, Int.reduceLT, Int.reduceLE, Int.reduceAdd, Int.reduceSub, Int.reduceMul, Int.reduceNeg, Int.reduceToNat, if_true, if_false, Classical.not_not, Int.cast_ofNat_Int, hg3, e2, mC1]
  refine ct18 e1 e2 e3 (fun g4 μ4 p1 p2 p3 p4 p5 p6 => ?_)
  refine ⟨⟨by rw [gr_1, hg3]; exact p1.1, p2⟩, ?_⟩
  have hH4 := HB_c (i := 3) hH3 (by omega) p1 p3 p4 (by omega)
  have hk4 := hH4.2.1
  have hg4 := hH4.1.1
  have hk4' := hk4
  rw [st_k] at hk4'
  simp (disch := first | omega | exact rfl) only [x39_45, x39_48, x39_49, isF, isK, isH, mK, nl_i, nl_n, nl_o, nl_r, c1_i, c1_r, mPush, mRv, G0_1, true_and, and_true, and_self, implies_true, List.length_nil, List.length_cons, Nat.reduceAdd, Nat.reduceLeDiff, Nat.zero_le, beq_self_eq_true, Nat.reduceBEq, decide_true, Bool.and_self, reduceCtorEq, ne_eq, not_true_eq_false, not_false_eq_true, false_implies, true_implies, Nat.reduceLT, Nat.reduceEqDiff, or_true, true_or, or_false, false_or, or_self, Int.reduceEq, Int.reduceNe, Int.reduceLT, Int.reduceLE, Int.reduceAdd, Int.reduceSub, Int.reduceMul, Int.reduceNeg, Int.reduceToNat, if_true, if_false, Classical.not_not, Int.cast_ofNat_Int, hk4']
  generalize hgj : mSetR g4 0 3 (some 128) = gd at hH4 hg4 hk4 ⊢
  have sd : gd.2.1 = g.2.1 + 12 + 146 + 11 + 455 + 3 + 1113 + 6 + 84 := by rw [← hgj, st_s, p2, gr_s, sc]
  -- the rows 131 and 132
  obtain ⟨f1, f2, f3⟩ := HB_g (kd := (13, 2)) (s := 2) hH4
  have k131 : mKd (mGrow gd (13, 2) 2) 0 = (5, 0) := by rw [gr_kn (by omega)]; exact hk4
  simp (disch := first | omega | exact rfl) only [x39_50, x39_53, x39_56, x39_57, isF, isK, isH, mK, nl_i, nl_n, nl_o, nl_r, c1_i, c1_r, mPush, mRv, G0_1, true_and, and_true, and_self, implies_true, List.length_nil, List.length_cons, Nat.reduceAdd, Nat.reduceLeDiff, Nat.zero_le, beq_self_eq_true, Nat.reduceBEq, decide_true, Bool.and_self, reduceCtorEq, ne_eq, not_true_eq_false, not_false_eq_true, false_implies, true_implies, Nat.reduceLT, Nat.reduceEqDiff, or_true, true_or, or_false, false_or, or_self, Int.reduceEq, Int.reduceNe, Int.reduceLT, Int.reduceLE, Int.reduceAdd, Int.reduceSub, Int.reduceMul, Int.reduceNeg, Int.reduceToNat, if_true, if_false, Classical.not_not, Int.cast_ofNat_Int, hg4, k131]
  have hH5 : HB (mSetR (mGrow gd (13, 2) 2) 0 4 (some 131)) 132 (fun k => if k = 4 then some 131 else (fun k => if k = 3 then some 128 else (fun k => if k = 2 then some 49 else (fun k => if k = 1 then some 12 else (fun k => if k = 0 then some 1 else (fun _ => none) k) k) k) k) k) := by
    obtain ⟨⟨_, hA⟩, hk', hr', hE'⟩ := hH4
    refine ⟨⟨by rw [st_1]; exact f1.1, fun x hx => ⟨by rw [st_k]; exact (f1.2 x hx).1, fun k => by rw [st_rn (by omega)]; exact (f1.2 x hx).2 k⟩⟩, by rw [st_k]; exact k131, fun k => ?_, fun x z1 z2 z3 => ⟨?_, fun k => ?_⟩⟩
    · show _ = if k = 4 then some 131 else _
      rw [st_ra]
      by_cases w : k = 4
      · rw [if_pos w, if_pos w]
      · rw [if_neg w, if_neg w, gr_rn (by omega)]; exact hr' k
    · rw [st_k, gr_kn (by omega)]; exact (hE' x z1 (by omega) z3).1
    · rw [st_rn (by omega), gr_rn (by omega)]; exact (hE' x z1 (by omega) z3).2 k
  have hR5 : R1 (mSetR (mGrow gd (13, 2) 2) 0 4 (some 131)) 0 := ⟨by rw [st_k]; exact f2, fun k => by rw [st_rn (by omega), if_neg (by omega)]; exact f3 k⟩
  have hg5 := hH5.1.1
  have hk5 := hH5.2.1
  generalize hgk : mSetR (mGrow gd (13, 2) 2) 0 4 (some 131) = ge at hH5 hg5 hk5 hR5 ⊢
  have se : ge.2.1 = g.2.1 + 12 + 146 + 11 + 455 + 3 + 1113 + 6 + 84 + 2 := by rw [← hgk, st_s, gr_s, sd]
  obtain ⟨i1, i2, i3⟩ := HB_g (kd := (12, 2)) (s := 2) hH5
  have k132 : mKd (mGrow ge (12, 2) 2) 0 = (5, 0) := by rw [gr_kn (by omega)]; exact hk5
  simp (disch := first | omega | exact rfl) only [x39_58, x39_60, x39_63, x39_64, isF, isK, isH, mK, nl_i, nl_n, nl_o, nl_r, c1_i, c1_r, mPush, mRv, G0_1, true_and, and_true, and_self, implies_true, List.length_nil, List.length_cons, Nat.reduceAdd, Nat.reduceLeDiff, Nat.zero_le, beq_self_eq_true, Nat.reduceBEq, decide_true, Bool.and_self, reduceCtorEq, ne_eq, not_true_eq_false, not_false_eq_true, false_implies, true_implies, Nat.reduceLT, Nat.reduceEqDiff, or_true, true_or, or_false, false_or, or_self, Int.reduceEq, Int.reduceNe, Int.reduceLT, Int.reduceLE, Int.reduceAdd, Int.reduceSub, Int.reduceMul, Int.reduceNeg, Int.reduceToNat, if_true, if_false, Classical.not_not, Int.cast_ofNat_Int, hg5, k132]
  have hGE132 : GE (mGrow ge (12, 2) 2) 132 133 := by
    intro x z1 z2
    have e : x = 132 := by omega
    subst e
    exact ⟨i2, fun k => (i3 k).trans (rfG (l := []) rfl k).symm⟩
  have hH6 := HB_c (kd := (12, 2)) (s := 2) (i := 5) hH5 (by omega) i1 (fun x _ => ⟨rfl, fun _ => rfl⟩) hGE132 (by omega)
  have hR6 : R1 (mSetR (mGrow ge (12, 2) 2) 0 5 (some 132)) 0 := R1_c hR5 hg5 (by omega) (fun x _ => ⟨rfl, fun _ => rfl⟩)
  have hg6 := hH6.1.1
  have hk6 := hH6.2.1
  generalize hgl : mSetR (mGrow ge (12, 2) 2) 0 5 (some 132) = gf at hH6 hg6 hk6 hR6 ⊢
  have sf : gf.2.1 = g.2.1 + 12 + 146 + 11 + 455 + 3 + 1113 + 6 + 84 + 2 + 2 := by rw [← hgl, st_s, gr_s, se]
  obtain ⟨j1, j2, j3⟩ := HB_g (kd := (0, 0)) (s := 12) hH6
  simp (disch := first | omega | exact rfl) only [x39_67, x39_68, isF, isK, isH, mK, nl_i, nl_n, nl_o, nl_r, c1_i, c1_r, mPush, mRv, G0_1, true_and, and_true, and_self, implies_true, List.length_nil, List.length_cons, Nat.reduceAdd, Nat.reduceLeDiff, Nat.zero_le, beq_self_eq_true, Nat.reduceBEq, decide_true, Bool.and_self, reduceCtorEq, ne_eq, not_true_eq_false, not_false_eq_true, false_implies, true_implies, Nat.reduceLT, Nat.reduceEqDiff, or_true, true_or, or_false, false_or, or_self, Int.reduceEq, Int.reduceNe, Int.reduceLT, Int.reduceLE, Int.reduceAdd, Int.reduceSub, Int.reduceMul, Int.reduceNeg, Int.reduceToNat, if_true, if_false, Classical.not_not, Int.cast_ofNat_Int, hg6, j2, mC1]
  refine ct0 g133 j1 j2 j3 (fun g7 μ7 q1 q2 q3 q4 q5 _ => ?_)
  refine ⟨⟨by rw [gr_1, hg6]; exact q1.1, q2⟩, ?_⟩
  have hH7 := HB_c (i := 6) hH6 (by omega) q1 q3 q4 (by omega)
  have hR7 : R1 (mSetR g7 0 6 (some 133)) 0 := R1_c hR6 hg6 (by omega) q3
  have hk7 := hH7.2.1
  have hg7 := hH7.1.1
  rw [st_k] at hk7
  simp (disch := first | omega | exact rfl) only [x39_71, x39_74, x39_75, isF, isK, isH, mK, nl_i, nl_n, nl_o, nl_r, c1_i, c1_r, mPush, mRv, G0_1, true_and, and_true, and_self, implies_true, List.length_nil, List.length_cons, Nat.reduceAdd, Nat.reduceLeDiff, Nat.zero_le, beq_self_eq_true, Nat.reduceBEq, decide_true, Bool.and_self, reduceCtorEq, ne_eq, not_true_eq_false, not_false_eq_true, false_implies, true_implies, Nat.reduceLT, Nat.reduceEqDiff, or_true, true_or, or_false, false_or, or_self, Int.reduceEq, Int.reduceNe, Int.reduceLT, Int.reduceLE, Int.reduceAdd, Int.reduceSub, Int.reduceMul, Int.reduceNeg, Int.reduceToNat, if_true, if_false, Classical.not_not, Int.cast_ofNat_Int, hk7]
  generalize hgm : mSetR g7 0 6 (some 133) = gh at hH7 hg7 hR7 ⊢
  have sh : gh.2.1 = g.2.1 + 12 + 146 + 11 + 455 + 3 + 1113 + 6 + 84 + 2 + 2 + 12 + 146 := by rw [← hgm, st_s, q2, gr_s, sf]
  obtain ⟨l1, l2, l3⟩ := HB_g (kd := (4, 0)) (s := 9) hH7
  simp (disch := first | omega | exact rfl) only [x39_78, x39_79, isF, isK, isH, mK, nl_i, nl_n, nl_o, nl_r, c1_i, c1_r, mPush, mRv, G0_1, true_and, and_true, and_self, implies_true, List.length_nil, List.length_cons, Nat.reduceAdd, Nat.reduceLeDiff, Nat.zero_le, beq_self_eq_true, Nat.reduceBEq, decide_true, Bool.and_self, reduceCtorEq, ne_eq, not_true_eq_false, not_false_eq_true, false_implies, true_implies, Nat.reduceLT, Nat.reduceEqDiff, or_true, true_or, or_false, false_or, or_self, Int.reduceEq, Int.reduceNe, Int.reduceLT, Int.reduceLE, Int.reduceAdd, Int.reduceSub, Int.reduceMul, Int.reduceNeg, Int.reduceToNat, if_true, if_false, Classical.not_not, Int.cast_ofNat_Int, hg7, l2, mC1]
  refine ct34 g144 l1 l2 l3 (fun g8 μ8 r1 r2 r3 r4 r5 => ?_)
  refine ⟨⟨by rw [gr_1, hg7]; exact r1.1, r2⟩, ?_⟩
  have hH8 := HB_c (i := 7) hH7 (by omega) r1 r3 r4 (by omega)
  have hR8 : R1 (mSetR g8 0 7 (some 144)) 0 := R1_c hR7 hg7 (by omega) r3
  have hk8 := hH8.2.1
  have hg8 := hH8.1.1
  rw [st_k] at hk8
  simp (disch := first | omega | exact rfl) only [x39_82, x39_85, x39_86, isF, isK, isH, mK, nl_i, nl_n, nl_o, nl_r, c1_i, c1_r, mPush, mRv, G0_1, true_and, and_true, and_self, implies_true, List.length_nil, List.length_cons, Nat.reduceAdd, Nat.reduceLeDiff, Nat.zero_le, beq_self_eq_true, Nat.reduceBEq, decide_true, Bool.and_self, reduceCtorEq, ne_eq, not_true_eq_false, not_false_eq_true, false_implies, true_implies, Nat.reduceLT, Nat.reduceEqDiff, or_true, true_or, or_false, false_or, or_self, Int.reduceEq, Int.reduceNe, Int.reduceLT, Int.reduceLE, Int.reduceAdd, Int.reduceSub, Int.reduceMul, Int.reduceNeg, Int.reduceToNat, if_true, if_false, Classical.not_not, Int.cast_ofNat_Int, hk8]
  generalize hgn : mSetR g8 0 7 (some 144) = gi at hH8 hg8 hR8 ⊢
  have si : gi.2.1 = g.2.1 + 12 + 146 + 11 + 455 + 3 + 1113 + 6 + 84 + 2 + 2 + 12 + 146 + 9 + 24 := by rw [← hgn, st_s, r2, gr_s, sh]
  obtain ⟨t1, t2, t3⟩ := HB_g (kd := (4, 0)) (s := 9) hH8
  simp (disch := first | omega | exact rfl) only [x39_89, x39_90, isF, isK, isH, mK, nl_i, nl_n, nl_o, nl_r, c1_i, c1_r, mPush, mRv, G0_1, true_and, and_true, and_self, implies_true, List.length_nil, List.length_cons, Nat.reduceAdd, Nat.reduceLeDiff, Nat.zero_le, beq_self_eq_true, Nat.reduceBEq, decide_true, Bool.and_self, reduceCtorEq, ne_eq, not_true_eq_false, not_false_eq_true, false_implies, true_implies, Nat.reduceLT, Nat.reduceEqDiff, or_true, true_or, or_false, false_or, or_self, Int.reduceEq, Int.reduceNe, Int.reduceLT, Int.reduceLE, Int.reduceAdd, Int.reduceSub, Int.reduceMul, Int.reduceNeg, Int.reduceToNat, if_true, if_false, Classical.not_not, Int.cast_ofNat_Int, hg8, t2, mC1]
  refine ct34 g149 t1 t2 t3 (fun g9 μ9 u1 u2 u3 u4 u5 => ?_)
  refine ⟨⟨by rw [gr_1, hg8]; exact u1.1, u2⟩, ?_⟩
  have hH9 := HB_c (i := 8) hH8 (by omega) u1 u3 u4 (by omega)
  have hR9 : R1 (mSetR g9 0 8 (some 149)) 0 := R1_c hR8 hg8 (by omega) u3
  have hk9 := hH9.2.1
  rw [st_k] at hk9
  simp (disch := first | omega | exact rfl) only [x39_93, x39_96, x39_97, isF, isK, isH, mK, nl_i, nl_n, nl_o, nl_r, c1_i, c1_r, mPush, mRv, G0_1, true_and, and_true, and_self, implies_true, List.length_nil, List.length_cons, Nat.reduceAdd, Nat.reduceLeDiff, Nat.zero_le, beq_self_eq_true, Nat.reduceBEq, decide_true, Bool.and_self, reduceCtorEq, ne_eq, not_true_eq_false, not_false_eq_true, false_implies, true_implies, Nat.reduceLT, Nat.reduceEqDiff, or_true, true_or, or_false, false_or, or_self, Int.reduceEq, Int.reduceNe, Int.reduceLT, Int.reduceLE, Int.reduceAdd, Int.reduceSub, Int.reduceMul, Int.reduceNeg, Int.reduceToNat, if_true, if_false, Classical.not_not, Int.cast_ofNat_Int, hk9]
  generalize hgo : mSetR g9 0 8 (some 149) = gj at hH9 hR9 ⊢
  have sj : gj.2.1 = g.2.1 + 12 + 146 + 11 + 455 + 3 + 1113 + 6 + 84 + 2 + 2 + 12 + 146 + 9 + 24 + 9 + 24 := by rw [← hgo, st_s, u2, gr_s, si]
  refine zq39 (μ0 := μ9) rfl (fun g' μ' v1 v2 v3 v4 => ?_) 2 0 (by omega) gj μ9 hH9 hR9 (by omega) (fun _ _ => rfl)
  obtain ⟨w1, w2, w3, w4⟩ := v1
  -- the memory
  have E9 : ∀ x, x < 149 → μ' x = (mZero μ8 149) x := fun x hx => by rw [v4 x (by omega), u5 x hx]
  have E8 : ∀ x, x < 144 → μ' x = (mZero μ7 144) x := fun x hx => by rw [E9 x (by omega), ze_n (by omega), r5 x hx]
  have E7 : ∀ x, x < 133 → μ' x = (mZero (mZero (mZero μ4 131) 132) 133) x := fun x hx => by rw [E8 x (by omega), ze_n (by omega), q5 x hx]
  have E4 : ∀ x, x < 131 → μ' x = μ4 x := fun x hx => by rw [E7 x (by omega), ze_n (by omega), ze_n (by omega), ze_n (by omega)]
  have E3 : ∀ x, x < 128 → μ' x = μ3 x := fun x hx => by rw [E4 x (by omega), p5 x hx, ze_n (by omega)]
  have E2 : ∀ x, x < 49 → μ' x = μ2 x := fun x hx => by rw [E3 x (by omega), o5 x hx, ze_n (by omega)]
  have E1 : ∀ x, x < 12 → μ' x = μ1 x := fun x hx => by rw [E2 x (by omega), n5 x hx, ze_n (by omega)]
  refine hQ g' μ' w1 (fun x z1 z2 => ?_) (by rw [v3]) ⟨?_, ?_, ?_, ?_⟩ (fun j => ?_)
  · by_cases x0 : x = 0
    · subst x0
      exact ⟨w2, fun k => (w3 k).trans (rf0 k).symm⟩
    · by_cases x1 : x = 131
      · subst x1
        exact ⟨v2.1, fun k => (v2.2 k).trans (rf131 k).symm⟩
      · exact w4 x (by omega) z2 x1
  · unfold CI at mC ⊢
    rw [E1 (1 + 1) (by omega), E1 1 (by omega), E1 (1 + 2) (by omega), E1 (1 + 6) (by omega)]
    exact mC
  · rw [E3 49 (by omega)]; exact o6
  · rw [E3 49 (by omega)]; exact o7
  · rw [E4 128 (by omega)]; exact p6
  · rw [E7 132 (by omega), ze_n (by omega)]
    exact ze_e
end INI5
