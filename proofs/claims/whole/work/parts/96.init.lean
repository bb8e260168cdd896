section INI2
variable {E : ME} {Q : Option MV → MG → MU → Prop}
theorem gCFz : ∀ c ∈ gCs, (∀ k, mRf G0 c k = if k = 11 then some (c + 10) else if k = 10 then some (c + 9) else if k = 9 then some (c + 8) else if k = 8 then some (c + 7) else if k = 6 then some (c + 6) else if k = 5 then some (c + 5) else if k = 4 then some (c + 4) else if k = 3 then some (c + 3) else if k = 1 then some (c + 2) else if k = 0 then some (c + 1) else none) ∧ (∀ i, 1 ≤ i → i < 11 → ∀ k, mRf G0 (c + i) k = none) := by
  intro c hc
  have h1 : ∀ c ∈ gCs, gRf.getD c [] = [some (c + 1), some (c + 2), none, some (c + 3), some (c + 4), some (c + 5), some (c + 6), none, some (c + 7), some (c + 8), some (c + 9), some (c + 10)] ∧ gRf.getD (c + 1) [] = [] ∧ gRf.getD (c + 2) [] = [] ∧ gRf.getD (c + 3) [] = [] ∧ gRf.getD (c + 4) [] = [] ∧ gRf.getD (c + 5) [] = [] ∧ gRf.getD (c + 6) [] = [] ∧ gRf.getD (c + 7) [] = [] ∧ gRf.getD (c + 8) [] = [] ∧ gRf.getD (c + 9) [] = [] ∧ gRf.getD (c + 10) [] = [] := by decide +kernel
  obtain ⟨e0, e1, e2, e3, e4, e5, e6, e7, e8, e9, e10⟩ := h1 c hc
  refine ⟨fun k => ?_, fun i hi hi2 k => ?_⟩
  · show (gRf.getD c []).getD k none = _
    rw [e0]
    by_cases hk : k < 12
    · have hk2 : k = 0 ∨ k = 1 ∨ k = 2 ∨ k = 3 ∨ k = 4 ∨ k = 5 ∨ k = 6 ∨ k = 7 ∨ k = 8 ∨ k = 9 ∨ k = 10 ∨ k = 11 := by omega
      rcases hk2 with z | z | z | z | z | z | z | z | z | z | z | z <;> subst z <;> rfl
    · rw [if_neg (by omega), if_neg (by omega), if_neg (by omega), if_neg (by omega), if_neg (by omega), if_neg (by omega), if_neg (by omega), if_neg (by omega), if_neg (by omega), if_neg (by omega)]
      obtain ⟨j, rfl⟩ : ∃ j, k = j + 12 := ⟨k - 12, by omega⟩
      rfl
  · show (gRf.getD (c + i) []).getD k none = _
    have hi3 : i = 1 ∨ i = 2 ∨ i = 3 ∨ i = 4 ∨ i = 5 ∨ i = 6 ∨ i = 7 ∨ i = 8 ∨ i = 9 ∨ i = 10 := by omega
    rcases hi3 with z | z | z | z | z | z | z | z | z | z <;> subst z
    · rw [e1]; rfl
    · rw [e2]; rfl
    · rw [e3]; rfl
    · rw [e4]; rfl
    · rw [e5]; rfl
    · rw [e6]; rfl
    · rw [e7]; rfl
    · rw [e8]; rfl
    · rw [e9]; rfl
    · rw [e10]; rfl
theorem ct0a {g : MG} {μ : MU} {c : Nat} (hc : c ∈ gCs) (hA : GA g (c + 1)) (hk : mKd g c = (0, 0)) (hr : ∀ k, mRf g c k = none)
    (hQ : ∀ (g' : MG) (μ' : MU), GA g' (c + 11) → g'.2.1 = g.2.1 + 146 → GS g g' c → GE g' c (c + 11) → (∀ x, x < c → μ' x = μ x) → μ' c 2 = 0 → μ' c 7 = 0 → Wp E 0 90 [some (.inr (.inr (.inl c))), none] [] g' μ' Q) :
    Wp E 0 0 [some (.inr (.inr (.inl c))), none] [] g μ Q := by
  obtain ⟨hg, hA2⟩ := hA
  obtain ⟨qc0, qc1, qc2, qc3, qc4, qc5, qc6, qc7, qc8, qc9, qc10, qc11, qc12, qc13, qc14, qc15, qc16, qc17, qc18, qc19, qc20⟩ := gC_ok c hc
  obtain ⟨r0, r1⟩ := gCFz c hc
  simp (disch := first | omega | exact rfl | (simp only [gr_1, st_1, hg]; done) | (simp only [gr_1, st_1, hg]; omega)) only [x0_0, x0_1, x0_4, x0_5, x0_6, x0_8, x0_11, x0_12, x0_14, x0_16, x0_19, x0_20, x0_21, x0_24, x0_25, x0_26, x0_28, x0_31, x0_32, x0_33, x0_35, x0_38, x0_39, x0_40, x0_42, x0_45, x0_46, x0_48, x0_50, x0_53, x0_54, x0_55, x0_58, x0_59, x0_61, x0_63, x0_66, x0_67, x0_69, x0_71, x0_74, x0_75, x0_77, x0_79, x0_82, x0_83, x0_85, x0_87, x0_93, x0_94, x0_95, x0_98, x0_99, x0_100, x0_100K, x0_103, x0_104, x0_107, x0_109, x0_112, x0_113, x0_114, x0_115, x0_117, x0_120, x0_121, x0_124, x0_125, x0_126, x0_127, x0_128, x0_129, x0_130, x0_131, x0_134, x0_135, x0_138, x0_140, x0_141, x0_144, x0_147, isF, isK, isH, mK, nl_i, nl_n, nl_o, nl_r, c1_i, c1_r, mPush, mRv, G0_1, true_and, and_true, and_self, implies_true, List.length_nil, List.length_cons, Nat.reduceAdd, Nat.reduceLeDiff, Nat.zero_le, beq_self_eq_true, Nat.reduceBEq, decide_true, Bool.and_self, reduceCtorEq, ne_eq, not_true_eq_false, not_false_eq_true, false_implies, true_implies, Nat.reduceLT, Nat.reduceEqDiff, or_true, true_or, or_false, false_or, or_self, Int.reduceEq, Int.reduceNe, Int.reduceLT, Int.reduceLE, Int.reduceAdd, Int.reduceSub, Int.reduceMul, Int.reduceNeg, Int.reduceToNat, if_true, if_false, Classical.not_not, Int.cast_ofNat_Int, gr_1, st_1, hg, gr_kn, gr_ke, st_k, hk, Nat.add_assoc]
  refine hQ _ _ ⟨by simp only [gr_1, st_1, hg], fun x hx => ⟨?_, fun k => ?_⟩⟩ (by simp only [gr_s, st_s, Nat.add_assoc, Int.reduceToNat, Nat.reduceAdd]) (fun x hx => ⟨?_, fun k => ?_⟩) (fun x h1 h2 => ?_) (fun x hx => ?_) ?_ ?_
  · simp (disch := first | omega | exact rfl | (simp only [gr_1, st_1, hg]; done) | (simp only [gr_1, st_1, hg]; omega)) only [gr_kn, st_k]; exact (hA2 x (by omega)).1
  · simp (disch := first | omega | exact rfl | (simp only [gr_1, st_1, hg]; done) | (simp only [gr_1, st_1, hg]; omega)) only [gr_rn, st_rn]; exact (hA2 x (by omega)).2 k
  · simp (disch := first | omega | exact rfl | (simp only [gr_1, st_1, hg]; done) | (simp only [gr_1, st_1, hg]; omega)) only [gr_kn, st_k]
  · simp (disch := first | omega | exact rfl | (simp only [gr_1, st_1, hg]; done) | (simp only [gr_1, st_1, hg]; omega)) only [gr_rn, st_rn]
  · have h3 : x = c ∨ x = c + 1 ∨ x = c + 2 ∨ x = c + 3 ∨ x = c + 4 ∨ x = c + 5 ∨ x = c + 6 ∨ x = c + 7 ∨ x = c + 8 ∨ x = c + 9 ∨ x = c + 10 := by omega
    rcases h3 with z | z | z | z | z | z | z | z | z | z | z <;> subst z
    · refine ⟨?_, fun k => ?_⟩
      · simp (disch := first | omega | exact rfl | (simp only [gr_1, st_1, hg]; done) | (simp only [gr_1, st_1, hg]; omega)) only [gr_kn, st_k, hk, qc0, qc1, qc2, qc3, qc4, qc5, qc6, qc7, qc8, qc9, qc10, qc11, qc12, qc13, qc14, qc15, qc16, qc17, qc18, qc19, qc20]
      · simp (disch := first | omega | exact rfl | (simp only [gr_1, st_1, hg]; done) | (simp only [gr_1, st_1, hg]; omega)) only [gr_rn, st_ra, hr, r0]
    all_goals
      refine ⟨?_, fun k => ?_⟩
      · simp (disch := first | omega | exact rfl | (simp only [gr_1, st_1, hg]; done) | (simp only [gr_1, st_1, hg]; omega)) only [gr_kn, gr_ke, st_k, qc0, qc1, qc2, qc3, qc4, qc5, qc6, qc7, qc8, qc9, qc10, qc11, qc12, qc13, qc14, qc15, qc16, qc17, qc18, qc19, qc20, Int.reduceToNat]
      · simp (disch := first | omega | exact rfl | (simp only [gr_1, st_1, hg]; done) | (simp only [gr_1, st_1, hg]; omega)) only [gr_rn, gr_re, st_rn, r1]
  · simp (disch := omega) only [mUp_ne, ze_n]
  · simp (disch := omega) only [mUp_nj, mUp_eq, ze_n]
  · simp (disch := omega) only [mUp_nj, mUp_eq, ze_n]
theorem zq151g {g : MG} {a n : Nat} {v : Int} (hk : mKd g a = (10, n)) (hn : n < 2000) {μ0 : MU} (hQ : ∀ μ' : MU, (∀ x, ¬ x = a → μ' x = μ0 x) → (∀ i : Nat, i < n → μ' a i = v) → Q none g μ') : ∀ (m i : Nat), i + m = n → ∀ μ : MU, (∀ x, ¬ x = a → μ x = μ0 x) → (∀ j : Nat, j < i → μ a j = v) →
    Wp E 151 5 [some (.inr (.inr (.inl a))), some (.inl v), some (.inl i), some (.inl n)] [] g μ Q := by
  intro m
  induction m with
  | zero =>
    intro i hi μ h1 h2
    have e1 : (n : Int) ≤ i := by omega
    have e2 : ¬ (i : Int) < n := by omega
    simp (disch := first | omega | exact rfl) only [x151_5, x151_6, x151_7, x151_20, isF, isK, isH, mK, nl_i, nl_n, nl_o, nl_r, c1_i, c1_r, mPush, mRv, G0_1, true_and, and_true, and_self, implies_true, List.length_nil, List.length_cons, Nat.reduceAdd, Nat.reduceLeDiff, Nat.zero_le, beq_self_eq_true, Nat.reduceBEq, decide_true, Bool.and_self, reduceCtorEq, ne_eq, not_true_eq_false, not_false_eq_true, false_implies, true_implies, Nat.reduceLT, Nat.reduceEqDiff, or_true, true_or, or_false, false_or, or_self, Int.reduceEq, Int.reduceNe, Int.reduceLT, Int.reduceLE, Int.reduceAdd, Int.reduceSub, Int.reduceMul, Int.reduceNeg, Int.reduceToNat, if_true, if_false, Classical.not_not, Int.cast_ofNat_Int, e1, e2]
    exact hQ μ h1 (fun j hj => h2 j (by omega))
  | succ m ih =>
    intro i hi μ h1 h2
    have e1 : ¬ (n : Int) ≤ i := by omega
    have e2 : (i : Int) < n := by omega
    have e3 : (0 : Int) ≤ i := by omega
    have eI : (i : Int) + 1 = ((i + 1 : Nat) : Int) := by omega
    simp (disch := first | omega | exact rfl) only [x151_5, x151_6, x151_7, x151_10, x151_11, x151_12, x151_13, x151_14, isF, isK, isH, mK, nl_i, nl_n, nl_o, nl_r, c1_i, c1_r, mPush, mRv, G0_1, true_and, and_true, and_self, implies_true, List.length_nil, List.length_cons, Nat.reduceAdd, Nat.reduceLeDiff, Nat.zero_le, beq_self_eq_true, Nat.reduceBEq, decide_true, Bool.and_self, reduceCtorEq, ne_eq, not_true_eq_false, not_false_eq_true, false_implies, true_implies, Nat.reduceLT, Nat.reduceEqDiff, or_true, true_or, or_false, false_or, or_self, Int.reduceEq, Int.reduceNe, Int.reduceLT, Int.reduceLE, Int.reduceAdd, Int.reduceSub, Int.reduceMul, Int.reduceNeg, Int.reduceToNat, if_true, if_false, Classical.not_not, Int.cast_ofNat_Int, hk, e1, e2, e3, Int.toNat_natCast, mWr_of]
    rw [x151_17, eI]
    refine ih (i + 1) (by omega) _ (fun x hx => by rw [mUp_ne hx]; exact h1 x hx) (fun j hj => ?_)
    rw [mUp_at]
    by_cases q : j = i
    · rw [if_pos q]
    · rw [if_neg q]; exact h2 j (by omega)
theorem ct151g {g : MG} {a n : Nat} {v : Int} (hk : mKd g a = (10, n)) (hn : n < 2000) {μ : MU} (hQ : ∀ μ' : MU, (∀ x, ¬ x = a → μ' x = μ x) → (∀ i : Nat, i < n → μ' a i = v) → Q none g μ') : Wp E 151 0 [some (.inr (.inr (.inl a))), some (.inl v), none, none] [] g μ Q := by
  simp (disch := first | omega | exact rfl) only [x151_0, x151_1, x151_2, x151_3, x151_4, isF, isK, isH, mK, nl_i, nl_n, nl_o, nl_r, c1_i, c1_r, mPush, mRv, G0_1, true_and, and_true, and_self, implies_true, List.length_nil, List.length_cons, Nat.reduceAdd, Nat.reduceLeDiff, Nat.zero_le, beq_self_eq_true, Nat.reduceBEq, decide_true, Bool.and_self, reduceCtorEq, ne_eq, not_true_eq_false, not_false_eq_true, false_implies, true_implies, Nat.reduceLT, Nat.reduceEqDiff, or_true, true_or, or_false, false_or, or_self, Int.reduceEq, Int.reduceNe, Int.reduceLT, Int.reduceLE, Int.reduceAdd, Int.reduceSub, Int.reduceMul, Int.reduceNeg, Int.reduceToNat, if_true, if_false, Classical.not_not, Int.cast_ofNat_Int, hk]
  exact zq151g hk hn hQ n 0 (by omega) μ (fun _ _ => rfl) (fun j hj => by omega)
theorem zq0 {g : MG} {c : Nat} (hk : mKd g c = (0, 0)) (hr : mRf g c 1 = some (c + 2)) (hk2 : mKd g (c + 2) = (10, 16)) {μ0 : MU} (hQ : ∀ μ' : MU, (∀ x, ¬ x = c + 2 → μ' x = μ0 x) → (∀ i : Nat, i < 16 → μ' (c + 2) i = if i / 4 = i % 4 then 0 else 10) → Q none g μ') : ∀ (m i : Nat), i + m = 16 → ∀ μ : MU, (∀ x, ¬ x = c + 2 → μ x = μ0 x) → (∀ j : Nat, j < i → μ (c + 2) j = if j / 4 = j % 4 then 0 else 10) →
    Wp E 0 114 [some (.inr (.inr (.inl c))), some (.inl i)] [] g μ Q := by
  intro m
  induction m with
  | zero =>
    intro i hi μ h1 h2
    have e1 : (16 : Int) ≤ i := by omega
    have e2 : ¬ (i : Int) < 16 := by omega
    simp (disch := first | omega | exact rfl) only [x0_114, x0_115, x0_117, x0_147, isF, isK, isH, mK, nl_i, nl_n, nl_o, nl_r, c1_i, c1_r, mPush, mRv, G0_1, true_and, and_true, and_self, implies_true, List.length_nil, List.length_cons, Nat.reduceAdd, Nat.reduceLeDiff, Nat.zero_le, beq_self_eq_true, Nat.reduceBEq, decide_true, Bool.and_self, reduceCtorEq, ne_eq, not_true_eq_false, not_false_eq_true, false_implies, true_implies, Nat.reduceLT, Nat.reduceEqDiff, or_true, true_or, or_false, false_or, or_self, Int.reduceEq, Int.reduceNe, Int.reduceLT, Int.reduceLE, Int.reduceAdd, Int.reduceSub, Int.reduceMul, Int.reduceNeg, Int.reduceToNat, if_true, if_false, Classical.not_not, Int.cast_ofNat_Int, e1, e2]
    exact hQ μ h1 (fun j hj => h2 j (by omega))
  | succ m ih =>
    intro i hi μ h1 h2
    have e1 : ¬ (16 : Int) ≤ i := by omega
    have e2 : (i : Int) < 16 := by omega
    have e3 : (0 : Int) ≤ i := by omega
    have eI : (i : Int) + 1 = ((i + 1 : Nat) : Int) := by omega
    have ed : (i : Int).tdiv 4 = ((i / 4 : Nat) : Int) := by rw [Int.tdiv_eq_ediv_of_nonneg (by omega)]; omega
    have er : (i : Int).tmod 4 = ((i % 4 : Nat) : Int) := by rw [Int.tmod_eq_emod_of_nonneg (by omega)]; omega
    have next : ∀ v : Int, v = (if i / 4 = i % 4 then 0 else 10) → Wp E 0 144 [some (.inr (.inr (.inl c))), some (.inl ((i : Int) + 1))] [] g (mUp μ (c + 2) i v) Q := by
      intro v hv
      rw [x0_144, eI]
      refine ih (i + 1) (by omega) _ (fun x hx => by rw [mUp_ne hx]; exact h1 x hx) (fun j hj => ?_)
      rw [mUp_at]
      by_cases q : j = i
      · rw [if_pos q, q, hv]
      · rw [if_neg q]; exact h2 j (by omega)
    by_cases q : i / 4 = i % 4
    · have q2 : ((i / 4 : Nat) : Int) = ((i % 4 : Nat) : Int) := by omega
      simp (disch := first | omega | exact rfl) only [x0_114, x0_115, x0_117, x0_120, x0_121, x0_124, x0_125, x0_126, x0_127, x0_128, x0_129, x0_130, x0_131, x0_134, x0_135, x0_140, x0_141, isF, isK, isH, mK, nl_i, nl_n, nl_o, nl_r, c1_i, c1_r, mPush, mRv, G0_1, true_and, and_true, and_self, implies_true, List.length_nil, List.length_cons, Nat.reduceAdd, Nat.reduceLeDiff, Nat.zero_le, beq_self_eq_true, Nat.reduceBEq, decide_true, Bool.and_self, reduceCtorEq, ne_eq, not_true_eq_false, not_false_eq_true, false_implies, true_implies, Nat.reduceLT, Nat.reduceEqDiff, or_true, true_or, or_false, false_or, or_self, Int.reduceEq, Int.reduceNe, Int.reduceLT, Int.reduceLE, Int.reduceAdd, Int.reduceSub, Int.reduceMul, Int.reduceNeg, Int.reduceToNat, if_true, if_false, Classical.not_not, Int.cast_ofNat_Int, hk, hr, hk2, e1, e2, e3, ed, er, q2, mWr_of, Int.toNat_natCast]
      exact next 0 (by rw [if_pos q])
    · have q2 : ¬ ((i / 4 : Nat) : Int) = ((i % 4 : Nat) : Int) := by omega
      simp (disch := first | omega | exact rfl) only [x0_114, x0_115, x0_117, x0_120, x0_121, x0_124, x0_125, x0_126, x0_127, x0_128, x0_129, x0_130, x0_131, x0_138, x0_140, x0_141, isF, isK, isH, mK, nl_i, nl_n, nl_o, nl_r, c1_i, c1_r, mPush, mRv, G0_1, true_and, and_true, and_self, implies_true, List.length_nil, List.length_cons, Nat.reduceAdd, Nat.reduceLeDiff, Nat.zero_le, beq_self_eq_true, Nat.reduceBEq, decide_true, Bool.and_self, reduceCtorEq, ne_eq, not_true_eq_false, not_false_eq_true, false_implies, true_implies, Nat.reduceLT, Nat.reduceEqDiff, or_true, true_or, or_false, false_or, or_self, Int.reduceEq, Int.reduceNe, Int.reduceLT, Int.reduceLE, Int.reduceAdd, Int.reduceSub, Int.reduceMul, Int.reduceNeg, Int.reduceToNat, if_true, if_false, Classical.not_not, Int.cast_ofNat_Int, hk, hr, hk2, e1, e2, e3, ed, er, q2, mWr_of, Int.toNat_natCast]
      exact next 10 (by rw [if_neg q])
/-- the beginning of a circuit -/
def CI (μ : MU) (c : Nat) : Prop := (∀ i : Nat, i < 5 → μ (c + 1) i = ([15, 5, 10, 3, 5] : List Int).getD i 0) ∧ μ c 2 = 0 ∧ μ c 7 = 0 ∧ (∀ i : Nat, i < 16 → μ (c + 2) i = if i / 4 = i % 4 then 0 else 10) ∧ ∀ i : Nat, i < 30 → μ (c + 6) i = -6
theorem ct0 {g : MG} {μ : MU} {c : Nat} (hc : c ∈ gCs) (hA : GA g (c + 1)) (hk : mKd g c = (0, 0)) (hr : ∀ k, mRf g c k = none)
    (hQ : ∀ (g' : MG) (μ' : MU), GA g' (c + 11) → g'.2.1 = g.2.1 + 146 → GS g g' c → GE g' c (c + 11) → (∀ x, x < c → μ' x = μ x) → CI μ' c → Q none g' μ') :
    Wp E 0 0 [some (.inr (.inr (.inl c))), none] [] g μ Q := by
  refine ct0a hc hA hk hr (fun g1 μ1 k1 k2 k3 k4 k5 k6 k7 => ?_)
  obtain ⟨qc0, qc1, qc2, qc3, qc4, qc5, qc6, qc7, qc8, qc9, qc10, qc11, qc12, qc13, qc14, qc15, qc16, qc17, qc18, qc19, qc20⟩ := gC_ok c hc
  have f0 := (k4 c (by omega) (by omega)).1.trans (gC_ok c hc).1
  have f1 := ((k4 c (by omega) (by omega)).2 0).trans (gC_ok c hc).2.1
  have f2 := (k4 (c + 1) (by omega) (by omega)).1.trans (gC_ok c hc).2.2.1
  have f3 := ((k4 c (by omega) (by omega)).2 1).trans (gC_ok c hc).2.2.2.1
  have f4 := (k4 (c + 2) (by omega) (by omega)).1.trans (gC_ok c hc).2.2.2.2.1
  have f5 := ((k4 c (by omega) (by omega)).2 6).trans (gC_ok c hc).2.2.2.2.2.2.2.2.2.2.2.1
  have f6 := (k4 (c + 6) (by omega) (by omega)).1.trans (gC_ok c hc).2.2.2.2.2.2.2.2.2.2.2.2.1
  simp (disch := first | omega | exact rfl) only [x0_90, x0_93, x0_94, x0_95, x0_98, x0_99, x0_100K, x0_103, x0_104, x0_107, x0_109, isF, isK, isH, mK, nl_i, nl_n, nl_o, nl_r, c1_i, c1_r, mPush, mRv, G0_1, true_and, and_true, and_self, implies_true, List.length_nil, List.length_cons, Nat.reduceAdd, Nat.reduceLeDiff, Nat.zero_le, beq_self_eq_true, Nat.reduceBEq, decide_true, Bool.and_self, reduceCtorEq, ne_eq, not_true_eq_false, not_false_eq_true, false_implies, true_implies, Nat.reduceLT, Nat.reduceEqDiff, or_true, true_or, or_false, false_or, or_self, Int.reduceEq, Int.reduceNe, Int.reduceLT, Int.reduceLE, Int.reduceAdd, Int.reduceSub, Int.reduceMul, Int.reduceNeg, Int.reduceToNat, if_true, if_false, Classical.not_not, Int.cast_ofNat_Int, f0, f1, f2, f5]
  refine ct151g f6 (by omega) (fun μ2 m1 m2 => ?_)
  simp (disch := first | omega | exact rfl) only [x0_112, x0_113, isF, isK, isH, mK, nl_i, nl_n, nl_o, nl_r, c1_i, c1_r, mPush, mRv, G0_1, true_and, and_true, and_self, implies_true, List.length_nil, List.length_cons, Nat.reduceAdd, Nat.reduceLeDiff, Nat.zero_le, beq_self_eq_true, Nat.reduceBEq, decide_true, Bool.and_self, reduceCtorEq, ne_eq, not_true_eq_false, not_false_eq_true, false_implies, true_implies, Nat.reduceLT, Nat.reduceEqDiff, or_true, true_or, or_false, false_or, or_self, Int.reduceEq, Int.reduceNe, Int.reduceLT, Int.reduceLE, Int.reduceAdd, Int.reduceSub, Int.reduceMul, Int.reduceNeg, Int.reduceToNat, if_true, if_false, Classical.not_not, Int.cast_ofNat_Int]
  refine zq0 f0 f3 f4 (μ0 := μ2) (fun μ3 n1 n2 => ?_) 16 0 (by omega) μ2 (fun _ _ => rfl) (fun j hj => by omega)
  have cp : ∀ x, ¬ x = c + 1 → (mCpc μ1 (fun i => ([15, 5, 10, 3, 5] : List Int).getD i 0) (c + 1) 5) x = μ1 x := fun x hx => by funext j; exact if_neg (fun z => hx z.1)
  refine hQ g1 μ3 k1 k2 k3 k4 (fun x hx => by rw [n1 x (by omega), m1 x (by omega)]; rw [← k5 x hx]; exact cp x (by omega)) ⟨fun i hi => ?_, ?_, ?_, n2, fun i hi => ?_⟩
  · rw [n1 (c + 1) (by omega), m1 (c + 1) (by omega)]
    exact if_pos ⟨rfl, hi⟩
  · rw [n1 c (by omega), m1 c (by omega)]
    exact (congrFun (cp c (by omega)) 2).trans k6
  · rw [n1 c (by omega), m1 c (by omega)]
    exact (congrFun (cp c (by omega)) 7).trans k7
  · rw [n1 (c + 6) (by omega)]; exact m2 i hi
end INI2
