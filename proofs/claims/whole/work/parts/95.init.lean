section INI
variable {E : ME} {Q : Option MV → MG → MU → Prop}
theorem gr_1 {g : MG} {kd : Nat × Nat} {s : Nat} : (mGrow g kd s).1 = g.1 + 1 := rfl
theorem gr_s {g : MG} {kd : Nat × Nat} {s : Nat} : (mGrow g kd s).2.1 = g.2.1 + s := rfl
theorem st_1 {g : MG} {a k : Nat} {v : Option Nat} : (mSetR g a k v).1 = g.1 := rfl
theorem st_s {g : MG} {a k : Nat} {v : Option Nat} : (mSetR g a k v).2.1 = g.2.1 := rfl
theorem gr_ke {g : MG} {kd : Nat × Nat} {s x : Nat} (h : x = g.1) : mKd (mGrow g kd s) x = kd := if_pos h
theorem gr_kn {g : MG} {kd : Nat × Nat} {s x : Nat} (h : ¬ x = g.1) : mKd (mGrow g kd s) x = mKd g x := if_neg h
theorem st_k {g : MG} {a k x : Nat} {v : Option Nat} : mKd (mSetR g a k v) x = mKd g x := rfl
theorem gr_re {g : MG} {kd : Nat × Nat} {s x j : Nat} (h : x = g.1) : mRf (mGrow g kd s) x j = none := if_pos h
theorem gr_rn {g : MG} {kd : Nat × Nat} {s x j : Nat} (h : ¬ x = g.1) : mRf (mGrow g kd s) x j = mRf g x j := if_neg h
theorem st_ra {g : MG} {a k j : Nat} {v : Option Nat} : mRf (mSetR g a k v) a j = if j = k then v else mRf g a j := by
  show (if a = a ∧ j = k then v else mRf g a j) = _
  by_cases h : j = k
  · rw [if_pos h, if_pos ⟨rfl, h⟩]
  · rw [if_neg h, if_neg (fun z => h z.2)]
theorem st_rn {g : MG} {a k x j : Nat} {v : Option Nat} (h : ¬ x = a) : mRf (mSetR g a k v) x j = mRf g x j := if_neg (fun z => h z.1)
theorem ze_n {μ : MU} {a x : Nat} (h : ¬ x = a) : mZero μ a x = μ x := by funext j; exact if_neg h
theorem ze_e {μ : MU} {a j : Nat} : mZero μ a a j = 0 := if_pos rfl
/-- nothing is laid from n on -/
def GA (g : MG) (n : Nat) : Prop := g.1 = n ∧ ∀ x, n ≤ x → mKd g x = (99, 0) ∧ ∀ k, mRf g x k = none
/-- the heap is as it will be, from lo to hi -/
def GE (g : MG) (lo hi : Nat) : Prop := ∀ x, lo ≤ x → x < hi → mKd g x = mKd G0 x ∧ ∀ k, mRf g x k = mRf G0 x k
def GS (g g' : MG) (n : Nat) : Prop := ∀ x, x < n → mKd g' x = mKd g x ∧ ∀ k, mRf g' x k = mRf g x k
theorem gRFz : ∀ b ∈ gRs, (∀ k, mRf G0 b k = if k = 3 then some (b + 4) else if k = 2 then some (b + 3) else if k = 1 then some (b + 2) else if k = 0 then some (b + 1) else none) ∧ (∀ i, 1 ≤ i → i < 5 → ∀ k, mRf G0 (b + i) k = none) := by
  intro b hb
  have h1 : ∀ b ∈ gRs, gRf.getD b [] = [some (b + 1), some (b + 2), some (b + 3), some (b + 4)] ∧ gRf.getD (b + 1) [] = [] ∧ gRf.getD (b + 2) [] = [] ∧ gRf.getD (b + 3) [] = [] ∧ gRf.getD (b + 4) [] = [] := by decide +kernel
  obtain ⟨e0, e1, e2, e3, e4⟩ := h1 b hb
  refine ⟨fun k => ?_, fun i hi hi2 k => ?_⟩
  · show (gRf.getD b []).getD k none = _
    rw [e0]
    by_cases k0 : k = 0
    · subst k0; rfl
    by_cases k1 : k = 1
    · subst k1; rfl
    by_cases k2 : k = 2
    · subst k2; rfl
    by_cases k3 : k = 3
    · subst k3; rfl
    rw [if_neg k3, if_neg k2, if_neg k1, if_neg k0]
    obtain ⟨j, rfl⟩ : ∃ j, k = j + 4 := ⟨k - 4, by omega⟩
    rfl
  · show (gRf.getD (b + i) []).getD k none = _
    have hi3 : i = 1 ∨ i = 2 ∨ i = 3 ∨ i = 4 := by omega
    rcases hi3 with z | z | z | z <;> subst z
    · rw [e1]; rfl
    · rw [e2]; rfl
    · rw [e3]; rfl
    · rw [e4]; rfl
theorem ct34 {g : MG} {μ : MU} {b : Nat} (hb : b ∈ gRs) (hA : GA g (b + 1)) (hk : mKd g b = (4, 0)) (hr : ∀ k, mRf g b k = none)
    (hQ : ∀ (g' : MG) (μ' : MU), GA g' (b + 5) → g'.2.1 = g.2.1 + 24 → GS g g' b → GE g' b (b + 5) → (∀ x, x < b → μ' x = μ x) → Q none g' μ') :
    Wp E 34 0 [some (.inr (.inr (.inl b)))] [] g μ Q := by
  obtain ⟨hg, hA2⟩ := hA
  obtain ⟨q0, q1, q2, q3, q4, q5, q6, q7, q8⟩ := gR_ok b hb
  obtain ⟨r0, r1⟩ := gRFz b hb
  simp (disch := first | omega | exact rfl | (simp only [gr_1, st_1, hg]; done) | (simp only [gr_1, st_1, hg]; omega)) only [x34_0, x34_1, x34_4, x34_5, x34_7, x34_9, x34_12, x34_13, x34_15, x34_17, x34_20, x34_21, x34_23, x34_25, x34_28, x34_29, x34_31, x34_33, x34_36, x34_37, x34_38, x34_41, x34_42, x34_43, x34_46, x34_47, x34_48, x34_51, x34_52, x34_53, x34_56, x34_57, x34_58, x34_61, isF, isK, isH, mK, nl_i, nl_n, nl_o, nl_r, c1_i, c1_r, mPush, mRv, G0_1, true_and, and_true, and_self, implies_true, List.length_nil, List.length_cons, Nat.reduceAdd, Nat.reduceLeDiff, Nat.zero_le, beq_self_eq_true, Nat.reduceBEq, decide_true, Bool.and_self, reduceCtorEq, ne_eq, not_true_eq_false, not_false_eq_true, false_implies, true_implies, Nat.reduceLT, Nat.reduceEqDiff, or_true, true_or, or_false, false_or, or_self, Int.reduceEq, Int.reduceNe, Int.reduceLT, Int.reduceLE, Int.reduceAdd, Int.reduceSub, Int.reduceMul, Int.reduceNeg, Int.reduceToNat, if_true, if_false, Classical.not_not, Int.cast_ofNat_Int, gr_1, st_1, hg, gr_kn, gr_ke, st_k, hk, Nat.add_assoc]
  refine hQ _ _ ⟨by simp only [gr_1, st_1, hg], fun x hx => ⟨?_, fun k => ?_⟩⟩ (by simp only [gr_s, st_s, Nat.add_assoc, Int.reduceToNat, Nat.reduceAdd]) (fun x hx => ⟨?_, fun k => ?_⟩) (fun x h1 h2 => ?_) (fun x hx => ?_)
  · simp (disch := first | omega | (simp only [gr_1, st_1, hg]; done) | (simp only [gr_1, st_1, hg]; omega)) only [gr_kn, st_k]; exact (hA2 x (by omega)).1
  · simp (disch := first | omega | (simp only [gr_1, st_1, hg]; done) | (simp only [gr_1, st_1, hg]; omega)) only [gr_rn, st_rn]; exact (hA2 x (by omega)).2 k
  · simp (disch := first | omega | (simp only [gr_1, st_1, hg]; done) | (simp only [gr_1, st_1, hg]; omega)) only [gr_kn, st_k]
  · simp (disch := first | omega | (simp only [gr_1, st_1, hg]; done) | (simp only [gr_1, st_1, hg]; omega)) only [gr_rn, st_rn]
  · have h3 : x = b ∨ x = b + 1 ∨ x = b + 2 ∨ x = b + 3 ∨ x = b + 4 := by omega
    rcases h3 with z | z | z | z | z <;> subst z
    · refine ⟨?_, fun k => ?_⟩
      · simp (disch := first | omega | (simp only [gr_1, st_1, hg]; done) | (simp only [gr_1, st_1, hg]; omega)) only [gr_kn, st_k, hk, q0]
      · simp (disch := first | omega | (simp only [gr_1, st_1, hg]; done) | (simp only [gr_1, st_1, hg]; omega)) only [gr_rn, st_ra, hr, r0]
    all_goals
      refine ⟨?_, fun k => ?_⟩
      · simp (disch := first | omega | (simp only [gr_1, st_1, hg]; done) | (simp only [gr_1, st_1, hg]; omega)) only [gr_kn, gr_ke, st_k, q2, q4, q6, q8, Int.reduceToNat]
      · simp (disch := first | omega | (simp only [gr_1, st_1, hg]; done) | (simp only [gr_1, st_1, hg]; omega)) only [gr_rn, gr_re, st_rn, r1]
  · simp (disch := omega) only [mUp_ne, ze_n]
end INI
