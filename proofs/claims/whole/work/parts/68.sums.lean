def sm (g : Nat → Int) : Nat → Int
  | 0 => 0
  | n + 1 => sm g n + g n
def mx (g : Nat → Int) : Nat → Int
  | 0 => 0
  | n + 1 => if mx g n < g n then g n else mx g n
theorem sm_b {g : Nat → Int} {B : Int} : ∀ n : Nat, (∀ i, i < n → 0 ≤ g i ∧ g i ≤ B) → 0 ≤ sm g n ∧ sm g n ≤ B * n := by
  intro n
  induction n with
  | zero => intro _; simp only [sm]; omega
  | succ n ih =>
    intro h
    have i1 := ih (fun i hi => h i (by omega))
    have i2 := h n (by omega)
    simp only [sm]
    have e : B * ((n + 1 : Nat) : Int) = B * n + B := by
      have : ((n + 1 : Nat) : Int) = (n : Int) + 1 := by omega
      rw [this, Int.mul_add, Int.mul_one]
    rw [e]; omega
theorem sm_c {g g' : Nat → Int} : ∀ n : Nat, (∀ i, i < n → g i = g' i) → sm g n = sm g' n := by
  intro n
  induction n with
  | zero => intro _; rfl
  | succ n ih => intro h; simp only [sm]; rw [ih (fun i hi => h i (by omega)), h n (by omega)]
theorem mx_c {g g' : Nat → Int} : ∀ n : Nat, (∀ i, i < n → g i = g' i) → mx g n = mx g' n := by
  intro n
  induction n with
  | zero => intro _; rfl
  | succ n ih => intro h; simp only [mx]; rw [ih (fun i hi => h i (by omega)), h n (by omega)]
section SUM2
variable {E : ME} {Q : Option MV → MG → MU → Prop} {S : Row} {μ : MU}
theorem zq59 {a L n : Nat} (hk : mKd G0 a = (10, L)) (hL : n ≤ L) (hL2 : n ≤ 21) (hb : ∀ i, i < n → 0 ≤ μ a i ∧ μ a i ≤ 98901) (h : Q (some (.inl (sm (μ a) n))) G0 μ) : ∀ (m i : Nat), i + m = n →
    Wp E 59 4 [some (.inr (.inr (.inl a))), some (.inl n), some (.inl (sm (μ a) i)), some (.inl i)] [] G0 μ Q := by
  intro m
  induction m with
  | zero =>
    intro i hi
    have e : i = n := by omega
    subst e
    simp (disch := first | omega | exact rfl) only [x59_4, x59_5, x59_6, x59_21, x59_22, isF, isK, isH, mK, nl_i, nl_n, nl_o, nl_r, c1_i, c1_r, mPush, mRv, G0_1, true_and, and_true, and_self, implies_true, List.length_nil, List.length_cons, Nat.reduceAdd, Nat.reduceLeDiff, Nat.zero_le, beq_self_eq_true, Nat.reduceBEq, decide_true, Bool.and_self, reduceCtorEq, ne_eq, not_true_eq_false, not_false_eq_true, false_implies, true_implies, Nat.reduceLT, Nat.reduceEqDiff, or_true, true_or, or_false, false_or, or_self, Int.reduceEq, Int.reduceNe, Int.reduceLT, Int.reduceLE, Int.reduceAdd, Int.reduceSub, Int.reduceMul, Int.reduceNeg, Int.reduceToNat, if_true, if_false, Classical.not_not, Int.cast_ofNat_Int, Int.le_refl, Int.lt_irrefl]
    exact h
  | succ m ih =>
    intro i hi
    have e1 : ¬ (n : Int) ≤ i := by omega
    have e2 : (i : Int) < n := by omega
    have e3 : (i : Int) < L := by omega
    have e4 : (0 : Int) ≤ i := by omega
    have eI : (i : Int) + 1 = ((i + 1 : Nat) : Int) := by omega
    have b1 := sm_b i (fun j hj => hb j (by omega))
    have b2 := hb i (by omega)
    have e5 : sm (μ a) i + μ a i = sm (μ a) (i + 1) := rfl
    simp (disch := first | omega | exact rfl) only [x59_0, x59_1, x59_2, x59_3, x59_4, x59_5, x59_6, x59_9, x59_10, x59_11, x59_12, x59_13, x59_14, x59_15, x59_21, x59_22, isF, isK, isH, mK, nl_i, nl_n, nl_o, nl_r, c1_i, c1_r, mPush, mRv, G0_1, true_and, and_true, and_self, implies_true, List.length_nil, List.length_cons, Nat.reduceAdd, Nat.reduceLeDiff, Nat.zero_le, beq_self_eq_true, Nat.reduceBEq, decide_true, Bool.and_self, reduceCtorEq, ne_eq, not_true_eq_false, not_false_eq_true, false_implies, true_implies, Nat.reduceLT, Nat.reduceEqDiff, or_true, true_or, or_false, false_or, or_self, Int.reduceEq, Int.reduceNe, Int.reduceLT, Int.reduceLE, Int.reduceAdd, Int.reduceSub, Int.reduceMul, Int.reduceNeg, Int.reduceToNat, if_true, if_false, Classical.not_not, Int.cast_ofNat_Int, mWr_of, hk, e1, e2, e3, e4, Int.toNat_natCast]
    rw [x59_18, eI, e5]
    exact ih (i + 1) (by omega)
theorem ct59 {a L n : Nat} (hk : mKd G0 a = (10, L)) (hL : n ≤ L) (hL2 : n ≤ 21) (hb : ∀ i, i < n → 0 ≤ μ a i ∧ μ a i ≤ 98901) (h : Q (some (.inl (sm (μ a) n))) G0 μ) : Wp E 59 0 [some (.inr (.inr (.inl a))), some (.inl n), none, none] [] G0 μ Q := by
  simp (disch := first | omega | exact rfl) only [x59_0, x59_1, x59_2, x59_3, isF, isK, isH, mK, nl_i, nl_n, nl_o, nl_r, c1_i, c1_r, mPush, mRv, G0_1, true_and, and_true, and_self, implies_true, List.length_nil, List.length_cons, Nat.reduceAdd, Nat.reduceLeDiff, Nat.zero_le, beq_self_eq_true, Nat.reduceBEq, decide_true, Bool.and_self, reduceCtorEq, ne_eq, not_true_eq_false, not_false_eq_true, false_implies, true_implies, Nat.reduceLT, Nat.reduceEqDiff, or_true, true_or, or_false, false_or, or_self, Int.reduceEq, Int.reduceNe, Int.reduceLT, Int.reduceLE, Int.reduceAdd, Int.reduceSub, Int.reduceMul, Int.reduceNeg, Int.reduceToNat, if_true, if_false, Classical.not_not, Int.cast_ofNat_Int]
  exact zq59 hk hL hL2 hb h n 0 (by omega)
theorem zq57 {a N : Nat} {w : Int} (hN : μ 1 7 = N) (hk : mKd G0 a = (10, 20)) (hL : N ≤ 20) (h : Q (some (.inl (sm (fun i => if μ a i = w then 1 else 0) N))) G0 μ) : ∀ (m i : Nat), i + m = N →
    Wp E 57 5 [some (.inr (.inr (.inl 0))), some (.inr (.inr (.inl a))), some (.inl w), some (.inl (sm (fun i => if μ a i = w then 1 else 0) i)), some (.inl i)] [] G0 μ Q := by
  intro m
  induction m with
  | zero =>
    intro i hi
    have e : i = N := by omega
    subst e
    simp (disch := first | omega | exact rfl) only [x57_5, x57_7, x57_8, x57_11, x57_14, x57_34, x57_35, isF, isK, isH, mK, nl_i, nl_n, nl_o, nl_r, c1_i, c1_r, mPush, mRv, G0_1, true_and, and_true, and_self, implies_true, List.length_nil, List.length_cons, Nat.reduceAdd, Nat.reduceLeDiff, Nat.zero_le, beq_self_eq_true, Nat.reduceBEq, decide_true, Bool.and_self, reduceCtorEq, ne_eq, not_true_eq_false, not_false_eq_true, false_implies, true_implies, Nat.reduceLT, Nat.reduceEqDiff, or_true, true_or, or_false, false_or, or_self, Int.reduceEq, Int.reduceNe, Int.reduceLT, Int.reduceLE, Int.reduceAdd, Int.reduceSub, Int.reduceMul, Int.reduceNeg, Int.reduceToNat, if_true, if_false, Classical.not_not, Int.cast_ofNat_Int, kd0, rf0_0, rf0_1, rf0_2, rf0_3, rf0_4, rf0_5, rf0_6, rf0_7, rf0_8, kd1, hN, Int.le_refl, Int.lt_irrefl]
    exact h
  | succ m ih =>
    intro i hi
    have e1 : ¬ (N : Int) ≤ i := by omega
    have e2 : (i : Int) < N := by omega
    have e3 : (i : Int) < 20 := by omega
    have e4 : (0 : Int) ≤ i := by omega
    have eI : (i : Int) + 1 = ((i + 1 : Nat) : Int) := by omega
    have b1 := sm_b (g := fun i => if μ a i = w then 1 else 0) (B := 1) i (fun j hj => by
      show 0 ≤ (if μ a j = w then 1 else 0 : Int) ∧ (if μ a j = w then 1 else 0 : Int) ≤ 1
      by_cases q : μ a j = w
      · rw [if_pos q]; omega
      · rw [if_neg q]; omega)
    have e5 : sm (fun i => if μ a i = w then 1 else 0) (i + 1) = sm (fun i => if μ a i = w then 1 else 0) i + (if μ a i = w then 1 else 0) := rfl
    by_cases q : μ a i = w
    · rw [if_pos q] at e5
      have ih2 := ih (i + 1) (by omega)
      rw [e5] at ih2
      simp (disch := first | omega | exact rfl) only [x57_0, x57_1, x57_2, x57_3, x57_5, x57_7, x57_8, x57_11, x57_14, x57_17, x57_18, x57_20, x57_21, x57_22, x57_25, x57_28, x57_34, x57_35, isF, isK, isH, mK, nl_i, nl_n, nl_o, nl_r, c1_i, c1_r, mPush, mRv, G0_1, true_and, and_true, and_self, implies_true, List.length_nil, List.length_cons, Nat.reduceAdd, Nat.reduceLeDiff, Nat.zero_le, beq_self_eq_true, Nat.reduceBEq, decide_true, Bool.and_self, reduceCtorEq, ne_eq, not_true_eq_false, not_false_eq_true, false_implies, true_implies, Nat.reduceLT, Nat.reduceEqDiff, or_true, true_or, or_false, false_or, or_self, Int.reduceEq, Int.reduceNe, Int.reduceLT, Int.reduceLE, Int.reduceAdd, Int.reduceSub, Int.reduceMul, Int.reduceNeg, Int.reduceToNat, if_true, if_false, Classical.not_not, Int.cast_ofNat_Int, kd0, rf0_0, rf0_1, rf0_2, rf0_3, rf0_4, rf0_5, rf0_6, rf0_7, rf0_8, kd1, mWr_of, hk, hN, e1, e2, e3, e4, Int.toNat_natCast, q]
      rw [x57_31, eI]
      exact ih2
    · rw [if_neg q, Int.add_zero] at e5
      have ih2 := ih (i + 1) (by omega)
      rw [e5] at ih2
      simp (disch := first | omega | exact rfl) only [x57_0, x57_1, x57_2, x57_3, x57_5, x57_7, x57_8, x57_11, x57_14, x57_17, x57_18, x57_20, x57_21, x57_22, x57_25, x57_28, x57_34, x57_35, isF, isK, isH, mK, nl_i, nl_n, nl_o, nl_r, c1_i, c1_r, mPush, mRv, G0_1, true_and, and_true, and_self, implies_true, List.length_nil, List.length_cons, Nat.reduceAdd, Nat.reduceLeDiff, Nat.zero_le, beq_self_eq_true, Nat.reduceBEq, decide_true, Bool.and_self, reduceCtorEq, ne_eq, not_true_eq_false, not_false_eq_true, false_implies, true_implies, Nat.reduceLT, Nat.reduceEqDiff, or_true, true_or, or_false, false_or, or_self, Int.reduceEq, Int.reduceNe, Int.reduceLT, Int.reduceLE, Int.reduceAdd, Int.reduceSub, Int.reduceMul, Int.reduceNeg, Int.reduceToNat, if_true, if_false, Classical.not_not, Int.cast_ofNat_Int, kd0, rf0_0, rf0_1, rf0_2, rf0_3, rf0_4, rf0_5, rf0_6, rf0_7, rf0_8, kd1, mWr_of, hk, hN, e1, e2, e3, e4, Int.toNat_natCast, q]
      rw [x57_31, eI]
      exact ih2
theorem ct57 {a N : Nat} {w : Int} (hN : μ 1 7 = N) (hk : mKd G0 a = (10, 20)) (hL : N ≤ 20) (h : Q (some (.inl (sm (fun i => if μ a i = w then 1 else 0) N))) G0 μ) : Wp E 57 0 [some (.inr (.inr (.inl 0))), some (.inr (.inr (.inl a))), some (.inl w), none, none] [] G0 μ Q := by
  simp (disch := first | omega | exact rfl) only [x57_0, x57_1, x57_2, x57_3, isF, isK, isH, mK, nl_i, nl_n, nl_o, nl_r, c1_i, c1_r, mPush, mRv, G0_1, true_and, and_true, and_self, implies_true, List.length_nil, List.length_cons, Nat.reduceAdd, Nat.reduceLeDiff, Nat.zero_le, beq_self_eq_true, Nat.reduceBEq, decide_true, Bool.and_self, reduceCtorEq, ne_eq, not_true_eq_false, not_false_eq_true, false_implies, true_implies, Nat.reduceLT, Nat.reduceEqDiff, or_true, true_or, or_false, false_or, or_self, Int.reduceEq, Int.reduceNe, Int.reduceLT, Int.reduceLE, Int.reduceAdd, Int.reduceSub, Int.reduceMul, Int.reduceNeg, Int.reduceToNat, if_true, if_false, Classical.not_not, Int.cast_ofNat_Int]
  exact zq57 hN hk hL h N 0 (by omega)
theorem ite_b {p : Prop} [Decidable p] {v B : Int} (h : 0 ≤ v ∧ v ≤ B) : 0 ≤ (if p then v else 0) ∧ (if p then v else 0) ≤ B := by
  by_cases q : p
  · rw [if_pos q]; exact h
  · rw [if_neg q]; omega
theorem zq58 {a v N : Nat} {w : Int} (hN : μ 1 7 = N) (hk : mKd G0 a = (10, 20)) (hv : mKd G0 v = (10, 20)) (hL : N ≤ 20) (hb : ∀ i, i < N → 0 ≤ μ v i ∧ μ v i ≤ 98901) (h : Q (some (.inl (sm (fun i => if μ a i = w then μ v i else 0) N))) G0 μ) : ∀ (m i : Nat), i + m = N →
    Wp E 58 6 [some (.inr (.inr (.inl 0))), some (.inr (.inr (.inl v))), some (.inr (.inr (.inl a))), some (.inl w), some (.inl (sm (fun i => if μ a i = w then μ v i else 0) i)), some (.inl i)] [] G0 μ Q := by
  intro m
  induction m with
  | zero =>
    intro i hi
    have e : i = N := by omega
    subst e
    simp (disch := first | omega | exact rfl) only [x58_6, x58_8, x58_9, x58_12, x58_15, x58_41, x58_43, isF, isK, isH, mK, nl_i, nl_n, nl_o, nl_r, c1_i, c1_r, mPush, mRv, G0_1, true_and, and_true, and_self, implies_true, List.length_nil, List.length_cons, Nat.reduceAdd, Nat.reduceLeDiff, Nat.zero_le, beq_self_eq_true, Nat.reduceBEq, decide_true, Bool.and_self, reduceCtorEq, ne_eq, not_true_eq_false, not_false_eq_true, false_implies, true_implies, Nat.reduceLT, Nat.reduceEqDiff, or_true, true_or, or_false, false_or, or_self, Int.reduceEq, Int.reduceNe, Int.reduceLT, Int.reduceLE, Int.reduceAdd, Int.reduceSub, Int.reduceMul, Int.reduceNeg, Int.reduceToNat, if_true, if_false, Classical.not_not, Int.cast_ofNat_Int, kd0, rf0_0, rf0_1, rf0_2, rf0_3, rf0_4, rf0_5, rf0_6, rf0_7, rf0_8, kd1, hN, Int.le_refl, Int.lt_irrefl]
    exact h
  | succ m ih =>
    intro i hi
    have e1 : ¬ (N : Int) ≤ i := by omega
    have e2 : (i : Int) < N := by omega
    have e3 : (i : Int) < 20 := by omega
    have e4 : (0 : Int) ≤ i := by omega
    have eI : (i : Int) + 1 = ((i + 1 : Nat) : Int) := by omega
    have b1 := sm_b (g := fun i => if μ a i = w then μ v i else 0) (B := 98901) i (fun j hj => ite_b (hb j (by omega)))
    have b2 := hb i (by omega)
    have e5 : sm (fun i => if μ a i = w then μ v i else 0) (i + 1) = sm (fun i => if μ a i = w then μ v i else 0) i + (if μ a i = w then μ v i else 0) := rfl
    by_cases q : μ a i = w
    · rw [if_pos q] at e5
      have ih2 := ih (i + 1) (by omega)
      rw [e5] at ih2
      simp (disch := first | omega | exact rfl) only [x58_0, x58_1, x58_3, x58_4, x58_6, x58_8, x58_9, x58_12, x58_15, x58_18, x58_19, x58_21, x58_22, x58_23, x58_26, x58_28, x58_29, x58_31, x58_32, x58_33, x58_35, x58_41, x58_43, isF, isK, isH, mK, nl_i, nl_n, nl_o, nl_r, c1_i, c1_r, mPush, mRv, G0_1, true_and, and_true, and_self, implies_true, List.length_nil, List.length_cons, Nat.reduceAdd, Nat.reduceLeDiff, Nat.zero_le, beq_self_eq_true, Nat.reduceBEq, decide_true, Bool.and_self, reduceCtorEq, ne_eq, not_true_eq_false, not_false_eq_true, false_implies, true_implies, Nat.reduceLT, Nat.reduceEqDiff, or_true, true_or, or_false, false_or, or_self, Int.reduceEq, Int.reduceNe, Int.reduceLT, Int.reduceLE, Int.reduceAdd, Int.reduceSub, Int.reduceMul, Int.reduceNeg, Int.reduceToNat, if_true, if_false, Classical.not_not, Int.cast_ofNat_Int, kd0, rf0_0, rf0_1, rf0_2, rf0_3, rf0_4, rf0_5, rf0_6, rf0_7, rf0_8, kd1, mWr_of, hk, hv, hN, e1, e2, e3, e4, Int.toNat_natCast, q]
      rw [x58_38, eI]
      exact ih2
    · rw [if_neg q, Int.add_zero] at e5
      have ih2 := ih (i + 1) (by omega)
      rw [e5] at ih2
      simp (disch := first | omega | exact rfl) only [x58_0, x58_1, x58_3, x58_4, x58_6, x58_8, x58_9, x58_12, x58_15, x58_18, x58_19, x58_21, x58_22, x58_23, x58_26, x58_28, x58_29, x58_31, x58_32, x58_33, x58_35, x58_41, x58_43, isF, isK, isH, mK, nl_i, nl_n, nl_o, nl_r, c1_i, c1_r, mPush, mRv, G0_1, true_and, and_true, and_self, implies_true, List.length_nil, List.length_cons, Nat.reduceAdd, Nat.reduceLeDiff, Nat.zero_le, beq_self_eq_true, Nat.reduceBEq, decide_true, Bool.and_self, reduceCtorEq, ne_eq, not_true_eq_false, not_false_eq_true, false_implies, true_implies, Nat.reduceLT, Nat.reduceEqDiff, or_true, true_or, or_false, false_or, or_self, Int.reduceEq, Int.reduceNe, Int.reduceLT, Int.reduceLE, Int.reduceAdd, Int.reduceSub, Int.reduceMul, Int.reduceNeg, Int.reduceToNat, if_true, if_false, Classical.not_not, Int.cast_ofNat_Int, kd0, rf0_0, rf0_1, rf0_2, rf0_3, rf0_4, rf0_5, rf0_6, rf0_7, rf0_8, kd1, mWr_of, hk, hv, hN, e1, e2, e3, e4, Int.toNat_natCast, q]
      rw [x58_38, eI]
      exact ih2
theorem ct58 {a v N : Nat} {w : Int} (hN : μ 1 7 = N) (hk : mKd G0 a = (10, 20)) (hv : mKd G0 v = (10, 20)) (hL : N ≤ 20) (hb : ∀ i, i < N → 0 ≤ μ v i ∧ μ v i ≤ 98901) (h : Q (some (.inl (sm (fun i => if μ a i = w then μ v i else 0) N))) G0 μ) : Wp E 58 0 [some (.inr (.inr (.inl 0))), some (.inr (.inr (.inl v))), some (.inr (.inr (.inl a))), some (.inl w), none, none] [] G0 μ Q := by
  simp (disch := first | omega | exact rfl) only [x58_0, x58_1, x58_3, x58_4, isF, isK, isH, mK, nl_i, nl_n, nl_o, nl_r, c1_i, c1_r, mPush, mRv, G0_1, true_and, and_true, and_self, implies_true, List.length_nil, List.length_cons, Nat.reduceAdd, Nat.reduceLeDiff, Nat.zero_le, beq_self_eq_true, Nat.reduceBEq, decide_true, Bool.and_self, reduceCtorEq, ne_eq, not_true_eq_false, not_false_eq_true, false_implies, true_implies, Nat.reduceLT, Nat.reduceEqDiff, or_true, true_or, or_false, false_or, or_self, Int.reduceEq, Int.reduceNe, Int.reduceLT, Int.reduceLE, Int.reduceAdd, Int.reduceSub, Int.reduceMul, Int.reduceNeg, Int.reduceToNat, if_true, if_false, Classical.not_not, Int.cast_ofNat_Int]
  exact zq58 hN hk hv hL hb h N 0 (by omega)
theorem zq32 {c N : Nat} (hc : c ∈ gCs) (hN : μ c 7 = N) (hL : N ≤ 20) (hb : ∀ i, i < N → 0 ≤ μ 17 i ∧ μ 17 i < 64) (h : Q (some (.inl (sm (fun i => on (μ 17 i)) N))) G0 μ) : ∀ (m i : Nat), i + m = N →
    Wp E 32 4 [some (.inr (.inr (.inl 12))), some (.inr (.inr (.inl c))), some (.inl (sm (fun i => on (μ 17 i)) i)), some (.inl i)] [] G0 μ Q := by
  obtain ⟨qc0, qc1, qc2, qc3, qc4, qc5, qc6, qc7, qc8, qc9, qc10, qc11, qc12, qc13, qc14, qc15, qc16, qc17, qc18, qc19, qc20⟩ := gC_ok c hc
  intro m
  induction m with
  | zero =>
    intro i hi
    have e : i = N := by omega
    subst e
    simp (disch := first | omega | exact rfl) only [x32_4, x32_5, x32_6, x32_9, x32_30, x32_31, isF, isK, isH, mK, nl_i, nl_n, nl_o, nl_r, c1_i, c1_r, mPush, mRv, G0_1, true_and, and_true, and_self, implies_true, List.length_nil, List.length_cons, Nat.reduceAdd, Nat.reduceLeDiff, Nat.zero_le, beq_self_eq_true, Nat.reduceBEq, decide_true, Bool.and_self, reduceCtorEq, ne_eq, not_true_eq_false, not_false_eq_true, false_implies, true_implies, Nat.reduceLT, Nat.reduceEqDiff, or_true, true_or, or_false, false_or, or_self, Int.reduceEq, Int.reduceNe, Int.reduceLT, Int.reduceLE, Int.reduceAdd, Int.reduceSub, Int.reduceMul, Int.reduceNeg, Int.reduceToNat, if_true, if_false, Classical.not_not, Int.cast_ofNat_Int, qc0, qc1, qc2, qc3, qc4, qc5, qc6, qc7, qc8, qc9, qc10, qc11, qc12, qc13, qc14, qc15, qc16, qc17, qc18, qc19, qc20, hN, Int.le_refl, Int.lt_irrefl]
    exact h
  | succ m ih =>
    intro i hi
    have e1 : ¬ (N : Int) ≤ i := by omega
    have e2 : (i : Int) < N := by omega
    have e3 : (i : Int) < 20 := by omega
    have e4 : (0 : Int) ≤ i := by omega
    have eI : (i : Int) + 1 = ((i + 1 : Nat) : Int) := by omega
    have b1 := sm_b (g := fun i => on (μ 17 i)) (B := 6) i (fun j hj => on_bd (hb j (by omega)))
    have b2 := on_bd (hb i (by omega))
    have e5 : sm (fun i => on (μ 17 i)) i + on (μ 17 i) = sm (fun i => on (μ 17 i)) (i + 1) := rfl
    simp (disch := first | omega | exact rfl) only [x32_0, x32_1, x32_2, x32_3, x32_4, x32_5, x32_6, x32_9, x32_12, x32_13, x32_14, x32_17, x32_18, x32_19, x32_22, x32_23, x32_24, x32_30, x32_31, isF, isK, isH, mK, nl_i, nl_n, nl_o, nl_r, c1_i, c1_r, mPush, mRv, G0_1, true_and, and_true, and_self, implies_true, List.length_nil, List.length_cons, Nat.reduceAdd, Nat.reduceLeDiff, Nat.zero_le, beq_self_eq_true, Nat.reduceBEq, decide_true, Bool.and_self, reduceCtorEq, ne_eq, not_true_eq_false, not_false_eq_true, false_implies, true_implies, Nat.reduceLT, Nat.reduceEqDiff, or_true, true_or, or_false, false_or, or_self, Int.reduceEq, Int.reduceNe, Int.reduceLT, Int.reduceLE, Int.reduceAdd, Int.reduceSub, Int.reduceMul, Int.reduceNeg, Int.reduceToNat, if_true, if_false, Classical.not_not, Int.cast_ofNat_Int, kd12, kd13, kd14, kd15, kd16, kd17, kd18, kd19, kd20, kd21, kd22, kd23, rf12_0, rf12_1, rf12_2, rf12_3, rf12_4, rf12_5, rf12_6, rf12_7, rf12_8, rf12_9, rf12_10, rf23_0, rf23_1, rf23_2, rf23_3, rf23_4, qc0, qc1, qc2, qc3, qc4, qc5, qc6, qc7, qc8, qc9, qc10, qc11, qc12, qc13, qc14, qc15, qc16, qc17, qc18, qc19, qc20, mWr_of, hN, e1, e2, e3, e4, Int.toNat_natCast, ct142 (hb i (by omega))]
    rw [x32_27, eI, e5]
    exact ih (i + 1) (by omega)
theorem ct32 {c N : Nat} (hc : c ∈ gCs) (hN : μ c 7 = N) (hL : N ≤ 20) (hb : ∀ i, i < N → 0 ≤ μ 17 i ∧ μ 17 i < 64) (h : Q (some (.inl (sm (fun i => on (μ 17 i)) N))) G0 μ) : Wp E 32 0 [some (.inr (.inr (.inl 12))), some (.inr (.inr (.inl c))), none, none] [] G0 μ Q := by
  simp (disch := first | omega | exact rfl) only [x32_0, x32_1, x32_2, x32_3, isF, isK, isH, mK, nl_i, nl_n, nl_o, nl_r, c1_i, c1_r, mPush, mRv, G0_1, true_and, and_true, and_self, implies_true, List.length_nil, List.length_cons, Nat.reduceAdd, Nat.reduceLeDiff, Nat.zero_le, beq_self_eq_true, Nat.reduceBEq, decide_true, Bool.and_self, reduceCtorEq, ne_eq, not_true_eq_false, not_false_eq_true, false_implies, true_implies, Nat.reduceLT, Nat.reduceEqDiff, or_true, true_or, or_false, false_or, or_self, Int.reduceEq, Int.reduceNe, Int.reduceLT, Int.reduceLE, Int.reduceAdd, Int.reduceSub, Int.reduceMul, Int.reduceNeg, Int.reduceToNat, if_true, if_false, Classical.not_not, Int.cast_ofNat_Int]
  exact zq32 hc hN hL hb h N 0 (by omega)
theorem zq33 {c N : Nat} (hc : c ∈ gCs) (hN : μ c 7 = N) (hL : N ≤ 20) (h : Q (some (.inl (mx (μ 15) N))) G0 μ) : ∀ (m i : Nat), i + m = N →
    Wp E 33 4 [some (.inr (.inr (.inl 12))), some (.inr (.inr (.inl c))), some (.inl (mx (μ 15) i)), some (.inl i)] [] G0 μ Q := by
  obtain ⟨qc0, qc1, qc2, qc3, qc4, qc5, qc6, qc7, qc8, qc9, qc10, qc11, qc12, qc13, qc14, qc15, qc16, qc17, qc18, qc19, qc20⟩ := gC_ok c hc
  intro m
  induction m with
  | zero =>
    intro i hi
    have e : i = N := by omega
    subst e
    simp (disch := first | omega | exact rfl) only [x33_4, x33_5, x33_6, x33_9, x33_29, x33_30, isF, isK, isH, mK, nl_i, nl_n, nl_o, nl_r, c1_i, c1_r, mPush, mRv, G0_1, true_and, and_true, and_self, implies_true, List.length_nil, List.length_cons, Nat.reduceAdd, Nat.reduceLeDiff, Nat.zero_le, beq_self_eq_true, Nat.reduceBEq, decide_true, Bool.and_self, reduceCtorEq, ne_eq, not_true_eq_false, not_false_eq_true, false_implies, true_implies, Nat.reduceLT, Nat.reduceEqDiff, or_true, true_or, or_false, false_or, or_self, Int.reduceEq, Int.reduceNe, Int.reduceLT, Int.reduceLE, Int.reduceAdd, Int.reduceSub, Int.reduceMul, Int.reduceNeg, Int.reduceToNat, if_true, if_false, Classical.not_not, Int.cast_ofNat_Int, qc0, qc1, qc2, qc3, qc4, qc5, qc6, qc7, qc8, qc9, qc10, qc11, qc12, qc13, qc14, qc15, qc16, qc17, qc18, qc19, qc20, hN, Int.le_refl, Int.lt_irrefl]
    exact h
  | succ m ih =>
    intro i hi
    have e1 : ¬ (N : Int) ≤ i := by omega
    have e2 : (i : Int) < N := by omega
    have e3 : (i : Int) < 20 := by omega
    have e4 : (0 : Int) ≤ i := by omega
    have eI : (i : Int) + 1 = ((i + 1 : Nat) : Int) := by omega
    have e5 : (if mx (μ 15) i < μ 15 i then μ 15 i else mx (μ 15) i) = mx (μ 15) (i + 1) := rfl
    simp (disch := first | omega | exact rfl) only [x33_0, x33_1, x33_2, x33_3, x33_4, x33_5, x33_6, x33_9, x33_12, x33_13, x33_14, x33_17, x33_18, x33_19, x33_22, x33_23, x33_29, x33_30, isF, isK, isH, mK, nl_i, nl_n, nl_o, nl_r, c1_i, c1_r, mPush, mRv, G0_1, true_and, and_true, and_self, implies_true, List.length_nil, List.length_cons, Nat.reduceAdd, Nat.reduceLeDiff, Nat.zero_le, beq_self_eq_true, Nat.reduceBEq, decide_true, Bool.and_self, reduceCtorEq, ne_eq, not_true_eq_false, not_false_eq_true, false_implies, true_implies, Nat.reduceLT, Nat.reduceEqDiff, or_true, true_or, or_false, false_or, or_self, Int.reduceEq, Int.reduceNe, Int.reduceLT, Int.reduceLE, Int.reduceAdd, Int.reduceSub, Int.reduceMul, Int.reduceNeg, Int.reduceToNat, if_true, if_false, Classical.not_not, Int.cast_ofNat_Int, kd12, kd13, kd14, kd15, kd16, kd17, kd18, kd19, kd20, kd21, kd22, kd23, rf12_0, rf12_1, rf12_2, rf12_3, rf12_4, rf12_5, rf12_6, rf12_7, rf12_8, rf12_9, rf12_10, rf23_0, rf23_1, rf23_2, rf23_3, rf23_4, qc0, qc1, qc2, qc3, qc4, qc5, qc6, qc7, qc8, qc9, qc10, qc11, qc12, qc13, qc14, qc15, qc16, qc17, qc18, qc19, qc20, mWr_of, hN, e1, e2, e3, e4, Int.toNat_natCast, ct143]
    rw [x33_26, eI, e5]
    exact ih (i + 1) (by omega)
theorem ct33 {c N : Nat} (hc : c ∈ gCs) (hN : μ c 7 = N) (hL : N ≤ 20) (h : Q (some (.inl (mx (μ 15) N))) G0 μ) : Wp E 33 0 [some (.inr (.inr (.inl 12))), some (.inr (.inr (.inl c))), none, none] [] G0 μ Q := by
  simp (disch := first | omega | exact rfl) only [x33_0, x33_1, x33_2, x33_3, isF, isK, isH, mK, nl_i, nl_n, nl_o, nl_r, c1_i, c1_r, mPush, mRv, G0_1, true_and, and_true, and_self, implies_true, List.length_nil, List.length_cons, Nat.reduceAdd, Nat.reduceLeDiff, Nat.zero_le, beq_self_eq_true, Nat.reduceBEq, decide_true, Bool.and_self, reduceCtorEq, ne_eq, not_true_eq_false, not_false_eq_true, false_implies, true_implies, Nat.reduceLT, Nat.reduceEqDiff, or_true, true_or, or_false, false_or, or_self, Int.reduceEq, Int.reduceNe, Int.reduceLT, Int.reduceLE, Int.reduceAdd, Int.reduceSub, Int.reduceMul, Int.reduceNeg, Int.reduceToNat, if_true, if_false, Classical.not_not, Int.cast_ofNat_Int]
  exact zq33 hc hN hL h N 0 (by omega)
theorem zq119 {F : Nat} (hF : μ 177 5 = F) (hL : F ≤ 5) (hb : ∀ i, i < F → 0 ≤ μ 188 i ∧ μ 188 i ≤ 98901) (h : Q (some (.inl (sm (μ 188) F))) G0 μ) : ∀ (m i : Nat), i + m = F →
    Wp E 119 4 [some (.inr (.inr (.inl 176))), some (.inl (sm (μ 188) i)), some (.inl i)] [] G0 μ Q := by
  intro m
  induction m with
  | zero =>
    intro i hi
    have e : i = F := by omega
    subst e
    simp (disch := first | omega | exact rfl) only [x119_4, x119_5, x119_6, x119_9, x119_10, x119_11, x119_29, x119_30, isF, isK, isH, mK, nl_i, nl_n, nl_o, nl_r, c1_i, c1_r, mPush, mRv, G0_1, true_and, and_true, and_self, implies_true, List.length_nil, List.length_cons, Nat.reduceAdd, Nat.reduceLeDiff, Nat.zero_le, beq_self_eq_true, Nat.reduceBEq, decide_true, Bool.and_self, reduceCtorEq, ne_eq, not_true_eq_false, not_false_eq_true, false_implies, true_implies, Nat.reduceLT, Nat.reduceEqDiff, or_true, true_or, or_false, false_or, or_self, Int.reduceEq, Int.reduceNe, Int.reduceLT, Int.reduceLE, Int.reduceAdd, Int.reduceSub, Int.reduceMul, Int.reduceNeg, Int.reduceToNat, if_true, if_false, Classical.not_not, Int.cast_ofNat_Int, kd176, kd177, kd178, kd179, kd180, kd181, kd182, kd183, kd184, kd185, kd186, kd187, kd188, kd189, kd190, kd191, kd192, kd193, kd194, rf176_1, rf176_2, rf176_4, rf176_5, rf176_6, rf176_8, rf176_9, rf176_10, rf176_11, rf176_12, rf176_13, rf176_14, rf176_16, rf176_17, rf176_18, rf176_19, rf176_20, rf176_23, hF, Int.le_refl, Int.lt_irrefl]
    exact h
  | succ m ih =>
    intro i hi
    have e1 : ¬ (F : Int) ≤ i := by omega
    have e2 : (i : Int) < F := by omega
    have e3 : (i : Int) < 5 := by omega
    have e4 : (0 : Int) ≤ i := by omega
    have eI : (i : Int) + 1 = ((i + 1 : Nat) : Int) := by omega
    have b1 := sm_b (g := μ 188) (B := 98901) i (fun j hj => hb j (by omega))
    have b2 := hb i (by omega)
    have e5 : sm (μ 188) i + μ 188 i = sm (μ 188) (i + 1) := rfl
    simp (disch := first | omega | exact rfl) only [x119_0, x119_1, x119_2, x119_3, x119_4, x119_5, x119_6, x119_9, x119_10, x119_11, x119_14, x119_15, x119_16, x119_19, x119_20, x119_21, x119_22, x119_23, x119_29, x119_30, isF, isK, isH, mK, nl_i, nl_n, nl_o, nl_r, c1_i, c1_r, mPush, mRv, G0_1, true_and, and_true, and_self, implies_true, List.length_nil, List.length_cons, Nat.reduceAdd, Nat.reduceLeDiff, Nat.zero_le, beq_self_eq_true, Nat.reduceBEq, decide_true, Bool.and_self, reduceCtorEq, ne_eq, not_true_eq_false, not_false_eq_true, false_implies, true_implies, Nat.reduceLT, Nat.reduceEqDiff, or_true, true_or, or_false, false_or, or_self, Int.reduceEq, Int.reduceNe, Int.reduceLT, Int.reduceLE, Int.reduceAdd, Int.reduceSub, Int.reduceMul, Int.reduceNeg, Int.reduceToNat, if_true, if_false, Classical.not_not, Int.cast_ofNat_Int, kd176, kd177, kd178, kd179, kd180, kd181, kd182, kd183, kd184, kd185, kd186, kd187, kd188, kd189, kd190, kd191, kd192, kd193, kd194, rf176_1, rf176_2, rf176_4, rf176_5, rf176_6, rf176_8, rf176_9, rf176_10, rf176_11, rf176_12, rf176_13, rf176_14, rf176_16, rf176_17, rf176_18, rf176_19, rf176_20, rf176_23, mWr_of, hF, e1, e2, e3, e4, Int.toNat_natCast]
    rw [x119_26, eI, e5]
    exact ih (i + 1) (by omega)
theorem ct119 {F : Nat} (hF : μ 177 5 = F) (hL : F ≤ 5) (hb : ∀ i, i < F → 0 ≤ μ 188 i ∧ μ 188 i ≤ 98901) (h : Q (some (.inl (sm (μ 188) F))) G0 μ) : Wp E 119 0 [some (.inr (.inr (.inl 176))), none, none] [] G0 μ Q := by
  simp (disch := first | omega | exact rfl) only [x119_0, x119_1, x119_2, x119_3, isF, isK, isH, mK, nl_i, nl_n, nl_o, nl_r, c1_i, c1_r, mPush, mRv, G0_1, true_and, and_true, and_self, implies_true, List.length_nil, List.length_cons, Nat.reduceAdd, Nat.reduceLeDiff, Nat.zero_le, beq_self_eq_true, Nat.reduceBEq, decide_true, Bool.and_self, reduceCtorEq, ne_eq, not_true_eq_false, not_false_eq_true, false_implies, true_implies, Nat.reduceLT, Nat.reduceEqDiff, or_true, true_or, or_false, false_or, or_self, Int.reduceEq, Int.reduceNe, Int.reduceLT, Int.reduceLE, Int.reduceAdd, Int.reduceSub, Int.reduceMul, Int.reduceNeg, Int.reduceToNat, if_true, if_false, Classical.not_not, Int.cast_ofNat_Int]
  exact zq119 hF hL hb h F 0 (by omega)
theorem zq120 {N : Nat} (hN : μ 177 6 = N) (hL : N ≤ 20) (h : Q (some (.inl (mx (μ 183) N))) G0 μ) : ∀ (m i : Nat), i + m = N →
    Wp E 120 4 [some (.inr (.inr (.inl 176))), some (.inl (mx (μ 183) i)), some (.inl i)] [] G0 μ Q := by
  intro m
  induction m with
  | zero =>
    intro i hi
    have e : i = N := by omega
    subst e
    simp (disch := first | omega | exact rfl) only [x120_4, x120_5, x120_6, x120_9, x120_11, x120_12, x120_42, x120_43, isF, isK, isH, mK, nl_i, nl_n, nl_o, nl_r, c1_i, c1_r, mPush, mRv, G0_1, true_and, and_true, and_self, implies_true, List.length_nil, List.length_cons, Nat.reduceAdd, Nat.reduceLeDiff, Nat.zero_le, beq_self_eq_true, Nat.reduceBEq, decide_true, Bool.and_self, reduceCtorEq, ne_eq, not_true_eq_false, not_false_eq_true, false_implies, true_implies, Nat.reduceLT, Nat.reduceEqDiff, or_true, true_or, or_false, false_or, or_self, Int.reduceEq, Int.reduceNe, Int.reduceLT, Int.reduceLE, Int.reduceAdd, Int.reduceSub, Int.reduceMul, Int.reduceNeg, Int.reduceToNat, if_true, if_false, Classical.not_not, Int.cast_ofNat_Int, kd176, kd177, kd178, kd179, kd180, kd181, kd182, kd183, kd184, kd185, kd186, kd187, kd188, kd189, kd190, kd191, kd192, kd193, kd194, rf176_1, rf176_2, rf176_4, rf176_5, rf176_6, rf176_8, rf176_9, rf176_10, rf176_11, rf176_12, rf176_13, rf176_14, rf176_16, rf176_17, rf176_18, rf176_19, rf176_20, rf176_23, hN, Int.le_refl, Int.lt_irrefl]
    exact h
  | succ m ih =>
    intro i hi
    have e1 : ¬ (N : Int) ≤ i := by omega
    have e2 : (i : Int) < N := by omega
    have e3 : (i : Int) < 21 := by omega
    have e4 : (0 : Int) ≤ i := by omega
    have eI : (i : Int) + 1 = ((i + 1 : Nat) : Int) := by omega
    have e5 : mx (μ 183) (i + 1) = if mx (μ 183) i < μ 183 i then μ 183 i else mx (μ 183) i := rfl
    have ih2 := ih (i + 1) (by omega)
    by_cases q : mx (μ 183) i < μ 183 i
    · rw [if_pos q] at e5
      rw [e5] at ih2
      have q2 : ¬ μ 183 i ≤ mx (μ 183) i := by omega
      simp (disch := first | omega | exact rfl) only [x120_0, x120_1, x120_2, x120_3, x120_4, x120_5, x120_6, x120_9, x120_11, x120_12, x120_15, x120_16, x120_19, x120_20, x120_21, x120_22, x120_25, x120_26, x120_29, x120_30, x120_31, x120_34, x120_35, x120_36, x120_42, x120_43, isF, isK, isH, mK, nl_i, nl_n, nl_o, nl_r, c1_i, c1_r, mPush, mRv, G0_1, true_and, and_true, and_self, implies_true, List.length_nil, List.length_cons, Nat.reduceAdd, Nat.reduceLeDiff, Nat.zero_le, beq_self_eq_true, Nat.reduceBEq, decide_true, Bool.and_self, reduceCtorEq, ne_eq, not_true_eq_false, not_false_eq_true, false_implies, true_implies, Nat.reduceLT, Nat.reduceEqDiff, or_true, true_or, or_false, false_or, or_self, Int.reduceEq, Int.reduceNe, Int.reduceLT, Int.reduceLE, Int.reduceAdd, Int.reduceSub, Int.reduceMul, Int.reduceNeg, Int.reduceToNat, if_true, if_false, Classical.not_not, Int.cast_ofNat_Int, kd176, kd177, kd178, kd179, kd180, kd181, kd182, kd183, kd184, kd185, kd186, kd187, kd188, kd189, kd190, kd191, kd192, kd193, kd194, rf176_1, rf176_2, rf176_4, rf176_5, rf176_6, rf176_8, rf176_9, rf176_10, rf176_11, rf176_12, rf176_13, rf176_14, rf176_16, rf176_17, rf176_18, rf176_19, rf176_20, rf176_23, mWr_of, hN, e1, e2, e3, e4, Int.toNat_natCast, q, q2]
      rw [x120_39, eI]
      exact ih2
    · rw [if_neg q] at e5
      rw [e5] at ih2
      have q2 : μ 183 i ≤ mx (μ 183) i := by omega
      simp (disch := first | omega | exact rfl) only [x120_0, x120_1, x120_2, x120_3, x120_4, x120_5, x120_6, x120_9, x120_11, x120_12, x120_15, x120_16, x120_19, x120_20, x120_21, x120_22, x120_25, x120_26, x120_29, x120_30, x120_31, x120_34, x120_35, x120_36, x120_42, x120_43, isF, isK, isH, mK, nl_i, nl_n, nl_o, nl_r, c1_i, c1_r, mPush, mRv, G0_1, true_and, and_true, and_self, implies_true, List.length_nil, List.length_cons, Nat.reduceAdd, Nat.reduceLeDiff, Nat.zero_le, beq_self_eq_true, Nat.reduceBEq, decide_true, Bool.and_self, reduceCtorEq, ne_eq, not_true_eq_false, not_false_eq_true, false_implies, true_implies, Nat.reduceLT, Nat.reduceEqDiff, or_true, true_or, or_false, false_or, or_self, Int.reduceEq, Int.reduceNe, Int.reduceLT, Int.reduceLE, Int.reduceAdd, Int.reduceSub, Int.reduceMul, Int.reduceNeg, Int.reduceToNat, if_true, if_false, Classical.not_not, Int.cast_ofNat_Int, kd176, kd177, kd178, kd179, kd180, kd181, kd182, kd183, kd184, kd185, kd186, kd187, kd188, kd189, kd190, kd191, kd192, kd193, kd194, rf176_1, rf176_2, rf176_4, rf176_5, rf176_6, rf176_8, rf176_9, rf176_10, rf176_11, rf176_12, rf176_13, rf176_14, rf176_16, rf176_17, rf176_18, rf176_19, rf176_20, rf176_23, mWr_of, hN, e1, e2, e3, e4, Int.toNat_natCast, q, q2]
      rw [x120_39, eI]
      exact ih2
theorem ct120 {N : Nat} (hN : μ 177 6 = N) (hL : N ≤ 20) (h : Q (some (.inl (mx (μ 183) N))) G0 μ) : Wp E 120 0 [some (.inr (.inr (.inl 176))), none, none] [] G0 μ Q := by
  simp (disch := first | omega | exact rfl) only [x120_0, x120_1, x120_2, x120_3, isF, isK, isH, mK, nl_i, nl_n, nl_o, nl_r, c1_i, c1_r, mPush, mRv, G0_1, true_and, and_true, and_self, implies_true, List.length_nil, List.length_cons, Nat.reduceAdd, Nat.reduceLeDiff, Nat.zero_le, beq_self_eq_true, Nat.reduceBEq, decide_true, Bool.and_self, reduceCtorEq, ne_eq, not_true_eq_false, not_false_eq_true, false_implies, true_implies, Nat.reduceLT, Nat.reduceEqDiff, or_true, true_or, or_false, false_or, or_self, Int.reduceEq, Int.reduceNe, Int.reduceLT, Int.reduceLE, Int.reduceAdd, Int.reduceSub, Int.reduceMul, Int.reduceNeg, Int.reduceToNat, if_true, if_false, Classical.not_not, Int.cast_ofNat_Int]
  exact zq120 hN hL h N 0 (by omega)
end SUM2
