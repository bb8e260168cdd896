section RUNS2
variable {E : ME} {Q : Option MV → MG → MU → Prop} {S : Row}
def BF (μ0 μ : MU) (S : Row) (f : Nat) : Prop := (∀ x, ¬ (188 ≤ x ∧ x ≤ 191) → μ x = μ0 x) ∧ ∀ g, g < f → RM μ g (fBeg S g)
theorem zq89b {μ0 : MU} {z : Int} (hS : RS μ0 S) {F : Nat} (hF : S 5 = F) (hF5 : F ≤ 5) (hQ : ∀ (μ : MU) (o3 : Option MV), mNl (some o3) = true → BF μ0 μ S F → Wp E 89 85 [some (.inr (.inr (.inl 176))), some (.inl z), some (.inl F), o3] [] G0 μ Q) : ∀ (m f : Nat), f + m = F → ∀ (μ : MU) (o3 : Option MV), mNl (some o3) = true → BF μ0 μ S f →
    Wp E 89 7 [some (.inr (.inr (.inl 176))), some (.inl z), some (.inl f), o3] [] G0 μ Q := by
  intro m
  induction m with
  | zero =>
    intro f hf μ o3 n3 h
    have ef : f = F := by omega
    subst ef
    have e5 : μ 177 5 = f := by rw [h.1 177 (by omega), hS.1 5 (by omega)]; exact hF
    simp (disch := first | omega | exact rfl) only [x89_7, x89_8, x89_9, x89_12, x89_13, x89_14, isF, isK, isH, mK, nl_i, nl_n, nl_o, nl_r, c1_i, c1_r, mPush, mRv, G0_1, true_and, and_true, and_self, implies_true, List.length_nil, List.length_cons, Nat.reduceAdd, Nat.reduceLeDiff, Nat.zero_le, beq_self_eq_true, Nat.reduceBEq, decide_true, Bool.and_self, reduceCtorEq, ne_eq, not_true_eq_false, not_false_eq_true, false_implies, true_implies, Nat.reduceLT, Nat.reduceEqDiff, or_true, true_or, or_false, false_or, or_self, Int.reduceEq, Int.reduceNe, Int.reduceLT, Int.reduceLE, Int.reduceAdd, Int.reduceSub, Int.reduceMul, Int.reduceNeg, Int.reduceToNat, if_true, if_false, Classical.not_not, Int.cast_ofNat_Int, kd176, kd177, kd178, kd179, kd180, kd181, kd182, kd183, kd184, kd185, kd186, kd187, kd188, kd189, kd190, kd191, kd192, kd193, kd194, rf176_1, rf176_2, rf176_4, rf176_5, rf176_6, rf176_8, rf176_9, rf176_10, rf176_11, rf176_12, rf176_13, rf176_14, rf176_16, rf176_17, rf176_18, rf176_19, rf176_20, rf176_23, e5, Int.lt_irrefl, Int.le_refl]
    exact hQ μ o3 n3 h
  | succ m ih =>
    intro f hf μ o3 n3 h
    have e5 : μ 177 5 = F := by rw [h.1 177 (by omega), hS.1 5 (by omega)]; exact hF
    have ef : ¬ (F : Int) ≤ f := by omega
    have ef2 : (f : Int) < F := by omega
    have ef3 : (f : Int) < 5 := by omega
    have ef4 : (0 : Int) ≤ f := by omega
    have eI : (f : Int) + 1 = ((f + 1 : Nat) : Int) := by omega
    simp (disch := first | omega | exact rfl) only [x89_7, x89_8, x89_9, x89_12, x89_13, x89_14, x89_17, x89_18, x89_21, x89_22, x89_23, x89_24, x89_25, isF, isK, isH, mK, nl_i, nl_n, nl_o, nl_r, c1_i, c1_r, mPush, mRv, G0_1, true_and, and_true, and_self, implies_true, List.length_nil, List.length_cons, Nat.reduceAdd, Nat.reduceLeDiff, Nat.zero_le, beq_self_eq_true, Nat.reduceBEq, decide_true, Bool.and_self, reduceCtorEq, ne_eq, not_true_eq_false, not_false_eq_true, false_implies, true_implies, Nat.reduceLT, Nat.reduceEqDiff, or_true, true_or, or_false, false_or, or_self, Int.reduceEq, Int.reduceNe, Int.reduceLT, Int.reduceLE, Int.reduceAdd, Int.reduceSub, Int.reduceMul, Int.reduceNeg, Int.reduceToNat, if_true, if_false, Classical.not_not, Int.cast_ofNat_Int, kd176, kd177, kd178, kd179, kd180, kd181, kd182, kd183, kd184, kd185, kd186, kd187, kd188, kd189, kd190, kd191, kd192, kd193, kd194, rf176_1, rf176_2, rf176_4, rf176_5, rf176_6, rf176_8, rf176_9, rf176_10, rf176_11, rf176_12, rf176_13, rf176_14, rf176_16, rf176_17, rf176_18, rf176_19, rf176_20, rf176_23, e5, ef, ef2, ef3, ef4, Int.toNat_natCast, n3]
    have hS1 : RS (mUp μ 188 f 0) S := RS_fr hS (by rw [mUp_ne (by omega)]; exact h.1 177 (by omega)) (by rw [mUp_ne (by omega), h.1 176 (by omega)])
    refine zq89a (μ0 := mUp μ 188 f 0) hS1 (by omega) (fun μ1 k => ?_) 6 0 rfl _ ⟨fun _ _ => rfl, fun _ _ => ⟨rfl, rfl, rfl⟩, fun i hi => by omega⟩
    simp (disch := first | omega | exact rfl) only [x89_79, isF, isK, isH, mK, nl_i, nl_n, nl_o, nl_r, c1_i, c1_r, mPush, mRv, G0_1, true_and, and_true, and_self, implies_true, List.length_nil, List.length_cons, Nat.reduceAdd, Nat.reduceLeDiff, Nat.zero_le, beq_self_eq_true, Nat.reduceBEq, decide_true, Bool.and_self, reduceCtorEq, ne_eq, not_true_eq_false, not_false_eq_true, false_implies, true_implies, Nat.reduceLT, Nat.reduceEqDiff, or_true, true_or, or_false, false_or, or_self, Int.reduceEq, Int.reduceNe, Int.reduceLT, Int.reduceLE, Int.reduceAdd, Int.reduceSub, Int.reduceMul, Int.reduceNeg, Int.reduceToNat, if_true, if_false, Classical.not_not, Int.cast_ofNat_Int, mWr_of]
    rw [x89_82, eI]
    refine ih (f + 1) (by omega) μ1 _ rfl ⟨?_, ?_⟩
    · intro x hx
      rw [k.1 x (by omega), mUp_ne (by omega)]; exact h.1 x hx
    · intro g hg
      by_cases q : g = f
      · subst q
        refine ⟨fun r hr => k.2.2 r hr, ?_⟩
        rw [k.1 188 (by omega), mUp_eq]; rfl
      · obtain ⟨z1, z2⟩ := h.2 g (by omega)
        refine ⟨fun r hr => ?_, ?_⟩
        · have z3 := k.2.1 (6 * g + r) (by omega)
          rw [z3.1, z3.2.1, z3.2.2, mUp_ne (by omega), mUp_ne (by omega), mUp_ne (by omega)]
          exact z1 r hr
        · rw [k.1 188 (by omega), mUp_nj q]; exact z2
def CF (μ0 μ : MU) (S : Row) (N j : Nat) : Prop := (∀ x, ¬ x = 182 → μ x = μ0 x) ∧ ∀ s, s < j → μ 182 (cnt (sT S) s N) = s
theorem zq89c {μ0 : MU} {z : Int} {o3 : Option MV} (hS : RS μ0 S) (hw : wfR S) {N : Nat} (hN : S 6 = N) (hQ : ∀ μ : MU, CF μ0 μ S N N → Wp E 89 115 [some (.inr (.inr (.inl 176))), some (.inl z), some (.inl N), o3] [] G0 μ Q) : ∀ (m j : Nat), j + m = N → ∀ μ : MU, CF μ0 μ S N j →
    Wp E 89 87 [some (.inr (.inr (.inl 176))), some (.inl z), some (.inl j), o3] [] G0 μ Q := by
  intro m
  have hN2 := hw.1.2.2.2.2.2.2
  have hO := isO_ord (T := sT S) N
  induction m with
  | zero =>
    intro j hj μ h
    have ej : j = N := by omega
    subst ej
    have e6 : μ 177 6 = j := by rw [h.1 177 (by omega), hS.1 6 (by omega)]; exact hN
    simp (disch := first | omega | exact rfl) only [x89_87, x89_88, x89_89, x89_92, x89_94, x89_95, isF, isK, isH, mK, nl_i, nl_n, nl_o, nl_r, c1_i, c1_r, mPush, mRv, G0_1, true_and, and_true, and_self, implies_true, List.length_nil, List.length_cons, Nat.reduceAdd, Nat.reduceLeDiff, Nat.zero_le, beq_self_eq_true, Nat.reduceBEq, decide_true, Bool.and_self, reduceCtorEq, ne_eq, not_true_eq_false, not_false_eq_true, false_implies, true_implies, Nat.reduceLT, Nat.reduceEqDiff, or_true, true_or, or_false, false_or, or_self, Int.reduceEq, Int.reduceNe, Int.reduceLT, Int.reduceLE, Int.reduceAdd, Int.reduceSub, Int.reduceMul, Int.reduceNeg, Int.reduceToNat, if_true, if_false, Classical.not_not, Int.cast_ofNat_Int, kd176, kd177, kd178, kd179, kd180, kd181, kd182, kd183, kd184, kd185, kd186, kd187, kd188, kd189, kd190, kd191, kd192, kd193, kd194, rf176_1, rf176_2, rf176_4, rf176_5, rf176_6, rf176_8, rf176_9, rf176_10, rf176_11, rf176_12, rf176_13, rf176_14, rf176_16, rf176_17, rf176_18, rf176_19, rf176_20, rf176_23, e6, Int.lt_irrefl, Int.le_refl]
    exact hQ μ h
  | succ m ih =>
    intro j hj μ h
    have e6 : μ 177 6 = N := by rw [h.1 177 (by omega), hS.1 6 (by omega)]; exact hN
    have ej : ¬ (N : Int) ≤ j := by omega
    have ej2 : (j : Int) < N := by omega
    have eI : (j : Int) + 1 = ((j + 1 : Nat) : Int) := by omega
    have hS1 : RS μ S := RS_fr hS (h.1 177 (by omega)) (by rw [h.1 176 (by omega)])
    simp (disch := first | omega | exact rfl) only [x89_87, x89_88, x89_89, x89_92, x89_94, x89_95, x89_98, x89_99, x89_102, x89_103, x89_104, isF, isK, isH, mK, nl_i, nl_n, nl_o, nl_r, c1_i, c1_r, mPush, mRv, G0_1, true_and, and_true, and_self, implies_true, List.length_nil, List.length_cons, Nat.reduceAdd, Nat.reduceLeDiff, Nat.zero_le, beq_self_eq_true, Nat.reduceBEq, decide_true, Bool.and_self, reduceCtorEq, ne_eq, not_true_eq_false, not_false_eq_true, false_implies, true_implies, Nat.reduceLT, Nat.reduceEqDiff, or_true, true_or, or_false, false_or, or_self, Int.reduceEq, Int.reduceNe, Int.reduceLT, Int.reduceLE, Int.reduceAdd, Int.reduceSub, Int.reduceMul, Int.reduceNeg, Int.reduceToNat, if_true, if_false, Classical.not_not, Int.cast_ofNat_Int, kd176, kd177, kd178, kd179, kd180, kd181, kd182, kd183, kd184, kd185, kd186, kd187, kd188, kd189, kd190, kd191, kd192, kd193, kd194, rf176_1, rf176_2, rf176_4, rf176_5, rf176_6, rf176_8, rf176_9, rf176_10, rf176_11, rf176_12, rf176_13, rf176_14, rf176_16, rf176_17, rf176_18, rf176_19, rf176_20, rf176_23, e6, ej, ej2]
    refine ct86 hS1 hw hN (by omega) ?_
    have hc := hO.2 j (by omega)
    have ec : (0 : Int) ≤ (cnt (sT S) j N : Nat) := by omega
    have ec2 : ((cnt (sT S) j N : Nat) : Int) < 21 := by omega
    simp (disch := first | omega | exact rfl) only [x89_107, x89_108, x89_109, isF, isK, isH, mK, nl_i, nl_n, nl_o, nl_r, c1_i, c1_r, mPush, mRv, G0_1, true_and, and_true, and_self, implies_true, List.length_nil, List.length_cons, Nat.reduceAdd, Nat.reduceLeDiff, Nat.zero_le, beq_self_eq_true, Nat.reduceBEq, decide_true, Bool.and_self, reduceCtorEq, ne_eq, not_true_eq_false, not_false_eq_true, false_implies, true_implies, Nat.reduceLT, Nat.reduceEqDiff, or_true, true_or, or_false, false_or, or_self, Int.reduceEq, Int.reduceNe, Int.reduceLT, Int.reduceLE, Int.reduceAdd, Int.reduceSub, Int.reduceMul, Int.reduceNeg, Int.reduceToNat, if_true, if_false, Classical.not_not, Int.cast_ofNat_Int, kd176, kd177, kd178, kd179, kd180, kd181, kd182, kd183, kd184, kd185, kd186, kd187, kd188, kd189, kd190, kd191, kd192, kd193, kd194, rf176_1, rf176_2, rf176_4, rf176_5, rf176_6, rf176_8, rf176_9, rf176_10, rf176_11, rf176_12, rf176_13, rf176_14, rf176_16, rf176_17, rf176_18, rf176_19, rf176_20, rf176_23, mWr_of, ec, ec2, Int.toNat_natCast]
    rw [x89_112, eI]
    refine ih (j + 1) (by omega) _ ⟨?_, ?_⟩
    · intro x hx
      rw [mUp_ne hx]; exact h.1 x hx
    · intro s hs
      rw [mUp_at]
      by_cases q : s = j
      · subst q; rw [if_pos rfl]
      · have hd := hO.2 s (by omega)
        rw [if_neg (fun e => q (by rw [← hd.2, e]; exact hc.2))]
        exact h.2 s (by omega)
def oP (S : Row) (o : Nat → Nat) (j : Nat) : MU := fSt S o (S (68 + 4 * o j)).toNat (j + 1)
/-- what is written down of the show at the place j -/
def RZ (μ : MU) (S : Row) (o : Nat → Nat) (j : Nat) : Prop := μ 183 (o j) = oP S o j 5 0 ∧ μ 184 (o j) = oP S o j 5 1 ∧ μ 185 (o j) = oP S o j 5 2 ∧ ∀ i : Nat, (i : Int) < S (23 + 9 * (S (68 + 4 * o j)).toNat) → μ 186 (6 * o j + i) = oP S o j 3 i ∧ (¬ oP S o j 3 i = -6 → μ 187 (6 * o j + i) = oP S o j 4 i)
def DZ (μ0 μ : MU) (S : Row) (o : Nat → Nat) (k : Nat) : Prop := (∀ x, ¬ (183 ≤ x ∧ x ≤ 191) → μ x = μ0 x) ∧ (∀ f : Nat, (f : Int) < S 5 → RM μ f (fSt S o f k)) ∧ ∀ j, j < k → RZ μ S o j
theorem zq89d {μ0 : MU} {z : Int} {o3 : Option MV} (hS : RS μ0 S) (hw : wfR S) {N : Nat} (hN : S 6 = N) {o : Nat → Nat} (hO : isO (sT S) o N) (ho : ∀ k, k < N → μ0 182 k = o k) (hQ : ∀ μ : MU, DZ μ0 μ S o N → Q none G0 μ) : ∀ (m k : Nat), k + m = N → ∀ μ : MU, DZ μ0 μ S o k →
    Wp E 89 117 [some (.inr (.inr (.inl 176))), some (.inl z), some (.inl k), o3] [] G0 μ Q := by
  intro m
  have hN2 := hw.1.2.2.2.2.2.2
  have hF2 := hw.1.2.2.2.2.2.1
  induction m with
  | zero =>
    intro k hk μ h
    have ek : k = N := by omega
    subst ek
    have e6 : μ 177 6 = k := by rw [h.1 177 (by omega), hS.1 6 (by omega)]; exact hN
    simp (disch := first | omega | exact rfl) only [x89_117, x89_118, x89_119, x89_122, x89_124, x89_125, x89_144, isF, isK, isH, mK, nl_i, nl_n, nl_o, nl_r, c1_i, c1_r, mPush, mRv, G0_1, true_and, and_true, and_self, implies_true, List.length_nil, List.length_cons, Nat.reduceAdd, Nat.reduceLeDiff, Nat.zero_le, beq_self_eq_true, Nat.reduceBEq, decide_true, Bool.and_self, reduceCtorEq, ne_eq, not_true_eq_false, not_false_eq_true, false_implies, true_implies, Nat.reduceLT, Nat.reduceEqDiff, or_true, true_or, or_false, false_or, or_self, Int.reduceEq, Int.reduceNe, Int.reduceLT, Int.reduceLE, Int.reduceAdd, Int.reduceSub, Int.reduceMul, Int.reduceNeg, Int.reduceToNat, if_true, if_false, Classical.not_not, Int.cast_ofNat_Int, kd176, kd177, kd178, kd179, kd180, kd181, kd182, kd183, kd184, kd185, kd186, kd187, kd188, kd189, kd190, kd191, kd192, kd193, kd194, rf176_1, rf176_2, rf176_4, rf176_5, rf176_6, rf176_8, rf176_9, rf176_10, rf176_11, rf176_12, rf176_13, rf176_14, rf176_16, rf176_17, rf176_18, rf176_19, rf176_20, rf176_23, e6, Int.lt_irrefl, Int.le_refl]
    exact hQ μ h
  | succ m ih =>
    intro k hk μ h
    have e6 : μ 177 6 = N := by rw [h.1 177 (by omega), hS.1 6 (by omega)]; exact hN
    have ek : ¬ (N : Int) ≤ k := by omega
    have ek2 : (k : Int) < N := by omega
    have ek3 : (0 : Int) ≤ k := by omega
    have ek4 : (k : Int) < 21 := by omega
    have eo : μ 182 k = o k := by rw [h.1 182 (by omega)]; exact ho k (by omega)
    have eI : (k : Int) + 1 = ((k + 1 : Nat) : Int) := by omega
    have hS1 : RS μ S := RS_fr hS (h.1 177 (by omega)) (by rw [h.1 176 (by omega)])
    have hok := (hO.1 k (by omega)).1
    simp (disch := first | omega | exact rfl) only [x89_117, x89_118, x89_119, x89_122, x89_124, x89_125, x89_128, x89_129, x89_130, x89_133, x89_134, x89_135, isF, isK, isH, mK, nl_i, nl_n, nl_o, nl_r, c1_i, c1_r, mPush, mRv, G0_1, true_and, and_true, and_self, implies_true, List.length_nil, List.length_cons, Nat.reduceAdd, Nat.reduceLeDiff, Nat.zero_le, beq_self_eq_true, Nat.reduceBEq, decide_true, Bool.and_self, reduceCtorEq, ne_eq, not_true_eq_false, not_false_eq_true, false_implies, true_implies, Nat.reduceLT, Nat.reduceEqDiff, or_true, true_or, or_false, false_or, or_self, Int.reduceEq, Int.reduceNe, Int.reduceLT, Int.reduceLE, Int.reduceAdd, Int.reduceSub, Int.reduceMul, Int.reduceNeg, Int.reduceToNat, if_true, if_false, Classical.not_not, Int.cast_ofNat_Int, kd176, kd177, kd178, kd179, kd180, kd181, kd182, kd183, kd184, kd185, kd186, kd187, kd188, kd189, kd190, kd191, kd192, kd193, kd194, rf176_1, rf176_2, rf176_4, rf176_5, rf176_6, rf176_8, rf176_9, rf176_10, rf176_11, rf176_12, rf176_13, rf176_14, rf176_16, rf176_17, rf176_18, rf176_19, rf176_20, rf176_23, e6, ek, ek2, ek3, ek4, eo, Int.toNat_natCast]
    have hs := hw.2.2.2 (o k) (by omega) (by omega)
    obtain ⟨f, hf⟩ := Int.eq_ofNat_of_zero_le hs.1.1
    have hq := fSt_q hw (o := o) (N := N) (by omega) (fun k hk => (hO.1 k hk).1) (f := f) (by omega) (by omega) k (by omega)
    refine ct88 hw (by omega) (by omega) (by omega) (by omega) hf hq.1 (by omega) hS1 (h.2.1 f (by omega)) ?_
    intro μ1 k1 k2 k3 k4 k5 k6
    simp (disch := first | omega | exact rfl) only [x89_138, isF, isK, isH, mK, nl_i, nl_n, nl_o, nl_r, c1_i, c1_r, mPush, mRv, G0_1, true_and, and_true, and_self, implies_true, List.length_nil, List.length_cons, Nat.reduceAdd, Nat.reduceLeDiff, Nat.zero_le, beq_self_eq_true, Nat.reduceBEq, decide_true, Bool.and_self, reduceCtorEq, ne_eq, not_true_eq_false, not_false_eq_true, false_implies, true_implies, Nat.reduceLT, Nat.reduceEqDiff, or_true, true_or, or_false, false_or, or_self, Int.reduceEq, Int.reduceNe, Int.reduceLT, Int.reduceLE, Int.reduceAdd, Int.reduceSub, Int.reduceMul, Int.reduceNeg, Int.reduceToNat, if_true, if_false, Classical.not_not, Int.cast_ofNat_Int, mWr_of]
    rw [x89_141, eI]
    have e1 : fSt S o f (k + 1) = sGo S f (o k) (fSt S o f k) := if_pos hf
    refine ih (k + 1) (by omega) μ1 ⟨?_, ?_, ?_⟩
    · intro x hx
      rw [k1.1 x (by omega)]; exact h.1 x hx
    · intro g hg
      by_cases q : g = f
      · subst q; rw [e1]; exact k2
      · have e2 : fSt S o g (k + 1) = fSt S o g k := if_neg (by rw [hf]; omega)
        rw [e2]
        obtain ⟨z1, z2⟩ := h.2.1 g hg
        refine ⟨fun r hr => ?_, ?_⟩
        · have z3 := k1.2.2.2.2 (6 * g + r) (by omega)
          rw [z3.1, z3.2.1, z3.2.2]; exact z1 r hr
        · rw [k1.2.2.2.1 g q]; exact z2
    · intro j hj
      by_cases q : j = k
      · subst q
        have e2 : oP S o j = sGo S f (o j) (fSt S o f j) := by
          unfold oP; rw [hf, Int.toNat_natCast]; exact e1
        unfold RZ
        rw [e2, hf, Int.toNat_natCast]
        exact ⟨k3, k4, k5, k6⟩
      · obtain ⟨z1, z2, z3, z4⟩ := h.2.2 j (by omega)
        have hj1 := hO.1 j (by omega)
        have hk1 := hO.1 k (by omega)
        have hne : ¬ o j = o k := fun e => q (by rw [← hj1.2, e]; exact hk1.2)
        have hsj := hw.2.2.2 (o j) (by omega) (by omega)
        have hfj := hw.2.2.1 (S (68 + 4 * o j)).toNat (by omega) (by omega)
        have y := k1.2.1 (o j) hne
        refine ⟨by rw [y.1]; exact z1, by rw [y.2.1]; exact z2, by rw [y.2.2]; exact z3, fun i hi => ?_⟩
        have y2 := k1.2.2.1 (6 * o j + i) (by omega)
        rw [y2.1, y2.2]; exact z4 i hi
end RUNS2
