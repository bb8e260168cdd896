theorem rf23 : ∀ f : Fin 5, mRf G0 23 (f : Nat) = some (24 + 5 * (f : Nat)) ∧ (24 + 5 * (f : Nat)) ∈ gRs := by decide +kernel
theorem rf23_m {f : Nat} (hf : f < 5) : mRf G0 23 f = some (24 + 5 * f) := (rf23 ⟨f, hf⟩).1
theorem gR_m {f : Nat} (hf : f < 5) : (24 + 5 * f) ∈ gRs := (rf23 ⟨f, hf⟩).2
section GOC
variable {E : ME} {Q : Option MV → MG → MU → Prop} {S : Row} {c : Nat}
/-- what playShow of show k of film f leaves as it was -/
def PF (μ μ' : MU) (k f : Nat) : Prop := (∀ x, ¬ (24 + 5 * f ≤ x ∧ x ≤ 28 + 5 * f) → ¬ (15 ≤ x ∧ x ≤ 18) → ¬ x = 22 → μ' x = μ x) ∧ (∀ i, ¬ i = k → μ' 15 i = μ 15 i ∧ μ' 16 i = μ 16 i ∧ μ' 17 i = μ 17 i) ∧ (∀ i, ¬ (6 * k ≤ i ∧ i < 6 * k + 6) → μ' 18 i = μ 18 i) ∧ (∀ i, ¬ i = f → μ' 22 i = μ 22 i)
theorem ct30 (hc : c ∈ gCs) {μ : MU} (hs : cRel μ c S) (hw : wfR S) {k f : Nat} {P : MU} (hk : k < 20) (hk2 : (k : Int) < S 6) (hf : f < 5) (hf2 : (f : Int) < S 5) (hF : S (68 + 4 * k) = f) (hP : qP P) (h54 : 0 ≤ P 5 4 ∧ P 5 4 ≤ 190) (hRC : RC μ (24 + 5 * f) S f P) (h22 : μ 22 f = P 5 4)
    (hQ : ∀ μ' : MU, PF μ μ' k f → RC μ' (24 + 5 * f) S f (sGo S f k P) → μ' 22 f = sGo S f k P 5 4 → μ' 15 k = sGo S f k P 5 0 → μ' 16 k = sGo S f k P 5 1 → μ' 17 k = sGo S f k P 5 2 → (∀ i : Nat, (i : Int) < S (23 + 9 * f) → μ' 18 (6 * k + i) = sGo S f k P 3 i) → Q none G0 μ') :
    Wp E 30 0 [some (.inr (.inr (.inl 12))), some (.inr (.inr (.inl c))), some (.inl k), none, none] [] G0 μ Q := by
  obtain ⟨qc0, qc1, qc2, qc3, qc4, qc5, qc6, qc7, qc8, qc9, qc10, qc11, qc12, qc13, qc14, qc15, qc16, qc17, qc18, qc19, qc20⟩ := gC_ok c hc
  have hcl := gC_no c hc
  have hsk := hw.2.2.2 k (by omega) hk2
  obtain ⟨e1, e2, e3, _⟩ := hs.2.2.2.2.2.2 k hk hk2
  rw [hF] at e1
  have hrn := (hw.2.2.1 f hf hf2).1
  have ek : (0 : Int) ≤ k := by omega
  have ek2 : (k : Int) < 20 := by omega
  have ef : (0 : Int) ≤ f := by omega
  have ef2 : (f : Int) < 5 := by omega
  have hr := rf23_m hf
  have hb := gR_m hf
  obtain ⟨q1, q2, q3, q4, q5, q6, q7, q8, q9⟩ := gR_ok _ hb
  simp (disch := first | omega | exact rfl) only [x30_0, x30_1, x30_4, x30_5, x30_6, x30_7, x30_8, x30_11, x30_12, x30_13, x30_15, x30_17, x30_18, x30_19, x30_22, x30_23, x30_24, x30_25, x30_28, x30_29, x30_30, isF, isK, isH, mK, nl_i, nl_n, nl_o, nl_r, c1_i, c1_r, mPush, mRv, G0_1, true_and, and_true, and_self, implies_true, List.length_nil, List.length_cons, Nat.reduceAdd, Nat.reduceLeDiff, Nat.zero_le, beq_self_eq_true, Nat.reduceBEq, decide_true, Bool.and_self, reduceCtorEq, ne_eq, not_true_eq_false, not_false_eq_true, false_implies, true_implies, Nat.reduceLT, Nat.reduceEqDiff, or_true, true_or, or_false, false_or, or_self, Int.reduceEq, Int.reduceNe, Int.reduceLT, Int.reduceLE, Int.reduceAdd, Int.reduceSub, Int.reduceMul, Int.reduceNeg, Int.reduceToNat, if_true, if_false, Classical.not_not, Int.cast_ofNat_Int, kd12, kd13, kd14, kd15, kd16, kd17, kd18, kd19, kd20, kd21, kd22, kd23, rf12_0, rf12_1, rf12_2, rf12_3, rf12_4, rf12_5, rf12_6, rf12_7, rf12_8, rf12_9, rf12_10, rf23_0, rf23_1, rf23_2, rf23_3, rf23_4, qc0, qc1, qc2, qc3, qc4, qc5, qc6, qc7, qc8, qc9, qc10, qc11, qc12, qc13, qc14, qc15, qc16, qc17, qc18, qc19, qc20, e1, e2, e3, ek, ek2, ef, ef2, hr, q1, Int.toNat_natCast]
  refine ct37 hc hb hw hf hf2 hsk.2.1 hsk.2.2.1 hP hs hRC ?_
  intro μ1 k1 k2 k3 k4
  have hR : rRun S f (S (69 + 4 * k)) (S (70 + 4 * k)) (S (23 + 9 * f)).toNat (sBeg (S (70 + 4 * k)) P) = sGo S f k P := rfl
  have hqr := (rRun_q hw (f := f) hsk.2.1 hsk.2.2.1 hP (S (23 + 9 * f)).toNat (by omega)).2.2.2.2
  have h54b : sGo S f k P 5 4 = P 5 4 + sGo S f k P 5 3 := rRun_54 _
  rw [hR] at k2 k3 k4 hqr
  obtain ⟨r5, r6, r7, r8⟩ := k3
  have g22 : ∀ v1 v2 v3 : Int, (mUp (mUp (mUp μ1 15 k v1) 16 k v2) 17 k v3) 22 f = P 5 4 := fun v1 v2 v3 => by
    rw [mUp_ne (by omega), mUp_ne (by omega), mUp_ne (by omega), k1 22 (by omega)]; exact h22
  have ej : (k : Int) * 6 = ((6 * k : Nat) : Int) := by omega
  have ej2 : (0 : Int) ≤ ((6 * k : Nat) : Int) := by omega
  have ej3 : ((6 * k : Nat) : Int) + 6 ≤ 120 := by omega
  simp (disch := first | omega | exact rfl) only [x30_33, x30_34, x30_37, x30_38, x30_40, x30_43, x30_44, x30_45, x30_48, x30_49, x30_51, x30_54, x30_55, x30_56, x30_59, x30_60, x30_62, x30_65, x30_66, x30_67, x30_70, x30_71, x30_72, x30_73, x30_75, x30_78, x30_79, x30_80, x30_82, x30_85, x30_86, x30_87, x30_90, x30_91, x30_93, x30_94, x30_96, x30_99, isF, isK, isH, mK, nl_i, nl_n, nl_o, nl_r, c1_i, c1_r, mPush, mRv, G0_1, true_and, and_true, and_self, implies_true, List.length_nil, List.length_cons, Nat.reduceAdd, Nat.reduceLeDiff, Nat.zero_le, beq_self_eq_true, Nat.reduceBEq, decide_true, Bool.and_self, reduceCtorEq, ne_eq, not_true_eq_false, not_false_eq_true, false_implies, true_implies, Nat.reduceLT, Nat.reduceEqDiff, or_true, true_or, or_false, false_or, or_self, Int.reduceEq, Int.reduceNe, Int.reduceLT, Int.reduceLE, Int.reduceAdd, Int.reduceSub, Int.reduceMul, Int.reduceNeg, Int.reduceToNat, if_true, if_false, Classical.not_not, Int.cast_ofNat_Int, kd12, kd13, kd14, kd15, kd16, kd17, kd18, kd19, kd20, kd21, kd22, kd23, rf12_0, rf12_1, rf12_2, rf12_3, rf12_4, rf12_5, rf12_6, rf12_7, rf12_8, rf12_9, rf12_10, rf23_0, rf23_1, rf23_2, rf23_3, rf23_4, ek, ek2, ef, ef2, q1, q8, q9, Int.toNat_natCast, r5, r6, r7, r8, mUp_ne, g22, mWr_of, ej, ej2, ej3, mC1]
  refine hQ _ ⟨?_, ?_, ?_, ?_⟩ ?_ ?_ ?_ ?_ ?_ ?_
  · intro x hx hx2 hx3
    rw [mCpy_ne (by omega)]
    simp (disch := omega) only [mUp_ne]
    exact k1 x (by omega)
  · intro i hi
    rw [mCpy_ne (by omega), mCpy_ne (by omega), mCpy_ne (by omega)]
    simp (disch := omega) only [mUp_ne, mUp_nj]
    rw [k1 15 (by omega), k1 16 (by omega), k1 17 (by omega)]
    exact ⟨rfl, rfl, rfl⟩
  · intro i hi
    rw [mCpy_at, if_neg (by omega)]
    simp (disch := omega) only [mUp_ne]
    rw [k1 18 (by omega)]
  · intro i hi
    rw [mCpy_ne (by omega)]
    simp (disch := omega) only [mUp_ne, mUp_nj]
    rw [k1 22 (by omega)]
  · unfold RC
    rw [mCpy_ne (by omega), mCpy_ne (by omega), mCpy_ne (by omega), mCpy_ne (by omega)]
    simp (disch := omega) only [mUp_ne]
    exact k2
  · rw [mCpy_ne (by omega), mUp_eq]; exact h54b.symm
  · rw [mCpy_ne (by omega)]; simp (disch := omega) only [mUp_ne, mUp_eq]
  · rw [mCpy_ne (by omega)]; simp (disch := omega) only [mUp_ne, mUp_eq]
  · rw [mCpy_ne (by omega)]; simp (disch := omega) only [mUp_ne, mUp_eq]
  · intro i hi
    rw [mCpy_at, if_pos (by omega)]
    simp (disch := omega) only [mUp_ne]
    have e : 0 + (6 * k + i - 6 * k) = i := by omega
    rw [e]
    exact k4 i (by omega)
theorem ct31 (hc : c ∈ gCs) {μ : MU} (hs : cRel μ c S) (hw : wfR S) {k : Nat} (hk : k < 20) (hk2 : (k : Int) < S 6) (hv : okM S k (μ 17 k))
    (hQ : Q none G0 (mUp (mUp (mUp μ 19 k (tkn S k)) 20 k (kpt S k (μ 17 k))) 21 k (rnt S k (μ 17 k)))) :
    Wp E 31 0 [some (.inr (.inr (.inl 12))), some (.inr (.inr (.inl c))), some (.inl k), none, none] [] G0 μ Q := by
  obtain ⟨qc0, qc1, qc2, qc3, qc4, qc5, qc6, qc7, qc8, qc9, qc10, qc11, qc12, qc13, qc14, qc15, qc16, qc17, qc18, qc19, qc20⟩ := gC_ok c hc
  have hcl := gC_no c hc
  obtain ⟨f1, f2, f3⟩ := fmF_lt hw (k := k) (by omega) hk2
  obtain ⟨e1, _, _, e4⟩ := hs.2.2.2.2.2.2 k hk hk2
  rw [f3] at e1
  obtain ⟨e5, _, e6⟩ := hs.2.2.2.2.1 _ f1 f2
  have e7 : μ (c + 1) 4 = S 4 := hs.1 4 (by omega)
  have h2 := (hw.2.2.1 _ f1 f2).1
  have e3 : ¬ S (23 + 9 * fmF S k) = 0 := by omega
  have em : (if (1 : Int) < S (23 + 9 * fmF S k) then S (23 + 9 * fmF S k) else 1) = S (23 + 9 * fmF S k) := by
    by_cases q : (1 : Int) < S (23 + 9 * fmF S k)
    · rw [if_pos q]
    · rw [if_neg q]; omega
  have ek : (0 : Int) ≤ k := by omega
  have ek2 : (k : Int) < 20 := by omega
  have ef : (0 : Int) ≤ fmF S k := by omega
  have ef2 : (fmF S k : Int) < 5 := by omega
  have hv2 := (on_pd (by omega) hv).1
  have hk3 : k < 21 := by omega
  simp (disch := first | omega | exact rfl) only [x31_0, x31_1, x31_4, x31_5, x31_6, x31_7, x31_8, x31_9, x31_12, x31_13, x31_14, x31_17, x31_19, x31_20, x31_23, x31_24, x31_25, x31_28, x31_29, x31_30, x31_31, x31_34, x31_35, x31_36, x31_37, x31_38, x31_39, x31_42, x31_43, x31_44, x31_47, x31_48, x31_49, x31_50, x31_53, x31_54, x31_55, x31_56, x31_59, x31_60, x31_61, x31_64, x31_65, x31_67, x31_68, x31_69, x31_70, x31_71, x31_74, x31_75, x31_76, x31_79, x31_80, x31_81, x31_82, x31_85, x31_86, x31_87, x31_88, x31_90, x31_91, x31_92, isF, isK, isH, mK, nl_i, nl_n, nl_o, nl_r, c1_i, c1_r, mPush, mRv, G0_1, true_and, and_true, and_self, implies_true, List.length_nil, List.length_cons, Nat.reduceAdd, Nat.reduceLeDiff, Nat.zero_le, beq_self_eq_true, Nat.reduceBEq, decide_true, Bool.and_self, reduceCtorEq, ne_eq, not_true_eq_false, not_false_eq_true, false_implies, true_implies, Nat.reduceLT, Nat.reduceEqDiff, or_true, true_or, or_false, false_or, or_self, Int.reduceEq, Int.reduceNe, Int.reduceLT, Int.reduceLE, Int.reduceAdd, Int.reduceSub, Int.reduceMul, Int.reduceNeg, Int.reduceToNat, if_true, if_false, Classical.not_not, Int.cast_ofNat_Int, kd12, kd13, kd14, kd15, kd16, kd17, kd18, kd19, kd20, kd21, kd22, kd23, rf12_0, rf12_1, rf12_2, rf12_3, rf12_4, rf12_5, rf12_6, rf12_7, rf12_8, rf12_9, rf12_10, rf23_0, rf23_1, rf23_2, rf23_3, rf23_4, qc0, qc1, qc2, qc3, qc4, qc5, qc6, qc7, qc8, qc9, qc10, qc11, qc12, qc13, qc14, qc15, qc16, qc17, qc18, qc19, qc20, e1, e3, e4, e5, e6, e7, em, ek, ek2, ef, ef2, Int.toNat_natCast, ct143, ct142 hv2, mUp_ne, mUp_eq, mw_tk hw hk3 hk2, mw_on hw hk3 hk2 hv, mw_gb hw hk3 hk2 hv, mw_kp hw hk3 hk2 hv, mw_kr hw hk3 hk2 hv, mw_rn hw hk3 hk2 hv]
  exact hQ
end GOC
