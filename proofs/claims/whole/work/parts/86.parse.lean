section STR
variable {E : ME} {Q : Option MV → MG → MU → Prop} {g : MG} {μ : MU}
theorem kS {x : Nat} (hx : x < 6) : mk_isS (10 + x) = true ∧ mk_isB (10 + x + 10) = true ∧ mk_len E (10 + x + 10) = (mk_txt x).length ∧ 10 + x + 10 - 20 = x := by
  refine ⟨?_, ?_, ?_, by omega⟩
  · unfold mk_isS; simp; omega
  · unfold mk_isB; simp; omega
  · unfold mk_len
    rw [if_neg (by omega), if_neg (by omega)]
    congr 2; omega
theorem chr : ∀ x : Fin 5, ∀ i : Fin 7, (i : Nat) < (mk_txt x).length → mIand ((mk_txt x).getD i 0) 255 % 65536 = (mk_txt x).getD i 0 ∧ 0 ≤ (mk_txt x).getD i 0 ∧ (mk_txt x).getD i 0 < 65536 := by decide +kernel
theorem txt7 : ∀ x : Fin 5, (mk_txt x).length ≤ 7 ∧ 1 ≤ (mk_txt x).length := by decide
theorem ct144 {x : Nat} (hx : x < 5) : Wp E 144 0 [some (.inr (.inr (.inr (10 + x))))] [] g μ Q = Q (some (.inl ((mk_txt x).length : Nat))) g μ := by
  obtain ⟨k1, k2, k3, k4⟩ := kS (E := E) (show x < 6 by omega)
  have e : mIshr ((mk_txt x).length : Nat) 0 = ((mk_txt x).length : Nat) := by
    have h : ∀ x : Fin 5, mIshr ((mk_txt x).length : Nat) 0 = ((mk_txt x).length : Nat) := by decide +kernel
    exact h ⟨x, hx⟩
  simp (disch := first | omega | exact rfl) only [x144_0, x144_1, x144_4K, x144_5, x144_6, x144_9, x144_10, x147_0, x147_3, x147_6, x147_7, x147_10, x147_14, isF, isK, isH, mK, nl_i, nl_n, nl_o, nl_r, c1_i, c1_r, mPush, mRv, G0_1, true_and, and_true, and_self, implies_true, List.length_nil, List.length_cons, Nat.reduceAdd, Nat.reduceLeDiff, Nat.zero_le, beq_self_eq_true, Nat.reduceBEq, decide_true, Bool.and_self, reduceCtorEq, ne_eq, not_true_eq_false, not_false_eq_true, false_implies, true_implies, Nat.reduceLT, Nat.reduceEqDiff, or_true, true_or, or_false, false_or, or_self, Int.reduceEq, Int.reduceNe, Int.reduceLT, Int.reduceLE, Int.reduceAdd, Int.reduceSub, Int.reduceMul, Int.reduceNeg, Int.reduceToNat, if_true, if_false, Classical.not_not, Int.cast_ofNat_Int, k1, k2, k3, e]
theorem ct145 {x : Nat} (hx : x < 6) : Wp E 145 0 [some (.inr (.inr (.inr (10 + x))))] [] g μ Q = Q (some (.inl (if (mk_txt x).length = 0 then 1 else 0))) g μ := by
  obtain ⟨k1, k2, k3, k4⟩ := kS (E := E) hx
  by_cases q : (mk_txt x).length = 0
  · have q2 : (((mk_txt x).length : Nat) : Int) = 0 := by omega
    rw [if_pos q]
    simp (disch := first | omega | exact rfl) only [x145_0, x145_1, x145_4, x145_4K, x145_5, x145_8, x145_9, x145_12, x145_13, x145_4K, isF, isK, isH, mK, nl_i, nl_n, nl_o, nl_r, c1_i, c1_r, mPush, mRv, G0_1, true_and, and_true, and_self, implies_true, List.length_nil, List.length_cons, Nat.reduceAdd, Nat.reduceLeDiff, Nat.zero_le, beq_self_eq_true, Nat.reduceBEq, decide_true, Bool.and_self, reduceCtorEq, ne_eq, not_true_eq_false, not_false_eq_true, false_implies, true_implies, Nat.reduceLT, Nat.reduceEqDiff, or_true, true_or, or_false, false_or, or_self, Int.reduceEq, Int.reduceNe, Int.reduceLT, Int.reduceLE, Int.reduceAdd, Int.reduceSub, Int.reduceMul, Int.reduceNeg, Int.reduceToNat, if_true, if_false, Classical.not_not, Int.cast_ofNat_Int, k1, k2, k3, q2]
  · have q2 : ¬ (((mk_txt x).length : Nat) : Int) = 0 := by omega
    rw [if_neg q]
    simp (disch := first | omega | exact rfl) only [x145_0, x145_1, x145_4, x145_4K, x145_5, x145_8, x145_9, x145_12, x145_13, x145_4K, isF, isK, isH, mK, nl_i, nl_n, nl_o, nl_r, c1_i, c1_r, mPush, mRv, G0_1, true_and, and_true, and_self, implies_true, List.length_nil, List.length_cons, Nat.reduceAdd, Nat.reduceLeDiff, Nat.zero_le, beq_self_eq_true, Nat.reduceBEq, decide_true, Bool.and_self, reduceCtorEq, ne_eq, not_true_eq_false, not_false_eq_true, false_implies, true_implies, Nat.reduceLT, Nat.reduceEqDiff, or_true, true_or, or_false, false_or, or_self, Int.reduceEq, Int.reduceNe, Int.reduceLT, Int.reduceLE, Int.reduceAdd, Int.reduceSub, Int.reduceMul, Int.reduceNeg, Int.reduceToNat, if_true, if_false, Classical.not_not, Int.cast_ofNat_Int, k1, k2, k3, q2]
theorem ct146 {x i : Nat} (hx : x < 5) (hi : i < (mk_txt x).length) : Wp E 146 0 [some (.inr (.inr (.inr (10 + x)))), some (.inl i)] [] g μ Q = Q (some (.inl ((mk_txt x).getD i 0))) g μ := by
  obtain ⟨k1, k2, k3, k4⟩ := kS (E := E) (show x < 6 by omega)
  have h7 : (mk_txt x).length ≤ 7 := (txt7 ⟨x, hx⟩).1
  have hc := chr ⟨x, hx⟩ ⟨i, by omega⟩ hi
  obtain ⟨c1, c2, c3⟩ := hc
  have i1 : ¬ (i : Int) < 0 := by omega
  have i2 : (0 : Int) ≤ i := by omega
  have i3 : (i : Int) < ((mk_txt x).length : Nat) := by omega
  have i4 : ¬ (((mk_txt x).length : Nat) : Int) ≤ i := by omega
  simp (disch := first | omega | exact rfl) only [x146_0, x146_1, x146_4, x146_7, x146_8, x146_11, x146_12, x146_15, x146_16, x146_17, x146_20, x146_24, x148_0, x148_3, x148_6, x148_7, x148_10, x148_13, x148_14, x148_17, x148_18, x150_0, x150_1, x150_2, x150_2K, x150_3, x150_6, x150_7, x150_8, x150_8K, x150_9, x150_12, x150_13, x150_14, x149_0, x149_1, x149_2, x149_5, x149_8, x149_9, x152_0, x152_1, x152_4, x152_5, x152_6, x152_9, x152_10, x152_11, x152_16, x152_17, x150_2K, x150_8K, isF, isK, isH, mK, nl_i, nl_n, nl_o, nl_r, c1_i, c1_r, mPush, mRv, G0_1, true_and, and_true, and_self, implies_true, List.length_nil, List.length_cons, Nat.reduceAdd, Nat.reduceLeDiff, Nat.zero_le, beq_self_eq_true, Nat.reduceBEq, decide_true, Bool.and_self, reduceCtorEq, ne_eq, not_true_eq_false, not_false_eq_true, false_implies, true_implies, Nat.reduceLT, Nat.reduceEqDiff, or_true, true_or, or_false, false_or, or_self, Int.reduceEq, Int.reduceNe, Int.reduceLT, Int.reduceLE, Int.reduceAdd, Int.reduceSub, Int.reduceMul, Int.reduceNeg, Int.reduceToNat, if_true, if_false, Classical.not_not, Int.cast_ofNat_Int, k1, k2, k3, k4, i1, i2, i3, i4, Int.toNat_natCast, c1, c2, c3]
theorem ct22 {c : Int} : Wp E 22 0 [some (.inl c)] [] g μ Q = Q (some (.inr (.inr (.inr (10 + shx c))))) g μ := by
  unfold shx
  by_cases c1 : c = 102
  · rw [if_pos c1]; simp only [c1, x22_0, x22_1_102, x22_52, x22_54, isF, isK, isH, mK, nl_i, nl_n, nl_o, nl_r, c1_i, c1_r, mPush, mRv, G0_1, true_and, and_true, and_self, implies_true, List.length_nil, List.length_cons, Nat.reduceAdd, Nat.reduceLeDiff, Nat.zero_le, beq_self_eq_true, Nat.reduceBEq, decide_true, Bool.and_self, reduceCtorEq, ne_eq, not_true_eq_false, not_false_eq_true, false_implies, true_implies, Nat.reduceLT, Nat.reduceEqDiff, or_true, true_or, or_false, false_or, or_self, Int.reduceEq, Int.reduceNe, Int.reduceLT, Int.reduceLE, Int.reduceAdd, Int.reduceSub, Int.reduceMul, Int.reduceNeg, Int.reduceToNat, if_true, if_false, Classical.not_not, Int.cast_ofNat_Int]
  rw [if_neg c1]
  by_cases c2 : c = 115
  · rw [if_pos c2]; simp only [c2, x22_0, x22_1_115, x22_55, x22_57, isF, isK, isH, mK, nl_i, nl_n, nl_o, nl_r, c1_i, c1_r, mPush, mRv, G0_1, true_and, and_true, and_self, implies_true, List.length_nil, List.length_cons, Nat.reduceAdd, Nat.reduceLeDiff, Nat.zero_le, beq_self_eq_true, Nat.reduceBEq, decide_true, Bool.and_self, reduceCtorEq, ne_eq, not_true_eq_false, not_false_eq_true, false_implies, true_implies, Nat.reduceLT, Nat.reduceEqDiff, or_true, true_or, or_false, false_or, or_self, Int.reduceEq, Int.reduceNe, Int.reduceLT, Int.reduceLE, Int.reduceAdd, Int.reduceSub, Int.reduceMul, Int.reduceNeg, Int.reduceToNat, if_true, if_false, Classical.not_not, Int.cast_ofNat_Int]
  rw [if_neg c2]
  by_cases c3 : c = 119
  · rw [if_pos c3]; simp only [c3, x22_0, x22_1_119, x22_58, x22_60, isF, isK, isH, mK, nl_i, nl_n, nl_o, nl_r, c1_i, c1_r, mPush, mRv, G0_1, true_and, and_true, and_self, implies_true, List.length_nil, List.length_cons, Nat.reduceAdd, Nat.reduceLeDiff, Nat.zero_le, beq_self_eq_true, Nat.reduceBEq, decide_true, Bool.and_self, reduceCtorEq, ne_eq, not_true_eq_false, not_false_eq_true, false_implies, true_implies, Nat.reduceLT, Nat.reduceEqDiff, or_true, true_or, or_false, false_or, or_self, Int.reduceEq, Int.reduceNe, Int.reduceLT, Int.reduceLE, Int.reduceAdd, Int.reduceSub, Int.reduceMul, Int.reduceNeg, Int.reduceToNat, if_true, if_false, Classical.not_not, Int.cast_ofNat_Int]
  rw [if_neg c3]
  by_cases c4 : c = 116
  · rw [if_pos c4]; simp only [c4, x22_0, x22_1_116, x22_61, x22_63, isF, isK, isH, mK, nl_i, nl_n, nl_o, nl_r, c1_i, c1_r, mPush, mRv, G0_1, true_and, and_true, and_self, implies_true, List.length_nil, List.length_cons, Nat.reduceAdd, Nat.reduceLeDiff, Nat.zero_le, beq_self_eq_true, Nat.reduceBEq, decide_true, Bool.and_self, reduceCtorEq, ne_eq, not_true_eq_false, not_false_eq_true, false_implies, true_implies, Nat.reduceLT, Nat.reduceEqDiff, or_true, true_or, or_false, false_or, or_self, Int.reduceEq, Int.reduceNe, Int.reduceLT, Int.reduceLE, Int.reduceAdd, Int.reduceSub, Int.reduceMul, Int.reduceNeg, Int.reduceToNat, if_true, if_false, Classical.not_not, Int.cast_ofNat_Int]
  rw [if_neg c4]
  by_cases c5 : c = 45
  · rw [if_pos c5]; simp only [c5, x22_0, x22_1_45, x22_64, x22_66, isF, isK, isH, mK, nl_i, nl_n, nl_o, nl_r, c1_i, c1_r, mPush, mRv, G0_1, true_and, and_true, and_self, implies_true, List.length_nil, List.length_cons, Nat.reduceAdd, Nat.reduceLeDiff, Nat.zero_le, beq_self_eq_true, Nat.reduceBEq, decide_true, Bool.and_self, reduceCtorEq, ne_eq, not_true_eq_false, not_false_eq_true, false_implies, true_implies, Nat.reduceLT, Nat.reduceEqDiff, or_true, true_or, or_false, false_or, or_self, Int.reduceEq, Int.reduceNe, Int.reduceLT, Int.reduceLE, Int.reduceAdd, Int.reduceSub, Int.reduceMul, Int.reduceNeg, Int.reduceToNat, if_true, if_false, Classical.not_not, Int.cast_ofNat_Int]
  rw [if_neg c5]
  simp only [x22_0, x22_1_d ⟨c5, c1, c2, c4, c3⟩, x22_67, x22_69, isF, isK, isH, mK, nl_i, nl_n, nl_o, nl_r, c1_i, c1_r, mPush, mRv, G0_1, true_and, and_true, and_self, implies_true, List.length_nil, List.length_cons, Nat.reduceAdd, Nat.reduceLeDiff, Nat.zero_le, beq_self_eq_true, Nat.reduceBEq, decide_true, Bool.and_self, reduceCtorEq, ne_eq, not_true_eq_false, not_false_eq_true, false_implies, true_implies, Nat.reduceLT, Nat.reduceEqDiff, or_true, true_or, or_false, false_or, or_self, Int.reduceEq, Int.reduceNe, Int.reduceLT, Int.reduceLE, Int.reduceAdd, Int.reduceSub, Int.reduceMul, Int.reduceNeg, Int.reduceToNat, if_true, if_false, Classical.not_not, Int.cast_ofNat_Int]
end STR
def nN : List Int → Nat
  | [] => 0
  | c :: cs => (if isN c then 1 else 0) + nN cs
theorem vls_n {T : Nat → Int} {L : Nat} : ∀ (cs : List Int) (p : Nat), (vls T L cs p).length = nN cs := by
  intro cs
  induction cs with
  | nil => intro p; rfl
  | cons c cs ih =>
    intro p
    simp only [vls, nN]
    by_cases q : isN c
    · rw [if_pos q, if_pos q, List.length_cons, ih]; omega
    · rw [if_neg q, if_neg q, ih]; omega
theorem nN_4 : ∀ x : Fin 5, nN (mk_txt x) ≤ 4 := by decide
theorem vl_len {T : Nat → Int} {L : Nat} : ∀ x : Nat, x < 5 → ∀ p, (vls T L (mk_txt x) p).length ≤ 4 := by
  intro x hx p
  rw [vls_n]; exact nN_4 ⟨x, hx⟩
theorem shx_l {c : Int} (h : isL c) : shx c < 5 := by
  unfold shx
  rcases h with z | z | z | z | z <;> subst z <;> decide
theorem shx_n {c : Int} (h : ¬ isL c) : shx c = 5 := by
  unfold shx
  rw [if_neg (fun z => h (Or.inl z)), if_neg (fun z => h (Or.inr (Or.inl z))), if_neg (fun z => h (Or.inr (Or.inr (Or.inl z)))), if_neg (fun z => h (Or.inr (Or.inr (Or.inr (Or.inl z))))), if_neg (fun z => h (Or.inr (Or.inr (Or.inr (Or.inr z)))))]
section ORDR
variable {E : ME} {Q : Option MV → MG → MU → Prop} {T : Nat → Int} {L : Nat}
def PG (μ μ' : MU) : Prop := (∀ x, ¬ x = 128 → ¬ x = 130 → μ' x = μ x) ∧ μ' 128 2 = μ 128 2
theorem PG_of {μ μ' : MU} (h : PFr μ μ') : PG μ μ' := ⟨h.1, h.2 2 (by omega) (by omega)⟩
theorem PG_tr {a b c : MU} (h1 : PG a b) (h2 : PG b c) : PG a c := ⟨fun x z1 z2 => (h2.1 x z1 z2).trans (h1.1 x z1 z2), h2.2.trans h1.2⟩
theorem zq21 (hL : L ≤ 80) {x : Nat} (hx : x < 5) {V : List Int} (hV4 : V.length ≤ 4) {F : Int × Nat} {μ0 : MU}
    (hOk : F.1 = 1 → ∀ μ' : MU, PFr μ0 μ' → PD μ' T L F.2 → (∀ i, i < V.length → μ' 130 i = V.getD i 0) → Q (some (.inl 1)) G0 μ') (hNo : ¬ F.1 = 1 → ∀ μ' : MU, PFr μ0 μ' → PD μ' T L F.2 → Q (some (.inl 0)) G0 μ') :
    ∀ (cs : List Int) (i p j : Nat) (μ : MU), List.drop i (mk_txt x) = cs → stl T L cs (1, p) = F → List.drop j V = vls T L cs p → PFr μ0 μ → PD μ T L p → μ 128 5 = j → (∀ i, i < j → μ 130 i = V.getD i 0) →
    Wp E 21 60 [some (.inr (.inr (.inl 128))), some (.inr (.inr (.inr (10 + x)))), some (.inl i)] [] G0 μ Q := by
  intro cs
  induction cs with
  | nil =>
    intro i p j μ hd hs hv h1 h2 hj h3
    have hlen : (mk_txt x).length ≤ i := by
      have := List.drop_eq_nil_iff.mp hd; exact this
    have e1 : (((mk_txt x).length : Nat) : Int) ≤ i := by omega
    have e2 : ¬ (i : Int) < ((mk_txt x).length : Nat) := by omega
    obtain ⟨k1, _, _, _⟩ := kS (E := E) (show x < 6 by omega)
    simp (disch := first | omega | exact rfl) only [x21_60, x21_61, x21_62, x21_65, x21_88, x21_89, isF, isK, isH, mK, nl_i, nl_n, nl_o, nl_r, c1_i, c1_r, mPush, mRv, G0_1, true_and, and_true, and_self, implies_true, List.length_nil, List.length_cons, Nat.reduceAdd, Nat.reduceLeDiff, Nat.zero_le, beq_self_eq_true, Nat.reduceBEq, decide_true, Bool.and_self, reduceCtorEq, ne_eq, not_true_eq_false, not_false_eq_true, false_implies, true_implies, Nat.reduceLT, Nat.reduceEqDiff, or_true, true_or, or_false, false_or, or_self, Int.reduceEq, Int.reduceNe, Int.reduceLT, Int.reduceLE, Int.reduceAdd, Int.reduceSub, Int.reduceMul, Int.reduceNeg, Int.reduceToNat, if_true, if_false, Classical.not_not, Int.cast_ofNat_Int, ct144 hx, k1, e1, e2]
    simp only [stl] at hs
    simp only [vls] at hv
    have hlen2 : V.length ≤ j := List.drop_eq_nil_iff.mp hv
    subst hs
    exact hOk rfl μ h1 h2 (fun i hi => h3 i (by omega))
  | cons c cs ih =>
    intro i p j μ hd hs hv h1 h2 hj h3
    obtain ⟨d1, d2, d3⟩ := drop_c hd
    have e1 : ¬ (((mk_txt x).length : Nat) : Int) ≤ i := by omega
    have e2 : (i : Int) < ((mk_txt x).length : Nat) := by omega
    have h7 := (txt7 ⟨x, hx⟩).1
    have h7' : (mk_txt x).length ≤ 7 := h7
    have eI : (i : Int) + 1 = ((i + 1 : Nat) : Int) := by omega
    obtain ⟨k1, _, _, _⟩ := kS (E := E) (show x < 6 by omega)
    simp only [stl] at hs
    simp only [vls] at hv
    simp (disch := first | omega | exact rfl) only [x21_60, x21_61, x21_62, x21_65, x21_68, x21_69, x21_70, x21_71, x21_74, isF, isK, isH, mK, nl_i, nl_n, nl_o, nl_r, c1_i, c1_r, mPush, mRv, G0_1, true_and, and_true, and_self, implies_true, List.length_nil, List.length_cons, Nat.reduceAdd, Nat.reduceLeDiff, Nat.zero_le, beq_self_eq_true, Nat.reduceBEq, decide_true, Bool.and_self, reduceCtorEq, ne_eq, not_true_eq_false, not_false_eq_true, false_implies, true_implies, Nat.reduceLT, Nat.reduceEqDiff, or_true, true_or, or_false, false_or, or_self, Int.reduceEq, Int.reduceNe, Int.reduceLT, Int.reduceLE, Int.reduceAdd, Int.reduceSub, Int.reduceMul, Int.reduceNeg, Int.reduceToNat, if_true, if_false, Classical.not_not, Int.cast_ofNat_Int, kd128, kd129, kd130, rf128_0, rf128_1, ct144 hx, ct146 hx d2, d1, k1, e1, e2]
    have hj4 : isN c → j < 4 := by
      intro hn
      rw [if_pos hn] at hv
      have := (drop_c hv).2.1
      omega
    refine ct23 hL h2 hj hj4 (fun q μ1 m1 m2 m3 m4 => ?_) (fun q => ?_)
    · simp (disch := first | omega | exact rfl) only [x21_77, x21_82, isF, isK, isH, mK, nl_i, nl_n, nl_o, nl_r, c1_i, c1_r, mPush, mRv, G0_1, true_and, and_true, and_self, implies_true, List.length_nil, List.length_cons, Nat.reduceAdd, Nat.reduceLeDiff, Nat.zero_le, beq_self_eq_true, Nat.reduceBEq, decide_true, Bool.and_self, reduceCtorEq, ne_eq, not_true_eq_false, not_false_eq_true, false_implies, true_implies, Nat.reduceLT, Nat.reduceEqDiff, or_true, true_or, or_false, false_or, or_self, Int.reduceEq, Int.reduceNe, Int.reduceLT, Int.reduceLE, Int.reduceAdd, Int.reduceSub, Int.reduceMul, Int.reduceNeg, Int.reduceToNat, if_true, if_false, Classical.not_not, Int.cast_ofNat_Int, mWr_of]
      rw [x21_85, eI]
      have e : stp T L c (1, p) = (1, pNx T L c p) := by unfold stp; rw [if_pos ⟨rfl, q⟩]
      rw [e] at hs
      by_cases hn : isN c
      · rw [if_pos hn] at hv
        obtain ⟨v1, v2, v3⟩ := drop_c hv
        obtain ⟨n1, n2⟩ := m3 hn
        refine ih (i + 1) (pNx T L c p) (j + 1) μ1 d3 hs v3 (PFr_tr h1 m1) m2 n1 (fun t ht => ?_)
        rw [n2]
        by_cases z : t = j
        · rw [if_pos z, z, v1]
        · rw [if_neg z]; exact h3 t (by omega)
      · rw [if_neg hn] at hv
        obtain ⟨n1, n2⟩ := m4 hn
        exact ih (i + 1) (pNx T L c p) j μ1 d3 hs hv (PFr_tr h1 m1) m2 n1 (fun t ht => by rw [n2]; exact h3 t ht)
    · have e : stp T L c (1, p) = (0, p) := by unfold stp; rw [if_neg (fun z => q z.2)]
      rw [e, stl_0 cs (0, p) (by show ¬ (0 : Int) = 1; omega) rfl] at hs
      subst hs
      simp (disch := first | omega | exact rfl) only [x21_77, x21_80, x21_81, isF, isK, isH, mK, nl_i, nl_n, nl_o, nl_r, c1_i, c1_r, mPush, mRv, G0_1, true_and, and_true, and_self, implies_true, List.length_nil, List.length_cons, Nat.reduceAdd, Nat.reduceLeDiff, Nat.zero_le, beq_self_eq_true, Nat.reduceBEq, decide_true, Bool.and_self, reduceCtorEq, ne_eq, not_true_eq_false, not_false_eq_true, false_implies, true_implies, Nat.reduceLT, Nat.reduceEqDiff, or_true, true_or, or_false, false_or, or_self, Int.reduceEq, Int.reduceNe, Int.reduceLT, Int.reduceLE, Int.reduceAdd, Int.reduceSub, Int.reduceMul, Int.reduceNeg, Int.reduceToNat, if_true, if_false, Classical.not_not, Int.cast_ofNat_Int]
      exact hNo (by show ¬ (0 : Int) = 1; omega) μ h1 h2
theorem ct21 (hL : L ≤ 80) (hT : ∀ i, i < L → 33 ≤ T i ∧ T i ≤ 126) {p : Nat} {μ : MU} (hP : PD μ T L p)
    (hOk : (oS T L p).1 = 1 → ∀ μ' : MU, PG μ μ' → PD μ' T L (oS T L p).2 → μ' 128 4 = T p → p < L → (∀ i, i < (oV T L p).length → μ' 130 i = (oV T L p).getD i 0) → Q (some (.inl 1)) G0 μ') (hNo : ¬ (oS T L p).1 = 1 → ∀ μ' : MU, PG μ μ' → PD μ' T L (oS T L p).2 → Q (some (.inl 0)) G0 μ') :
    Wp E 21 0 [some (.inr (.inr (.inl 128))), none, none] [] G0 μ Q := by
  obtain ⟨a1, a2, a3⟩ := id hP
  by_cases q1 : p < L
  · have q2 : ¬ (L : Int) ≤ p := by omega
    have q3 : (p : Int) < L := by omega
    have q4 : (p : Int) < 80 := by omega
    have q5 : (0 : Int) ≤ p := by omega
    have eI : (p : Int) + 1 = ((p + 1 : Nat) : Int) := by omega
    have aT := a2 p q1
    have hT1 := hT p q1
    have okT : mOk 1 (T p) = true := mOk1 (by omega)
    have a3' : ∀ w, (mUp μ 128 4 w) 128 3 = p := fun w => by rw [mUp_nj (by omega)]; exact a3
    by_cases hl : isL (T p)
    · have hx := shx_l hl
      have hlen := txt7 ⟨_, hx⟩
      have hlen' : ¬ (mk_txt (shx (T p))).length = 0 := by have := hlen.2; show ¬ _; intro z; have h : 1 ≤ (mk_txt (shx (T p))).length := this; omega
      obtain ⟨k1, _, _, _⟩ := kS (E := E) (show shx (T p) < 6 by omega)
      have eS : oS T L p = stl T L (mk_txt (shx (T p))) (1, p + 1) := if_pos ⟨q1, hl⟩
      have hT2 : 0 ≤ T p ∧ T p < 65536 := by omega
      simp (disch := first | omega | exact rfl) only [x21_0, x21_1, x21_4, x21_5, x21_8, x21_13, x21_14, x21_15, x21_18, x21_19, x21_22, x21_23, x21_26, x21_27, x21_30, x21_33, x21_34, x21_35, x21_38, x21_43, x21_44, x21_45, x21_48, x21_49, x21_50, x21_53, x21_54, x21_55, x21_58, x21_59, isF, isK, isH, mK, nl_i, nl_n, nl_o, nl_r, c1_i, c1_r, mPush, mRv, G0_1, true_and, and_true, and_self, implies_true, List.length_nil, List.length_cons, Nat.reduceAdd, Nat.reduceLeDiff, Nat.zero_le, beq_self_eq_true, Nat.reduceBEq, decide_true, Bool.and_self, reduceCtorEq, ne_eq, not_true_eq_false, not_false_eq_true, false_implies, true_implies, Nat.reduceLT, Nat.reduceEqDiff, or_true, true_or, or_false, false_or, or_self, Int.reduceEq, Int.reduceNe, Int.reduceLT, Int.reduceLE, Int.reduceAdd, Int.reduceSub, Int.reduceMul, Int.reduceNeg, Int.reduceToNat, if_true, if_false, Classical.not_not, Int.cast_ofNat_Int, kd128, kd129, kd130, rf128_0, rf128_1, a1, a3, aT, q2, q3, q4, q5, a3', Int.toNat_natCast, mUp_eq, okT, ct22, ct145 (show shx (T p) < 6 by omega), if_neg hlen', k1, mWr_of, eI, hT2]
      refine zq21 hL hx (vl_len _ hx _) (F := oS T L p) (V := oV T L p) (μ0 := mUp (mUp (mUp μ 128 4 (T p)) 128 3 ((p + 1 : Nat) : Int)) 128 5 0) (fun z μ' m1 m2 m3 => ?_) (fun z μ' m1 m2 => ?_) (mk_txt (shx (T p))) 0 (p + 1) 0 _ rfl eS.symm rfl PFr_refl ⟨?_, fun i hi => ?_, ?_⟩ ?_ (fun i hi => by omega)
      · refine hOk z μ' (PG_tr ⟨fun x z1 z2 => by rw [mUp_ne z1, mUp_ne z1, mUp_ne z1], by rw [mUp_nj (by omega), mUp_nj (by omega), mUp_nj (by omega)]⟩ (PG_of m1)) m2 ?_ q1 m3
        rw [m1.2 4 (by omega) (by omega), mUp_nj (by omega), mUp_nj (by omega), mUp_eq]
      · exact hNo z μ' (PG_tr ⟨fun x z1 z2 => by rw [mUp_ne z1, mUp_ne z1, mUp_ne z1], by rw [mUp_nj (by omega), mUp_nj (by omega), mUp_nj (by omega)]⟩ (PG_of m1)) m2
      · rw [mUp_nj (by omega), mUp_nj (by omega), mUp_nj (by omega)]; exact a1
      · rw [mUp_ne (by omega), mUp_ne (by omega), mUp_ne (by omega)]; exact a2 i hi
      · rw [mUp_nj (by omega), mUp_eq]
      · rw [mUp_eq]; rfl
    · have hx := shx_n hl
      have hlen' : (mk_txt (shx (T p))).length = 0 := by rw [hx]; rfl
      obtain ⟨k1, _, _, _⟩ := kS (E := E) (show shx (T p) < 6 by omega)
      have eS : oS T L p = (0, p) := if_neg (fun z => hl z.2)
      have hT2 : 0 ≤ T p ∧ T p < 65536 := by omega
      simp (disch := first | omega | exact rfl) only [x21_0, x21_1, x21_4, x21_5, x21_8, x21_13, x21_14, x21_15, x21_18, x21_19, x21_22, x21_23, x21_26, x21_27, x21_30, x21_33, x21_34, x21_35, x21_38, x21_41, x21_42, isF, isK, isH, mK, nl_i, nl_n, nl_o, nl_r, c1_i, c1_r, mPush, mRv, G0_1, true_and, and_true, and_self, implies_true, List.length_nil, List.length_cons, Nat.reduceAdd, Nat.reduceLeDiff, Nat.zero_le, beq_self_eq_true, Nat.reduceBEq, decide_true, Bool.and_self, reduceCtorEq, ne_eq, not_true_eq_false, not_false_eq_true, false_implies, true_implies, Nat.reduceLT, Nat.reduceEqDiff, or_true, true_or, or_false, false_or, or_self, Int.reduceEq, Int.reduceNe, Int.reduceLT, Int.reduceLE, Int.reduceAdd, Int.reduceSub, Int.reduceMul, Int.reduceNeg, Int.reduceToNat, if_true, if_false, Classical.not_not, Int.cast_ofNat_Int, kd128, kd129, kd130, rf128_0, rf128_1, a1, a3, aT, q2, q3, q4, q5, a3', Int.toNat_natCast, mUp_eq, okT, ct22, ct145 (show shx (T p) < 6 by omega), if_pos hlen', k1, hT2]
      rw [eS] at hNo
      refine hNo (by show ¬ (0 : Int) = 1; omega) _ ⟨fun x z1 z2 => mUp_ne z1, mUp_nj (by omega)⟩ ⟨by rw [mUp_nj (by omega)]; exact a1, fun i hi => by rw [mUp_ne (by omega)]; exact a2 i hi, by rw [mUp_nj (by omega)]; exact a3⟩
  · have q2 : (L : Int) ≤ p := by omega
    have q3 : ¬ (p : Int) < L := by omega
    have eS : oS T L p = (0, p) := if_neg (fun z => q1 z.1)
    rw [eS] at hNo
    simp (disch := first | omega | exact rfl) only [x21_0, x21_1, x21_4, x21_5, x21_8, x21_11, x21_12, isF, isK, isH, mK, nl_i, nl_n, nl_o, nl_r, c1_i, c1_r, mPush, mRv, G0_1, true_and, and_true, and_self, implies_true, List.length_nil, List.length_cons, Nat.reduceAdd, Nat.reduceLeDiff, Nat.zero_le, beq_self_eq_true, Nat.reduceBEq, decide_true, Bool.and_self, reduceCtorEq, ne_eq, not_true_eq_false, not_false_eq_true, false_implies, true_implies, Nat.reduceLT, Nat.reduceEqDiff, or_true, true_or, or_false, false_or, or_self, Int.reduceEq, Int.reduceNe, Int.reduceLT, Int.reduceLE, Int.reduceAdd, Int.reduceSub, Int.reduceMul, Int.reduceNeg, Int.reduceToNat, if_true, if_false, Classical.not_not, Int.cast_ofNat_Int, kd128, kd129, kd130, rf128_0, rf128_1, a1, a3, q2, q3]
    exact hNo (by show ¬ (0 : Int) = 1; omega) μ ⟨fun _ _ _ => rfl, rfl⟩ hP
end ORDR
