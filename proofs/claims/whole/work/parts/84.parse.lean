/-! READING A TEXT, in numbers: T the characters, L how many; a state is (well, at) -/
abbrev dig (T : Nat → Int) (L p : Nat) : Prop := p < L ∧ 48 ≤ T p ∧ T p ≤ 57
def nGo (T : Nat → Int) (L : Nat) : Nat → Nat → Int → Int × Nat
  | 0, p, v => (v, p)
  | d + 1, p, v => if ¬ v = 0 ∧ dig T L p then nGo T L d (p + 1) (v * 10 + T p - 48) else (v, p)
abbrev isN (c : Int) : Prop := c = 100 ∨ c = 110
abbrev pOk (T : Nat → Int) (L : Nat) (c : Int) (p : Nat) : Prop := (isN c ∧ dig T L p) ∨ (¬ isN c ∧ p < L ∧ T p = c)
def pNx (T : Nat → Int) (L : Nat) (c : Int) (p : Nat) : Nat := if c = 110 then (nGo T L 3 (p + 1) (T p - 48)).2 else p + 1
def pVl (T : Nat → Int) (L : Nat) (c : Int) (p : Nat) : Int := if c = 110 then (nGo T L 3 (p + 1) (T p - 48)).1 else T p - 48
def stp (T : Nat → Int) (L : Nat) (c : Int) (s : Int × Nat) : Int × Nat := if s.1 = 1 ∧ pOk T L c s.2 then (1, pNx T L c s.2) else (0, s.2)
def stl (T : Nat → Int) (L : Nat) : List Int → Int × Nat → Int × Nat
  | [], s => s
  | c :: cs, s => stl T L cs (stp T L c s)
def vls (T : Nat → Int) (L : Nat) : List Int → Nat → List Int
  | [], _ => []
  | c :: cs, p => if isN c then pVl T L c p :: vls T L cs (pNx T L c p) else vls T L cs (pNx T L c p)
def shx (c : Int) : Nat := if c = 102 then 0 else if c = 115 then 1 else if c = 119 then 2 else if c = 116 then 3 else if c = 45 then 4 else 5
abbrev isL (c : Int) : Prop := c = 102 ∨ c = 115 ∨ c = 119 ∨ c = 116 ∨ c = 45
def oS (T : Nat → Int) (L p : Nat) : Int × Nat := if p < L ∧ isL (T p) then stl T L (mk_txt (shx (T p))) (1, p + 1) else (0, p)
def oV (T : Nat → Int) (L p : Nat) : List Int := vls T L (mk_txt (shx (T p))) (p + 1)
def rd (T : Nat → Int) (L : Nat) : Nat → Nat → Int
  | 0, p => p
  | n + 1, p => if (oS T L p).1 = 1 then (if (oS T L p).2 = L then -6 else if (oS T L p).2 < L ∧ T (oS T L p).2 = 59 then rd T L n ((oS T L p).2 + 1) else (oS T L p).2) else (oS T L p).2
theorem nGo_b {T : Nat → Int} {L : Nat} : ∀ d p v, p ≤ L → p ≤ (nGo T L d p v).2 ∧ (nGo T L d p v).2 ≤ L := by
  intro d
  induction d with
  | zero => intro p v h; exact ⟨Nat.le_refl _, h⟩
  | succ d ih =>
    intro p v h
    simp only [nGo]
    by_cases q : ¬ v = 0 ∧ dig T L p
    · rw [if_pos q]
      have := ih (p + 1) (v * 10 + T p - 48) q.2.1
      omega
    · rw [if_neg q]; exact ⟨Nat.le_refl _, h⟩
theorem pNx_b {T : Nat → Int} {L p : Nat} {c : Int} (h : pOk T L c p) : p + 1 ≤ pNx T L c p ∧ pNx T L c p ≤ L := by
  have hp : p < L := by
    rcases h with z | z
    · exact z.2.1
    · exact z.2.1
  unfold pNx
  by_cases q : c = 110
  · rw [if_pos q]; exact nGo_b 3 (p + 1) _ hp
  · rw [if_neg q]; omega
theorem stp_b {T : Nat → Int} {L : Nat} {c : Int} {s : Int × Nat} (h : s.2 ≤ L) (hw : s.1 = 0 ∨ s.1 = 1) : (s.2 ≤ (stp T L c s).2 ∧ (stp T L c s).2 ≤ L) ∧ ((stp T L c s).1 = 0 ∨ (stp T L c s).1 = 1) := by
  unfold stp
  by_cases q : s.1 = 1 ∧ pOk T L c s.2
  · rw [if_pos q]
    have := pNx_b q.2
    exact ⟨⟨by show s.2 ≤ pNx T L c s.2; omega, this.2⟩, Or.inr rfl⟩
  · rw [if_neg q]; exact ⟨⟨Nat.le_refl _, h⟩, Or.inl rfl⟩
theorem stl_b {T : Nat → Int} {L : Nat} : ∀ (cs : List Int) (s : Int × Nat), s.2 ≤ L → (s.1 = 0 ∨ s.1 = 1) → (s.2 ≤ (stl T L cs s).2 ∧ (stl T L cs s).2 ≤ L) ∧ ((stl T L cs s).1 = 0 ∨ (stl T L cs s).1 = 1) := by
  intro cs
  induction cs with
  | nil => intro s h hw; exact ⟨⟨Nat.le_refl _, h⟩, hw⟩
  | cons c cs ih =>
    intro s h hw
    obtain ⟨h1, h2⟩ := stp_b (T := T) (c := c) h hw
    have h3 := ih (stp T L c s) h1.2 h2
    simp only [stl]
    exact ⟨⟨by omega, h3.1.2⟩, h3.2⟩
theorem stl_0 {T : Nat → Int} {L : Nat} : ∀ (cs : List Int) (s : Int × Nat), ¬ s.1 = 1 → s.1 = 0 → stl T L cs s = s := by
  intro cs
  induction cs with
  | nil => intro s _ _; rfl
  | cons c cs ih =>
    intro s h h0
    simp only [stl]
    have e : stp T L c s = s := by
      unfold stp; rw [if_neg (fun z => h z.1), ← h0]
    rw [e]; exact ih s h h0
theorem oS_b {T : Nat → Int} {L p : Nat} (hp : p ≤ L) : (p ≤ (oS T L p).2 ∧ (oS T L p).2 ≤ L) ∧ ((oS T L p).1 = 0 ∨ ((oS T L p).1 = 1 ∧ p + 1 ≤ (oS T L p).2)) := by
  unfold oS
  by_cases q : p < L ∧ isL (T p)
  · rw [if_pos q]
    have h := stl_b (T := T) (L := L) (mk_txt (shx (T p))) (1, p + 1) (show p + 1 ≤ L by omega) (Or.inr rfl)
    have h1 : p + 1 ≤ (stl T L (mk_txt (shx (T p))) (1, p + 1)).2 := h.1.1
    refine ⟨⟨by omega, h.1.2⟩, ?_⟩
    rcases h.2 with z | z
    · exact Or.inl z
    · exact Or.inr ⟨z, h1⟩
  · rw [if_neg q]; exact ⟨⟨Nat.le_refl _, hp⟩, Or.inl rfl⟩
theorem nGo_v {T : Nat → Int} {L : Nat} : ∀ d p v, d ≤ 3 → (0 ≤ v ∧ ((d = 3 ∧ v ≤ 9) ∨ (d = 2 ∧ v ≤ 99) ∨ (d = 1 ∧ v ≤ 999) ∨ (d = 0 ∧ v ≤ 9999))) → 0 ≤ (nGo T L d p v).1 ∧ (nGo T L d p v).1 ≤ 9999 := by
  intro d
  induction d with
  | zero => intro p v _ h; show 0 ≤ v ∧ v ≤ 9999; omega
  | succ d ih =>
    intro p v hd h
    simp only [nGo]
    by_cases q : ¬ v = 0 ∧ dig T L p
    · rw [if_pos q]
      have := q.2.2
      exact ih (p + 1) (v * 10 + T p - 48) (by omega) (by omega)
    · rw [if_neg q]; show 0 ≤ v ∧ v ≤ 9999; omega
theorem drop_c {l : List Int} : ∀ {i : Nat} {a : Int} {r : List Int}, List.drop i l = a :: r → l.getD i 0 = a ∧ i < l.length ∧ List.drop (i + 1) l = r := by
  induction l with
  | nil => intro i a r h; simp at h
  | cons x l ih =>
    intro i a r h
    cases i with
    | zero =>
      simp only [List.drop_zero] at h
      injection h with h1 h2
      subst h1; subst h2
      exact ⟨rfl, Nat.succ_pos _, rfl⟩
    | succ i =>
      have := ih (i := i) (a := a) (r := r) h
      exact ⟨this.1, by simp only [List.length_cons]; omega, this.2.2⟩
section PRC
variable {E : ME} {Q : Option MV → MG → MU → Prop} {μ : MU} {T : Nat → Int} {L : Nat}
/-- the pad of the class: the text, and where it is read -/
def PD (μ : MU) (T : Nat → Int) (L p : Nat) : Prop := μ 128 2 = L ∧ (∀ i, i < L → μ 129 i = T i) ∧ μ 128 3 = p
/-- what reading leaves as it was -/
def PFr (μ μ' : MU) : Prop := (∀ x, ¬ x = 128 → ¬ x = 130 → μ' x = μ x) ∧ (∀ i, ¬ i = 3 → ¬ i = 5 → μ' 128 i = μ 128 i)
theorem PFr_refl : PFr μ μ := ⟨fun _ _ _ => rfl, fun _ _ _ => rfl⟩
theorem PFr_tr {a b c : MU} (h1 : PFr a b) (h2 : PFr b c) : PFr a c := ⟨fun x z1 z2 => (h2.1 x z1 z2).trans (h1.1 x z1 z2), fun i z1 z2 => (h2.2 i z1 z2).trans (h1.2 i z1 z2)⟩
theorem PD_fr {μ' : MU} {p p' : Nat} (h : PD μ T L p) (hf : PFr μ μ') (h3 : μ' 128 3 = p') : PD μ' T L p' :=
  ⟨by rw [hf.2 2 (by omega) (by omega)]; exact h.1, fun i hi => by rw [hf.1 129 (by omega) (by omega)]; exact h.2.1 i hi, h3⟩
theorem ct25 (hL : L ≤ 80) {p : Nat} {c : Int} (hP : PD μ T L p) (h1 : p < L ∧ T p = c → Q (some (.inl 1)) G0 (mUp μ 128 3 ((p + 1 : Nat) : Int))) (h0 : ¬ (p < L ∧ T p = c) → Q (some (.inl 0)) G0 μ) : Wp E 25 0 [some (.inr (.inr (.inl 128))), some (.inl c)] [] G0 μ Q := by
  obtain ⟨a1, a2, a3⟩ := hP
  by_cases q1 : p < L
  · have q2 : ¬ (L : Int) ≤ p := by omega
    have q3 : (p : Int) < L := by omega
    have q4 : (p : Int) < 80 := by omega
    have q5 : (0 : Int) ≤ p := by omega
    have eI : (p : Int) + 1 = ((p + 1 : Nat) : Int) := by omega
    have e := a2 p q1
    by_cases q6 : T p = c
    · simp (disch := first | omega | exact rfl) only [x25_0, x25_1, x25_4, x25_5, x25_8, x25_11, x25_12, x25_15, x25_16, x25_19, x25_20, x25_21, x25_24, x25_25, x25_26, x25_27, x25_28, x25_31, x25_32, x25_33, x25_36, x25_37, isF, isK, isH, mK, nl_i, nl_n, nl_o, nl_r, c1_i, c1_r, mPush, mRv, G0_1, true_and, and_true, and_self, implies_true, List.length_nil, List.length_cons, Nat.reduceAdd, Nat.reduceLeDiff, Nat.zero_le, beq_self_eq_true, Nat.reduceBEq, decide_true, Bool.and_self, reduceCtorEq, ne_eq, not_true_eq_false, not_false_eq_true, false_implies, true_implies, Nat.reduceLT, Nat.reduceEqDiff, or_true, true_or, or_false, false_or, or_self, Int.reduceEq, Int.reduceNe, Int.reduceLT, Int.reduceLE, Int.reduceAdd, Int.reduceSub, Int.reduceMul, Int.reduceNeg, Int.reduceToNat, if_true, if_false, Classical.not_not, Int.cast_ofNat_Int, kd128, kd129, kd130, rf128_0, rf128_1, a1, a3, e, q2, q3, q4, q5, q6, Int.toNat_natCast, mWr_of, eI]
      exact h1 ⟨q1, q6⟩
    · simp (disch := first | omega | exact rfl) only [x25_0, x25_1, x25_4, x25_5, x25_8, x25_11, x25_12, x25_15, x25_16, x25_19, x25_20, x25_21, x25_24, x25_25, x25_26, x25_27, x25_28, x25_31, x25_32, x25_33, x25_36, x25_37, isF, isK, isH, mK, nl_i, nl_n, nl_o, nl_r, c1_i, c1_r, mPush, mRv, G0_1, true_and, and_true, and_self, implies_true, List.length_nil, List.length_cons, Nat.reduceAdd, Nat.reduceLeDiff, Nat.zero_le, beq_self_eq_true, Nat.reduceBEq, decide_true, Bool.and_self, reduceCtorEq, ne_eq, not_true_eq_false, not_false_eq_true, false_implies, true_implies, Nat.reduceLT, Nat.reduceEqDiff, or_true, true_or, or_false, false_or, or_self, Int.reduceEq, Int.reduceNe, Int.reduceLT, Int.reduceLE, Int.reduceAdd, Int.reduceSub, Int.reduceMul, Int.reduceNeg, Int.reduceToNat, if_true, if_false, Classical.not_not, Int.cast_ofNat_Int, kd128, kd129, kd130, rf128_0, rf128_1, a1, a3, e, q2, q3, q4, q5, q6, Int.toNat_natCast, mWr_of, eI]
      exact h0 (fun z => q6 z.2)
  · have q2 : (L : Int) ≤ p := by omega
    have q3 : ¬ (p : Int) < L := by omega
    simp (disch := first | omega | exact rfl) only [x25_0, x25_1, x25_4, x25_5, x25_8, x25_11, x25_12, x25_15, x25_16, x25_19, x25_20, x25_21, x25_24, x25_25, x25_26, x25_27, x25_28, x25_31, x25_32, x25_33, x25_36, x25_37, isF, isK, isH, mK, nl_i, nl_n, nl_o, nl_r, c1_i, c1_r, mPush, mRv, G0_1, true_and, and_true, and_self, implies_true, List.length_nil, List.length_cons, Nat.reduceAdd, Nat.reduceLeDiff, Nat.zero_le, beq_self_eq_true, Nat.reduceBEq, decide_true, Bool.and_self, reduceCtorEq, ne_eq, not_true_eq_false, not_false_eq_true, false_implies, true_implies, Nat.reduceLT, Nat.reduceEqDiff, or_true, true_or, or_false, false_or, or_self, Int.reduceEq, Int.reduceNe, Int.reduceLT, Int.reduceLE, Int.reduceAdd, Int.reduceSub, Int.reduceMul, Int.reduceNeg, Int.reduceToNat, if_true, if_false, Classical.not_not, Int.cast_ofNat_Int, kd128, kd129, kd130, rf128_0, rf128_1, a1, a3, q2, q3]
    exact h0 (fun z => q1 z.1)
theorem ct26 (hL : L ≤ 80) {p : Nat} (hP : PD μ T L p) : Wp E 26 0 [some (.inr (.inr (.inl 128)))] [] G0 μ Q = Q (some (.inl (if dig T L p then 1 else 0))) G0 μ := by
  obtain ⟨a1, a2, a3⟩ := hP
  by_cases q1 : p < L
  · have q2 : ¬ (L : Int) ≤ p := by omega
    have q3 : (p : Int) < L := by omega
    have q4 : (p : Int) < 80 := by omega
    have q5 : (0 : Int) ≤ p := by omega
    have e := a2 p q1
    by_cases q6 : 48 ≤ T p
    · have q6' : ¬ T p < 48 := by omega
      by_cases q7 : T p ≤ 57
      · have q7' : ¬ 57 < T p := by omega
        rw [if_pos ⟨q1, q6, q7⟩]
        simp (disch := first | omega | exact rfl) only [x26_0, x26_1, x26_4, x26_5, x26_8, x26_11, x26_12, x26_15, x26_16, x26_19, x26_20, x26_22, x26_25, x26_26, x26_29, x26_30, x26_33, x26_34, x26_36, x26_39, x26_40, x26_43, x26_44, isF, isK, isH, mK, nl_i, nl_n, nl_o, nl_r, c1_i, c1_r, mPush, mRv, G0_1, true_and, and_true, and_self, implies_true, List.length_nil, List.length_cons, Nat.reduceAdd, Nat.reduceLeDiff, Nat.zero_le, beq_self_eq_true, Nat.reduceBEq, decide_true, Bool.and_self, reduceCtorEq, ne_eq, not_true_eq_false, not_false_eq_true, false_implies, true_implies, Nat.reduceLT, Nat.reduceEqDiff, or_true, true_or, or_false, false_or, or_self, Int.reduceEq, Int.reduceNe, Int.reduceLT, Int.reduceLE, Int.reduceAdd, Int.reduceSub, Int.reduceMul, Int.reduceNeg, Int.reduceToNat, if_true, if_false, Classical.not_not, Int.cast_ofNat_Int, kd128, kd129, kd130, rf128_0, rf128_1, a1, a3, e, q2, q3, q4, q5, q6, q6', q7, q7', Int.toNat_natCast]
      · have q7' : 57 < T p := by omega
        rw [if_neg (fun z => q7 z.2.2)]
        simp (disch := first | omega | exact rfl) only [x26_0, x26_1, x26_4, x26_5, x26_8, x26_11, x26_12, x26_15, x26_16, x26_19, x26_20, x26_22, x26_25, x26_26, x26_29, x26_30, x26_33, x26_34, x26_36, x26_39, x26_40, x26_43, x26_44, isF, isK, isH, mK, nl_i, nl_n, nl_o, nl_r, c1_i, c1_r, mPush, mRv, G0_1, true_and, and_true, and_self, implies_true, List.length_nil, List.length_cons, Nat.reduceAdd, Nat.reduceLeDiff, Nat.zero_le, beq_self_eq_true, Nat.reduceBEq, decide_true, Bool.and_self, reduceCtorEq, ne_eq, not_true_eq_false, not_false_eq_true, false_implies, true_implies, Nat.reduceLT, Nat.reduceEqDiff, or_true, true_or, or_false, false_or, or_self, Int.reduceEq, Int.reduceNe, Int.reduceLT, Int.reduceLE, Int.reduceAdd, Int.reduceSub, Int.reduceMul, Int.reduceNeg, Int.reduceToNat, if_true, if_false, Classical.not_not, Int.cast_ofNat_Int, kd128, kd129, kd130, rf128_0, rf128_1, a1, a3, e, q2, q3, q4, q5, q6, q6', q7, q7', Int.toNat_natCast]
    · have q6' : T p < 48 := by omega
      rw [if_neg (fun z => q6 z.2.1)]
      simp (disch := first | omega | exact rfl) only [x26_0, x26_1, x26_4, x26_5, x26_8, x26_11, x26_12, x26_15, x26_16, x26_19, x26_20, x26_22, x26_25, x26_26, x26_29, x26_30, x26_33, x26_34, x26_36, x26_39, x26_40, x26_43, x26_44, isF, isK, isH, mK, nl_i, nl_n, nl_o, nl_r, c1_i, c1_r, mPush, mRv, G0_1, true_and, and_true, and_self, implies_true, List.length_nil, List.length_cons, Nat.reduceAdd, Nat.reduceLeDiff, Nat.zero_le, beq_self_eq_true, Nat.reduceBEq, decide_true, Bool.and_self, reduceCtorEq, ne_eq, not_true_eq_false, not_false_eq_true, false_implies, true_implies, Nat.reduceLT, Nat.reduceEqDiff, or_true, true_or, or_false, false_or, or_self, Int.reduceEq, Int.reduceNe, Int.reduceLT, Int.reduceLE, Int.reduceAdd, Int.reduceSub, Int.reduceMul, Int.reduceNeg, Int.reduceToNat, if_true, if_false, Classical.not_not, Int.cast_ofNat_Int, kd128, kd129, kd130, rf128_0, rf128_1, a1, a3, e, q2, q3, q4, q5, q6, q6', Int.toNat_natCast]
  · have q2 : (L : Int) ≤ p := by omega
    have q3 : ¬ (p : Int) < L := by omega
    rw [if_neg (fun z => q1 z.1)]
    simp (disch := first | omega | exact rfl) only [x26_0, x26_1, x26_4, x26_5, x26_8, x26_11, x26_12, x26_15, x26_16, x26_19, x26_20, x26_22, x26_25, x26_26, x26_29, x26_30, x26_33, x26_34, x26_36, x26_39, x26_40, x26_43, x26_44, isF, isK, isH, mK, nl_i, nl_n, nl_o, nl_r, c1_i, c1_r, mPush, mRv, G0_1, true_and, and_true, and_self, implies_true, List.length_nil, List.length_cons, Nat.reduceAdd, Nat.reduceLeDiff, Nat.zero_le, beq_self_eq_true, Nat.reduceBEq, decide_true, Bool.and_self, reduceCtorEq, ne_eq, not_true_eq_false, not_false_eq_true, false_implies, true_implies, Nat.reduceLT, Nat.reduceEqDiff, or_true, true_or, or_false, false_or, or_self, Int.reduceEq, Int.reduceNe, Int.reduceLT, Int.reduceLE, Int.reduceAdd, Int.reduceSub, Int.reduceMul, Int.reduceNeg, Int.reduceToNat, if_true, if_false, Classical.not_not, Int.cast_ofNat_Int, kd128, kd129, kd130, rf128_0, rf128_1, a1, a3, q2, q3]
end PRC
