/-! WHAT THE CALLS ASK: refusals (0: none) and rows behind a change, as the reference says them -/
abbrev isF (s : Row) (f : Int) : Prop := 0 ≤ f ∧ f < s 5
abbrev isK (s : Row) (k : Int) : Prop := 0 ≤ k ∧ k < s 6
abbrev isH (h : Int) : Prop := 0 ≤ h ∧ h ≤ 3
abbrev isR (s : Row) (f r : Int) : Prop := isF s f ∧ (0 ≤ r ∧ r < s (23 + 9 * f.toNat))
def tornOf (s : Row) (f r : Int) : Int := if s (26 + 9 * f.toNat + r.toNat) = 0 then -6 else s (26 + 9 * f.toNat + r.toNat) - 1
abbrev okSet (a v : Int) : Prop := (a = 0 ∧ (1 ≤ v ∧ v ≤ 60)) ∨ ((a = 1 ∨ a = 2) ∧ (0 ≤ v ∧ v ≤ 60)) ∨ (a = 3 ∧ (0 ≤ v ∧ v ≤ 9)) ∨ (a = 4 ∧ (0 ≤ v ∧ v ≤ 99))
def rFilm (s : Row) (r h t : Int) : Int := if ¬ ((1 ≤ r ∧ r ≤ 6) ∧ (0 ≤ t ∧ t ≤ 100)) then -2 else if ¬ isH h then -1 else if s 5 = 5 then -4 else 0
def rWay (a b m : Int) : Int := if ¬ (isH a ∧ isH b) then -1 else if ¬ a = b ∧ (1 ≤ m ∧ m ≤ 99) then 0 else -2
def rShow (s : Row) (f h m t : Int) : Int := if ¬ (isF s f ∧ isH h) then -1 else if ¬ ((0 ≤ m ∧ m ≤ 1439) ∧ (0 ≤ t ∧ t ≤ 999)) then -2 else if s 6 = 20 then -4 else 0
def rDrop (s : Row) (k : Int) : Int := if isK s k then 0 else -1
def rTear (s : Row) (f r m : Int) : Int := if ¬ isR s f r then -1 else if 0 ≤ m ∧ m ≤ 1439 then 0 else -2
def lFilm (s : Row) (r h t : Int) : Row := fun i =>
  if i = 5 then s 5 + 1 else if i = 23 + 9 * (s 5).toNat then r else if i = 24 + 9 * (s 5).toNat then h else if i = 25 + 9 * (s 5).toNat then t else if 26 + 9 * (s 5).toNat ≤ i ∧ i < 32 + 9 * (s 5).toNat then 0 else s i
def lWay (s : Row) (a b m : Int) : Row := fun i => if i = 7 + (4 * a.toNat + b.toNat) ∨ i = 7 + (4 * b.toNat + a.toNat) then m else s i
def lShow (s : Row) (f h m t : Int) : Row := fun i =>
  if i = 6 then s 6 + 1 else if i = 68 + 4 * (s 6).toNat then f else if i = 69 + 4 * (s 6).toNat then h else if i = 70 + 4 * (s 6).toNat then m else if i = 71 + 4 * (s 6).toNat then t else s i
def lDrop (s : Row) (k : Int) : Row := fun i =>
  if i = 6 then s 6 - 1 else if 68 + 4 * k.toNat ≤ i ∧ i < 64 + 4 * (s 6).toNat then s (i + 4) else if 64 + 4 * (s 6).toNat ≤ i ∧ i < 68 + 4 * (s 6).toNat then 0 else s i
def lTear (s : Row) (f r v : Int) : Row := up s (26 + 9 * f.toNat + r.toNat) v
section CIRC
variable {E : ME} {μ : MU} {Q : Option MV → MG → MU → Prop} {c : Nat} {s : Row}
/-- hasFilm, hasShow, hasReel, minutesBetween -/
theorem ct2 (hc : c ∈ gCs) (hw : wf s) (hs : cRel μ c s) {f : Int} : Wp E 2 0 [some (.inr (.inr (.inl c))), some (.inl f)] [] G0 μ Q = Q (some (.inl (if isF s f then 1 else 0))) G0 μ := by
  obtain ⟨qc0, qc1, qc2, qc3, qc4, qc5, qc6, qc7, qc8, qc9, qc10, qc11, qc12, qc13, qc14, qc15, qc16, qc17, qc18, qc19, qc20⟩ := gC_ok c hc
  have e1 := hs.2.1
  have b5 := hw.1.2.2.2.2.2.1
  simp (disch := omega) only [x2_0, x2_1, x2_2, x2_3, x2_6, x2_7, x2_8, x2_11, isF, isK, isH, mK, nl_i, nl_n, nl_o, nl_r, c1_i, c1_r, mPush, mRv, G0_1, true_and, and_true, and_self, implies_true, List.length_nil, List.length_cons, Nat.reduceAdd, Nat.reduceLeDiff, Nat.zero_le, beq_self_eq_true, Nat.reduceBEq, decide_true, Bool.and_self, reduceCtorEq, ne_eq, not_true_eq_false, not_false_eq_true, false_implies, true_implies, Nat.reduceLT, Nat.reduceEqDiff, or_true, true_or, or_false, false_or, or_self, Int.reduceEq, Int.reduceNe, Int.reduceLT, Int.reduceLE, Int.reduceAdd, Int.reduceSub, Int.reduceMul, Int.reduceNeg, Int.reduceToNat, if_true, if_false, Classical.not_not, Int.cast_ofNat_Int, qc0, qc1, qc2, qc3, qc4, qc5, qc6, qc7, qc8, qc9, qc10, qc11, qc12, qc13, qc14, qc15, qc16, qc17, qc18, qc19, qc20, e1, mWr_of, ct74, ite01]
  simp only [isF, Int.le_sub_one_iff]
theorem ct4 (hc : c ∈ gCs) (hw : wf s) (hs : cRel μ c s) {f : Int} : Wp E 4 0 [some (.inr (.inr (.inl c))), some (.inl f)] [] G0 μ Q = Q (some (.inl (if isK s f then 1 else 0))) G0 μ := by
  obtain ⟨qc0, qc1, qc2, qc3, qc4, qc5, qc6, qc7, qc8, qc9, qc10, qc11, qc12, qc13, qc14, qc15, qc16, qc17, qc18, qc19, qc20⟩ := gC_ok c hc
  have e1 := hs.2.2.1
  have b5 := hw.1.2.2.2.2.2.2
  simp (disch := omega) only [x4_0, x4_1, x4_2, x4_3, x4_6, x4_7, x4_8, x4_11, isF, isK, isH, mK, nl_i, nl_n, nl_o, nl_r, c1_i, c1_r, mPush, mRv, G0_1, true_and, and_true, and_self, implies_true, List.length_nil, List.length_cons, Nat.reduceAdd, Nat.reduceLeDiff, Nat.zero_le, beq_self_eq_true, Nat.reduceBEq, decide_true, Bool.and_self, reduceCtorEq, ne_eq, not_true_eq_false, not_false_eq_true, false_implies, true_implies, Nat.reduceLT, Nat.reduceEqDiff, or_true, true_or, or_false, false_or, or_self, Int.reduceEq, Int.reduceNe, Int.reduceLT, Int.reduceLE, Int.reduceAdd, Int.reduceSub, Int.reduceMul, Int.reduceNeg, Int.reduceToNat, if_true, if_false, Classical.not_not, Int.cast_ofNat_Int, qc0, qc1, qc2, qc3, qc4, qc5, qc6, qc7, qc8, qc9, qc10, qc11, qc12, qc13, qc14, qc15, qc16, qc17, qc18, qc19, qc20, e1, mWr_of, ct74, ite01]
  simp only [isK, Int.le_sub_one_iff]
theorem ct3 (hc : c ∈ gCs) (hw : wf s) (hs : cRel μ c s) {f r : Int} : Wp E 3 0 [some (.inr (.inr (.inl c))), some (.inl f), some (.inl r)] [] G0 μ Q = Q (some (.inl (if isR s f r then 1 else 0))) G0 μ := by
  obtain ⟨qc0, qc1, qc2, qc3, qc4, qc5, qc6, qc7, qc8, qc9, qc10, qc11, qc12, qc13, qc14, qc15, qc16, qc17, qc18, qc19, qc20⟩ := gC_ok c hc
  by_cases hf : isF s f
  · have b5 := hw.1.2.2.2.2.2.1
    have hf1 : f < 5 := by have := hf.2; omega
    have hf0 : 0 ≤ f := hf.1
    have hf3 := hf.2
    have e1 := (hs.2.2.2.2.1 f.toNat (by omega) (by have := hf.2; omega)).1
    have b6 := (hw.2.2.1 f.toNat (by omega) (by have := hf.2; omega)).1
    simp (disch := omega) only [x3_0, x3_1, x3_2, x3_5, x3_8, x3_9, x3_10, x3_11, x3_14, x3_15, x3_16, x3_17, x3_18, x3_21, x3_24, x3_25, x3_28, x3_29, isF, isK, isH, mK, nl_i, nl_n, nl_o, nl_r, c1_i, c1_r, mPush, mRv, G0_1, true_and, and_true, and_self, implies_true, List.length_nil, List.length_cons, Nat.reduceAdd, Nat.reduceLeDiff, Nat.zero_le, beq_self_eq_true, Nat.reduceBEq, decide_true, Bool.and_self, reduceCtorEq, ne_eq, not_true_eq_false, not_false_eq_true, false_implies, true_implies, Nat.reduceLT, Nat.reduceEqDiff, or_true, true_or, or_false, false_or, or_self, Int.reduceEq, Int.reduceNe, Int.reduceLT, Int.reduceLE, Int.reduceAdd, Int.reduceSub, Int.reduceMul, Int.reduceNeg, Int.reduceToNat, if_true, if_false, Classical.not_not, Int.cast_ofNat_Int, qc0, qc1, qc2, qc3, qc4, qc5, qc6, qc7, qc8, qc9, qc10, qc11, qc12, qc13, qc14, qc15, qc16, qc17, qc18, qc19, qc20, ct2 hc hw hs, isF, hf0, hf3, hf1, e1, mWr_of, ct74, iz0, ite01, if_true, Int.reduceLT, Int.reduceNe, Int.reduceEq]
    by_cases hr : 0 ≤ r ∧ r < s (23 + 9 * f.toNat)
    · have hr2 : ¬ s (23 + 9 * f.toNat) ≤ r := by omega
      have hr3 : isR s f r := ⟨hf, hr⟩
      simp only [if_pos hr3]
      simp [hr, hr2, Int.le_sub_one_iff, Int.sub_one_lt_iff]
    · have hr3 : ¬ isR s f r := fun z => hr z.2
      simp only [if_neg hr3]
      by_cases hr4 : 0 ≤ r
      · have hr5 : s (23 + 9 * f.toNat) ≤ r := by omega
        have hr6 : ¬ r < s (23 + 9 * f.toNat) := by omega
        simp [hr4, hr5, hr6, Int.le_sub_one_iff, Int.sub_one_lt_iff]
      · simp [hr4]
  · simp (disch := omega) only [x3_0, x3_1, x3_2, x3_5, x3_8, x3_9, x3_10, x3_11, x3_14, x3_15, x3_16, x3_17, x3_18, x3_21, x3_24, x3_25, x3_28, x3_29, isF, isK, isH, mK, nl_i, nl_n, nl_o, nl_r, c1_i, c1_r, mPush, mRv, G0_1, true_and, and_true, and_self, implies_true, List.length_nil, List.length_cons, Nat.reduceAdd, Nat.reduceLeDiff, Nat.zero_le, beq_self_eq_true, Nat.reduceBEq, decide_true, Bool.and_self, reduceCtorEq, ne_eq, not_true_eq_false, not_false_eq_true, false_implies, true_implies, Nat.reduceLT, Nat.reduceEqDiff, or_true, true_or, or_false, false_or, or_self, Int.reduceEq, Int.reduceNe, Int.reduceLT, Int.reduceLE, Int.reduceAdd, Int.reduceSub, Int.reduceMul, Int.reduceNeg, Int.reduceToNat, if_true, if_false, Classical.not_not, Int.cast_ofNat_Int, qc0, qc1, qc2, qc3, qc4, qc5, qc6, qc7, qc8, qc9, qc10, qc11, qc12, qc13, qc14, qc15, qc16, qc17, qc18, qc19, qc20, ct2 hc hw hs, hf, if_false, Int.reduceEq]
    simp [isR, hf]
theorem ct5 (hc : c ∈ gCs) (hs : cRel μ c s) {a b : Int} (ha : isH a) (hb : isH b) : Wp E 5 0 [some (.inr (.inr (.inl c))), some (.inl a), some (.inl b)] [] G0 μ Q = Q (some (.inl (s (7 + (4 * a.toNat + b.toNat))))) G0 μ := by
  obtain ⟨qc0, qc1, qc2, qc3, qc4, qc5, qc6, qc7, qc8, qc9, qc10, qc11, qc12, qc13, qc14, qc15, qc16, qc17, qc18, qc19, qc20⟩ := gC_ok c hc
  have e1 := hs.2.2.2.1 (4 * a.toNat + b.toNat) (by omega)
  simp (disch := omega) only [x5_0, x5_1, x5_4, x5_5, x5_6, x5_7, x5_8, x5_9, x5_10, isF, isK, isH, mK, nl_i, nl_n, nl_o, nl_r, c1_i, c1_r, mPush, mRv, G0_1, true_and, and_true, and_self, implies_true, List.length_nil, List.length_cons, Nat.reduceAdd, Nat.reduceLeDiff, Nat.zero_le, beq_self_eq_true, Nat.reduceBEq, decide_true, Bool.and_self, reduceCtorEq, ne_eq, not_true_eq_false, not_false_eq_true, false_implies, true_implies, Nat.reduceLT, Nat.reduceEqDiff, or_true, true_or, or_false, false_or, or_self, Int.reduceEq, Int.reduceNe, Int.reduceLT, Int.reduceLE, Int.reduceAdd, Int.reduceSub, Int.reduceMul, Int.reduceNeg, Int.reduceToNat, if_true, if_false, Classical.not_not, Int.cast_ofNat_Int, qc0, qc1, qc2, qc3, qc4, qc5, qc6, qc7, qc8, qc9, qc10, qc11, qc12, qc13, qc14, qc15, qc16, qc17, qc18, qc19, qc20, mWr_of]
  have hq : (a * 4 + b).toNat = 4 * a.toNat + b.toNat := by omega
  rw [hq, e1]
  exact propext ⟨fun z => z.2, fun z => ⟨by omega, z⟩⟩
end CIRC
