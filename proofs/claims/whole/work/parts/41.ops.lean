/-! THE SEVEN CHANGES, BOTH SIDES -/
abbrev pAt (μ : MU) : Nat := rAt μ (μ 49 2).toNat
/-- the class behind a refused change, and behind one that is kept -/
def cA (μ μ' : MU) : Prop := (∀ x, (x < pAt μ ∨ pAt μ + 10 < x) → (x < 1 ∨ 11 < x) → μ' x = μ x) ∧ cRel μ' 1 (μ 177)
def cB (μ μ' : MU) (s' : Row) : Prop := (∀ x, (x < pAt μ ∨ pAt μ + 10 < x) → (x < 1 ∨ 11 < x) → ¬ x = 49 → μ' x = μ x) ∧ cRel μ' (pAt μ) (μ 177) ∧ cRel μ' 1 s' ∧ (μ' 49 2 = if μ 49 2 < 6 then μ 49 2 + 1 else μ 49 2) ∧ (μ' 49 1 = if μ 49 2 < 6 then μ 49 1 else (μ 49 1 + 1) % 7)
/-- the reference behind its records -/
def recs (μ μ' : MU) : Prop := (∀ x, ¬ x = 176 → ¬ x = 178 → μ' x = μ x) ∧ (∀ j, ¬ j = 0 → ¬ j = 3 → μ' 176 j = μ 176 j) ∧ (μ' 176 3 = if μ 176 3 < 6 then μ 176 3 + 1 else μ 176 3) ∧
  (μ 176 3 < 6 → ∀ i, μ' 178 i = if 148 * (μ 176 3).toNat ≤ i ∧ i < 148 * (μ 176 3).toNat + 148 then μ 177 (i - 148 * (μ 176 3).toNat) else μ 178 i) ∧
  (μ 176 3 = 6 → ∀ i, i < 888 → μ' 178 i = if i < 740 then μ 178 (i + 148) else μ 177 (i - 740))
theorem pAt_b (μ : MU) : 51 ≤ pAt μ ∧ pAt μ ≤ 117 := by unfold pAt rAt; omega
theorem cA_of {μ μ1 μ2 : MU} (f1 : frC (pAt μ) μ μ1) (f2 : frC 1 μ1 μ2) (hc : cRel μ2 1 (μ 177)) : cA μ μ2 :=
  ⟨fun x h1 h2 => by rw [f2 x h2, f1 x h1], hc⟩
theorem cB_of {μ μ1 μ2 : MU} {s' : Row} (hs : cRel μ 1 (μ 177)) (h1 : 0 ≤ μ 49 1 ∧ μ 49 1 ≤ 6) (h2 : 0 ≤ μ 49 2 ∧ μ 49 2 ≤ 6) (f1 : frC (pAt μ) μ μ1) (s1 : cSame μ1 (pAt μ) μ 1) (f2 : frC 1 μ1 μ2) (hc : cRel μ2 1 s') : cB μ (keepM μ2) s' := by
  have hb := pAt_b μ
  have e49 : μ2 49 = μ 49 := by rw [f2 49 (by omega), f1 49 (by omega)]
  have hk : ∀ x, ¬ x = 49 → keepM μ2 x = μ2 x := by
    intro x hx
    unfold keepM
    by_cases p1 : μ2 49 2 < 6
    · rw [if_pos p1, mUp_ne hx]
    · rw [if_neg p1, mUp_ne hx]
  refine ⟨fun x h3 h4 h5 => by rw [hk x h5, f2 x h4, f1 x h3], ?_, ?_, ?_, ?_⟩
  · refine cRel_fr (μ := μ1) (fun x h3 h4 => by rw [hk x (by omega), f2 x (by omega)]) ?_
    exact cSame_rel s1 hs
  · exact cRel_fr (fun x h3 h4 => hk x (by omega)) hc
  · unfold keepM
    by_cases p1 : μ2 49 2 < 6
    · rw [if_pos p1, mUp_eq, ← e49, if_pos p1]
    · rw [if_neg p1, mUp_nj (by omega), ← e49, if_neg p1]
  · unfold keepM
    by_cases p1 : μ2 49 2 < 6
    · rw [if_pos p1, mUp_nj (by omega), ← e49, if_pos p1]
    · rw [if_neg p1, mUp_eq, ← e49, if_neg p1]
theorem cRel_p {μ μ1 : MU} (f1 : frC (pAt μ) μ μ1) (hs : cRel μ 1 (μ 177)) : cRel μ1 1 (μ 177) := by
  have hb := pAt_b μ
  exact cRel_fr (fun x h3 h4 => f1 x (by omega)) hs
theorem e49_p {μ μ1 μ2 : MU} (f1 : frC (pAt μ) μ μ1) (f2 : frC 1 μ1 μ2) : μ2 49 = μ 49 := by
  have hb := pAt_b μ
  rw [f2 49 (by omega), f1 49 (by omega)]
theorem INV_ref {μ μ1 μ2 : MU} (hI : INV μ) (hA : cA μ μ1) (hf : ∀ x, ¬ x = 176 → μ2 x = μ1 x) (h176 : ∀ j, ¬ j = 0 → μ2 176 j = μ1 176 j) : INV μ2 := by
  obtain ⟨hw, hc, hh, hl, hp⟩ := hI
  have hb := pAt_b μ
  obtain ⟨a1, a2⟩ := hA
  have e : ∀ x, (x < pAt μ ∨ pAt μ + 10 < x) → (x < 1 ∨ 11 < x) → ¬ x = 176 → μ2 x = μ x := fun x q1 q2 q3 => by rw [hf x q3, a1 x q1 q2]
  have e3 : ∀ j, ¬ j = 0 → μ2 176 j = μ 176 j := fun j hj => by rw [h176 j hj, a1 176 (by omega) (by omega)]
  have e177 := e 177 (by omega) (by omega) (by omega)
  have e49 := e 49 (by omega) (by omega) (by omega)
  obtain ⟨g1, g2, g3, g4⟩ := hh
  refine ⟨by rw [e177]; exact hw, ?_, ⟨by rw [e49]; exact g1, by rw [e49, e3 3 (by omega)]; exact g2, by rw [e49]; exact g3, ?_⟩, ?_, ?_⟩
  · rw [e177]; exact cRel_fr (fun x q1 q2 => hf x (by omega)) a2
  · intro j hj hj2
    rw [e49] at hj2
    obtain ⟨q1, q2⟩ := g4 j hj hj2
    have er : rAt μ2 j = rAt μ j := by unfold rAt; rw [e49]
    have eh : hRow μ2 j = hRow μ j := by unfold hRow; rw [e 178 (by omega) (by omega) (by omega)]
    rw [er, eh]
    refine ⟨cRel_fr (fun x q3 q4 => ?_) q1, q2⟩
    unfold rAt at q3 q4
    apply e x _ (by omega) (by omega)
    unfold pAt rAt
    omega
  · intro i hi
    obtain ⟨q1, q2, q3⟩ := hl i hi
    have e132 := e 132 (by omega) (by omega) (by omega)
    have e180 := e 180 (by omega) (by omega) (by omega)
    have el : lRow μ2 i = lRow μ i := by unfold lRow; rw [e 179 (by omega) (by omega) (by omega)]
    rw [e132, e180, el]
    exact ⟨q1, q2, fun z => ⟨cRel_fr (fun x q4 q5 => e x (by omega) (by omega) (by omega)) (q3 z).1, (q3 z).2⟩⟩
  · unfold pRel
    rw [e 128 (by omega) (by omega) (by omega), e 129 (by omega) (by omega) (by omega), e 181 (by omega) (by omega) (by omega), e3 7 (by omega)]
    exact hp
theorem INV_keep {μ μ1 μ2 : MU} {s' : Row} (hI : INV μ) (hw' : wf s') (hB : cB μ μ1 s') (hR : recs μ1 μ2) : INV (mRow μ2 s') := by
  obtain ⟨hw, hc, hh, hl, hp⟩ := hI
  have hb := pAt_b μ
  obtain ⟨b1, b2, b3, b4, b5⟩ := hB
  obtain ⟨r1, r2, r3, r4, r5⟩ := hR
  have h3 : μ 176 3 = μ 49 2 := hh.2.1
  have e176 : μ1 176 = μ 176 := b1 176 (by omega) (by omega) (by omega)
  have e177 : μ1 177 = μ 177 := b1 177 (by omega) (by omega) (by omega)
  have e178 : μ1 178 = μ 178 := b1 178 (by omega) (by omega) (by omega)
  rw [e176, h3] at r3 r4 r5
  rw [e177, e178] at r4 r5
  have e : ∀ x, (x < pAt μ ∨ pAt μ + 10 < x) → (x < 1 ∨ 11 < x) → ¬ x = 49 → ¬ x = 176 → ¬ x = 177 → ¬ x = 178 → mRow μ2 s' x = μ x := fun x q1 q2 q3 q4 q5 q6 => by rw [mRow_ne q5, r1 x q4 q6, b1 x q1 q2 q3]
  have e2 : ∀ x, ¬ x = 176 → ¬ x = 177 → ¬ x = 178 → mRow μ2 s' x = μ1 x := fun x q4 q5 q6 => by rw [mRow_ne q5, r1 x q4 q6]
  refine ⟨by rw [mRow_177]; exact hw', ?_, ?_, ?_, ?_⟩
  · rw [mRow_177]; exact cRel_fr (fun x q1 q2 => e2 x (by omega) (by omega) (by omega)) b3
  · refine hRel_keep (μ := μ) hh hw ?_ ?_ ?_ ?_ ?_ ?_ ?_
    · exact cRel_fr (c := pAt μ) (fun x q1 q2 => e2 x (by omega) (by omega) (by omega)) b2
    · intro x q1 q2
      exact e x q2 (by omega) (by omega) (by omega) (by omega) (by omega)
    · rw [e2 49 (by omega) (by omega) (by omega)]; exact b4
    · rw [e2 49 (by omega) (by omega) (by omega)]; exact b5
    · rw [mRow_ne (by omega)]; exact r3
    · rw [mRow_ne (by omega)]; exact r4
    · rw [mRow_ne (by omega)]; exact r5
  · intro i hi
    obtain ⟨q1, q2, q3⟩ := hl i hi
    have e132 := e 132 (by omega) (by omega) (by omega) (by omega) (by omega) (by omega)
    have e180 := e 180 (by omega) (by omega) (by omega) (by omega) (by omega) (by omega)
    have el : lRow (mRow μ2 s') i = lRow μ i := by unfold lRow; rw [e 179 (by omega) (by omega) (by omega) (by omega) (by omega) (by omega)]
    rw [e132, e180, el]
    exact ⟨q1, q2, fun z => ⟨cRel_fr (fun x q4 q5 => e x (by omega) (by omega) (by omega) (by omega) (by omega) (by omega)) (q3 z).1, (q3 z).2⟩⟩
  · have e7 : mRow μ2 s' 176 7 = μ 176 7 := by rw [mRow_ne (by omega), r2 7 (by omega) (by omega), e176]
    unfold pRel
    rw [e 128 (by omega) (by omega) (by omega) (by omega) (by omega) (by omega), e 129 (by omega) (by omega) (by omega) (by omega) (by omega) (by omega), e 181 (by omega) (by omega) (by omega) (by omega) (by omega) (by omega), e7]
    exact hp
