theorem INV_thr {μ : MU} (hI : INV μ) : INV (mUp μ 176 0 0) := by
  refine INV_pad hI (fun x _ _ _ hq4 _ _ => mUp_ne hq4) (mUp_nj (by omega)) ?_
  unfold pRel
  rw [mUp_nj (by omega), mUp_ne (by omega), mUp_ne (by omega), mUp_ne (by omega)]
  exact hI.2.2.2.2
/-- behind a save of slot p -/
theorem INV_save {μ μ' : MU} {p : Nat} (hI : INV μ) (hp : p ≤ 1) (f : ∀ x, (x < 154 + 11 * p ∨ 164 + 11 * p < x) → ¬ x = 132 → ¬ x = 179 → ¬ x = 180 → ¬ x = 176 → μ' x = μ x) (h176 : ∀ j, ¬ j = 0 → μ' 176 j = μ 176 j)
    (hc : cRel μ' (154 + 11 * p) (μ 177)) (h132 : ∀ i, μ' 132 i = if i = p then 1 else μ 132 i) (h180 : ∀ i, μ' 180 i = if i = p then 1 else μ 180 i)
    (h179 : ∀ i, μ' 179 i = if 148 * p ≤ i ∧ i < 148 * p + 148 then μ 177 (i - 148 * p) else μ 179 i) : INV μ' := by
  obtain ⟨hw, hcc, hh, hl, hpp⟩ := hI
  have e177 : μ' 177 = μ 177 := f 177 (by omega) (by omega) (by omega) (by omega) (by omega)
  have e178 : μ' 178 = μ 178 := f 178 (by omega) (by omega) (by omega) (by omega) (by omega)
  have e49 : μ' 49 = μ 49 := f 49 (by omega) (by omega) (by omega) (by omega) (by omega)
  refine ⟨by rw [e177]; exact hw, ?_, ?_, ?_, ?_⟩
  · rw [e177]; exact cRel_fr (fun x q1 q2 => f x (by omega) (by omega) (by omega) (by omega) (by omega)) hcc
  · unfold hRel
    rw [e49, h176 3 (by omega)]
    refine ⟨hh.1, hh.2.1, hh.2.2.1, fun j hj hj2 => ?_⟩
    obtain ⟨q1, q2⟩ := hh.2.2.2 j hj hj2
    have er : rAt μ' j = rAt μ j := by unfold rAt; rw [e49]
    have eh : hRow μ' j = hRow μ j := by unfold hRow; rw [e178]
    rw [er, eh]
    refine ⟨cRel_fr (fun x q3 q4 => ?_) q1, q2⟩
    unfold rAt at q3 q4
    exact f x (by omega) (by omega) (by omega) (by omega) (by omega)
  · intro i hi
    obtain ⟨q1, q2, q3⟩ := hl i hi
    rw [h132, h180]
    by_cases hip : i = p
    · subst hip
      rw [if_pos rfl, if_pos rfl]
      have eR : ∀ k, k < 148 → lRow μ' i k = μ 177 k := by
        intro k hk
        unfold lRow
        rw [h179, if_pos (by omega)]
        congr 1; omega
      exact ⟨by omega, rfl, fun _ => ⟨rEq_cRel eR hc, rEq_wf eR hw⟩⟩
    · rw [if_neg hip, if_neg hip]
      have eR : ∀ k, k < 148 → lRow μ' i k = lRow μ i k := by
        intro k hk
        unfold lRow
        rw [h179, if_neg (by omega)]
      refine ⟨q1, q2, fun z => ⟨rEq_cRel eR ?_, rEq_wf eR (q3 z).2⟩⟩
      exact cRel_fr (fun x q4 q5 => f x (by omega) (by omega) (by omega) (by omega) (by omega)) (q3 z).1
  · unfold pRel
    rw [f 128 (by omega) (by omega) (by omega) (by omega) (by omega), f 129 (by omega) (by omega) (by omega) (by omega) (by omega), f 181 (by omega) (by omega) (by omega) (by omega) (by omega), h176 7 (by omega)]
    exact hpp
