theorem sh_step {A B C : Nat → Int} {j n : Nat} (hjn : j < n) (hB : ∀ i, B i = if i = j then A (j + 1) else A i) (hC : ∀ i, C i = if j + 1 ≤ i ∧ i < n then B (i + 1) else B i) : ∀ i, C i = if j ≤ i ∧ i < n then A (i + 1) else A i := by
  intro i
  rw [hC]
  by_cases hij : i = j
  · subst hij
    rw [if_neg (by omega), hB, if_pos rfl, if_pos (by omega)]
  · by_cases hq5 : j + 1 ≤ i ∧ i < n
    · rw [if_pos hq5, hB, if_neg (by omega), if_pos (by omega)]
    · rw [if_neg hq5, hB, if_neg hij, if_neg (by omega)]
section DROP
variable {E : ME} {Q : Option MV → MG → MU → Prop} {c : Nat} {s : Row}
theorem zq11 {n : Nat} (hc : c ∈ gCs) (hn : n ≤ 19) {k : Int} : ∀ (m j : Nat) (μ : MU), j + m = n → μ c 7 = n →
    (∀ μ' : MU, (∀ x, (x < c + 7 ∨ c + 10 < x) → μ' x = μ x) → (∀ i, μ' (c + 7) i = if j ≤ i ∧ i < n then μ (c + 7) (i + 1) else μ (c + 7) i) → (∀ i, μ' (c + 8) i = if j ≤ i ∧ i < n then μ (c + 8) (i + 1) else μ (c + 8) i) → (∀ i, μ' (c + 9) i = if j ≤ i ∧ i < n then μ (c + 9) (i + 1) else μ (c + 9) i) → (∀ i, μ' (c + 10) i = if j ≤ i ∧ i < n then μ (c + 10) (i + 1) else μ (c + 10) i) → Q (some (.inl n)) G0 μ') →
    Wp E 11 22 [some (.inr (.inr (.inl c))), some (.inl k), some (.inl j)] [] G0 μ Q := by
  obtain ⟨qc0, qc1, qc2, qc3, qc4, qc5, qc6, qc7, qc8, qc9, qc10, qc11, qc12, qc13, qc14, qc15, qc16, qc17, qc18, qc19, qc20⟩ := gC_ok c hc
  intro m
  induction m with
  | zero =>
    intro j μ hj h7 h
    have e1 : (n : Int) ≤ j := by omega
    have e2 : ¬ (j : Int) < n := by omega
    simp (disch := first | omega | exact rfl) only [x11_0, x11_1, x11_2, x11_5, x11_8, x11_9, x11_10, x11_11, x11_12, x11_15, x11_16, x11_17, x11_20, x11_21, x11_22, x11_23, x11_24, x11_27, x11_30, x11_31, x11_34, x11_35, x11_36, x11_39, x11_40, x11_41, x11_42, x11_43, x11_44, x11_45, x11_48, x11_49, x11_50, x11_53, x11_54, x11_55, x11_56, x11_57, x11_58, x11_59, x11_62, x11_63, x11_64, x11_67, x11_68, x11_69, x11_70, x11_71, x11_72, x11_73, x11_76, x11_77, x11_78, x11_81, x11_82, x11_83, x11_84, x11_85, x11_86, x11_92, x11_93, x11_96, isF, isK, isH, mK, nl_i, nl_n, nl_o, nl_r, c1_i, c1_r, mPush, mRv, G0_1, true_and, and_true, and_self, implies_true, List.length_nil, List.length_cons, Nat.reduceAdd, Nat.reduceLeDiff, Nat.zero_le, beq_self_eq_true, Nat.reduceBEq, decide_true, Bool.and_self, reduceCtorEq, ne_eq, not_true_eq_false, not_false_eq_true, false_implies, true_implies, Nat.reduceLT, Nat.reduceEqDiff, or_true, true_or, or_false, false_or, or_self, Int.reduceEq, Int.reduceNe, Int.reduceLT, Int.reduceLE, Int.reduceAdd, Int.reduceSub, Int.reduceMul, Int.reduceNeg, Int.reduceToNat, if_true, if_false, Classical.not_not, Int.cast_ofNat_Int, qc0, qc1, qc2, qc3, qc4, qc5, qc6, qc7, qc8, qc9, qc10, qc11, qc12, qc13, qc14, qc15, qc16, qc17, qc18, qc19, qc20, h7, e1, e2]
    apply h _ (fun _ _ => rfl)
    all_goals (intro i; rw [if_neg (by omega)])
  | succ m ih =>
    intro j μ hj h7 h
    have e1 : ¬ (n : Int) ≤ j := by omega
    have e2 : (j : Int) < n := by omega
    have e3 : ((j : Int) + 1).toNat = j + 1 := by omega
    have e4 : (j : Int) + 1 = ((j + 1 : Nat) : Int) := by omega
    simp (disch := first | omega | exact rfl) only [x11_0, x11_1, x11_2, x11_5, x11_8, x11_9, x11_10, x11_11, x11_12, x11_15, x11_16, x11_17, x11_20, x11_21, x11_22, x11_23, x11_24, x11_27, x11_30, x11_31, x11_34, x11_35, x11_36, x11_39, x11_40, x11_41, x11_42, x11_43, x11_44, x11_45, x11_48, x11_49, x11_50, x11_53, x11_54, x11_55, x11_56, x11_57, x11_58, x11_59, x11_62, x11_63, x11_64, x11_67, x11_68, x11_69, x11_70, x11_71, x11_72, x11_73, x11_76, x11_77, x11_78, x11_81, x11_82, x11_83, x11_84, x11_85, x11_86, x11_92, x11_93, x11_96, isF, isK, isH, mK, nl_i, nl_n, nl_o, nl_r, c1_i, c1_r, mPush, mRv, G0_1, true_and, and_true, and_self, implies_true, List.length_nil, List.length_cons, Nat.reduceAdd, Nat.reduceLeDiff, Nat.zero_le, beq_self_eq_true, Nat.reduceBEq, decide_true, Bool.and_self, reduceCtorEq, ne_eq, not_true_eq_false, not_false_eq_true, false_implies, true_implies, Nat.reduceLT, Nat.reduceEqDiff, or_true, true_or, or_false, false_or, or_self, Int.reduceEq, Int.reduceNe, Int.reduceLT, Int.reduceLE, Int.reduceAdd, Int.reduceSub, Int.reduceMul, Int.reduceNeg, Int.reduceToNat, if_true, if_false, Classical.not_not, Int.cast_ofNat_Int, qc0, qc1, qc2, qc3, qc4, qc5, qc6, qc7, qc8, qc9, qc10, qc11, qc12, qc13, qc14, qc15, qc16, qc17, qc18, qc19, qc20, h7, e1, e2, mWr_of, Int.toNat_natCast, e3, mUp_ne]
    repeat (refine And.intro (by omega) ?_)
    rw [x11_89, e4]
    refine ih (j + 1) _ (by omega) ?_ ?_
    · simp (disch := omega) only [mUp_ne]; exact h7
    intro μ' hf g1 g2 g3 g4
    apply h μ'
    · intro x hx
      rw [hf x hx]
      simp (disch := omega) only [mUp_ne]
    · exact sh_step (by omega) (fun i => by simp (disch := omega) only [mUp_ne, mUp_at]) g1
    · exact sh_step (by omega) (fun i => by simp (disch := omega) only [mUp_ne, mUp_at]) g2
    · exact sh_step (by omega) (fun i => by simp (disch := omega) only [mUp_ne, mUp_at]) g3
    · exact sh_step (by omega) (fun i => by simp (disch := omega) only [mUp_ne, mUp_at]) g4
/-- removeShow -/
theorem ct11 {μ : MU} (hc : c ∈ gCs) (hw : wf s) (hs : cRel μ c s) {k : Int} (hq : ∀ μ', frC c μ μ' → cRel μ' c (if isK s k then lDrop s k else s) → Q (some (.inl (if isK s k then s 6 - 1 else -1))) G0 μ') : Wp E 11 0 [some (.inr (.inr (.inl c))), some (.inl k), none] [] G0 μ Q := by
  obtain ⟨qc0, qc1, qc2, qc3, qc4, qc5, qc6, qc7, qc8, qc9, qc10, qc11, qc12, qc13, qc14, qc15, qc16, qc17, qc18, qc19, qc20⟩ := gC_ok c hc
  have w6 := hw.1.2.2.2.2.2.2
  have e1 := hs.2.2.1
  by_cases p1 : 0 ≤ k ∧ k < s 6
  · rw [if_pos p1, if_pos p1] at hq
    simp (disch := first | omega | exact rfl) only [x11_0, x11_1, x11_2, x11_5, x11_8, x11_9, x11_10, x11_11, x11_12, x11_15, x11_16, x11_17, x11_20, x11_21, isF, isK, isH, mK, nl_i, nl_n, nl_o, nl_r, c1_i, c1_r, mPush, mRv, G0_1, true_and, and_true, and_self, implies_true, List.length_nil, List.length_cons, Nat.reduceAdd, Nat.reduceLeDiff, Nat.zero_le, beq_self_eq_true, Nat.reduceBEq, decide_true, Bool.and_self, reduceCtorEq, ne_eq, not_true_eq_false, not_false_eq_true, false_implies, true_implies, Nat.reduceLT, Nat.reduceEqDiff, or_true, true_or, or_false, false_or, or_self, Int.reduceEq, Int.reduceNe, Int.reduceLT, Int.reduceLE, Int.reduceAdd, Int.reduceSub, Int.reduceMul, Int.reduceNeg, Int.reduceToNat, if_true, if_false, Classical.not_not, Int.cast_ofNat_Int, qc0, qc1, qc2, qc3, qc4, qc5, qc6, qc7, qc8, qc9, qc10, qc11, qc12, qc13, qc14, qc15, qc16, qc17, qc18, qc19, qc20, ct4 hc hw hs, p1, e1, mWr_of]
    have hk : some (Sum.inl k : MV) = some (Sum.inl ((k.toNat : Nat) : Int)) := by rw [Int.toNat_of_nonneg p1.1]
    have hn : s 6 - 1 = (((s 6).toNat - 1 : Nat) : Int) := by omega
    rw [hk]
    refine zq11 (n := (s 6).toNat - 1) hc (by omega) ((s 6).toNat - 1 - k.toNat) k.toNat _ (by omega) (by rw [mUp_eq]; exact hn) ?_
    intro μ' hf g1 g2 g3 g4
    rw [← hn]
    apply hq
    · intro x hx
      rw [hf x (by omega), mUp_ne (by omega)]
    · obtain ⟨b1, b2, b3, b4, b5, b6, b7⟩ := hs
      refine ⟨fun i hi => ?_, ?_, ?_, fun i hi => ?_, fun f' hf1 hf2 => ?_, fun f' r' hf1 hf2 => ?_, fun k' hk1 hk2 => ?_⟩
      · have q := b1 i hi; rw [hf _ (by omega), mUp_ne (by omega)]; simp only [lDrop]; omega
      · rw [hf _ (by omega), mUp_nj (by omega)]; simp only [lDrop]; omega
      · rw [hf _ (by omega), mUp_eq]; simp only [lDrop, if_true]
      · have q := b4 i hi; rw [hf _ (by omega), mUp_ne (by omega)]; simp only [lDrop]; omega
      · have q := b5 f' hf1; rw [hf _ (by omega), mUp_ne (by omega), hf _ (by omega), mUp_ne (by omega), hf _ (by omega), mUp_ne (by omega)]; simp only [lDrop] at *; omega
      · have q := b6 f' r' hf1 hf2; rw [hf _ (by omega), mUp_ne (by omega)]; simp only [lDrop] at *; omega
      · have hk3 : (k' : Int) < s 6 - 1 := by simp only [lDrop, if_true] at hk2; omega
        have q := b7 k' hk1 (by omega)
        have q' := b7 (k' + 1) (by omega) (by omega)
        rw [g1, g2, g3, g4, mUp_ne (by omega), mUp_ne (by omega), mUp_ne (by omega), mUp_ne (by omega)]
        have e5 : 68 + 4 * (k' + 1) = 68 + 4 * k' + 4 := by omega
        have e6 : 69 + 4 * (k' + 1) = 69 + 4 * k' + 4 := by omega
        have e7 : 70 + 4 * (k' + 1) = 70 + 4 * k' + 4 := by omega
        have e8 : 71 + 4 * (k' + 1) = 71 + 4 * k' + 4 := by omega
        rw [e5, e6, e7, e8] at q'
        simp only [lDrop]
        omega
  · rw [if_neg p1, if_neg p1] at hq
    simp (disch := first | omega | exact rfl) only [x11_0, x11_1, x11_2, x11_5, x11_8, x11_9, isF, isK, isH, mK, nl_i, nl_n, nl_o, nl_r, c1_i, c1_r, mPush, mRv, G0_1, true_and, and_true, and_self, implies_true, List.length_nil, List.length_cons, Nat.reduceAdd, Nat.reduceLeDiff, Nat.zero_le, beq_self_eq_true, Nat.reduceBEq, decide_true, Bool.and_self, reduceCtorEq, ne_eq, not_true_eq_false, not_false_eq_true, false_implies, true_implies, Nat.reduceLT, Nat.reduceEqDiff, or_true, true_or, or_false, false_or, or_self, Int.reduceEq, Int.reduceNe, Int.reduceLT, Int.reduceLE, Int.reduceAdd, Int.reduceSub, Int.reduceMul, Int.reduceNeg, Int.reduceToNat, if_true, if_false, Classical.not_not, Int.cast_ofNat_Int, qc0, qc1, qc2, qc3, qc4, qc5, qc6, qc7, qc8, qc9, qc10, qc11, qc12, qc13, qc14, qc15, qc16, qc17, qc18, qc19, qc20, ct4 hc hw hs, p1]
    exact hq μ (fun _ _ => rfl) hs
end DROP
/-! THE ROWS BEHIND A CHANGE ARE WELL FORMED -/
section WF
variable {s : Row}
theorem wf_set (hw : wf s) {a v : Int} (hk : okSet a v) : wf (up s a.toNat v) := by
  obtain ⟨h1, h2, h3, h4⟩ := hw
  have hu : ∀ i, 5 ≤ i → up s a.toNat v i = s i := fun i hi => up_ne (by unfold okSet at hk; omega)
  refine ⟨?_, ?_, ?_, ?_⟩
  · rw [hu 5 (by omega), hu 6 (by omega)]
    unfold okSet at hk
    have : a = 0 ∨ a = 1 ∨ a = 2 ∨ a = 3 ∨ a = 4 := by omega
    rcases this with rfl | rfl | rfl | rfl | rfl <;> simp [up] at hk ⊢ <;> omega
  · intro x y hx hy
    rw [hu _ (by omega)]
    exact h2 x y hx hy
  · intro f hf hf2
    rw [hu _ (by omega)] at hf2
    rw [hu _ (by omega), hu _ (by omega), hu _ (by omega)]
    obtain ⟨q1, q2, q3, q4⟩ := h3 f hf hf2
    refine ⟨q1, q2, q3, fun r hr => ?_⟩
    rw [hu _ (by omega)]
    exact q4 r hr
  · intro k hk1 hk2
    rw [hu _ (by omega)] at hk2
    rw [hu _ (by omega), hu _ (by omega), hu _ (by omega), hu _ (by omega), hu _ (by omega)]
    exact h4 k hk1 hk2
theorem wf_film (hw : wf s) {r h t : Int} (h0 : rFilm s r h t = 0) : wf (lFilm s r h t) := by
  obtain ⟨h1, h2, h3, h4⟩ := hw
  have c1 : (1 ≤ r ∧ r ≤ 6) ∧ (0 ≤ t ∧ t ≤ 100) ∧ (0 ≤ h ∧ h ≤ 3) ∧ ¬ s 5 = 5 := by unfold rFilm at h0; omega
  have e5 : lFilm s r h t 5 = s 5 + 1 := by simp [lFilm]
  have eo : ∀ i, ¬ i = 5 → (i < 23 ∨ 68 ≤ i) → lFilm s r h t i = s i := by
    intro i hi hj; simp only [lFilm]; omega
  have hn : (s 5).toNat ≤ 4 := by omega
  refine ⟨?_, ?_, ?_, ?_⟩
  · rw [e5, eo 0 (by omega) (by omega), eo 1 (by omega) (by omega), eo 2 (by omega) (by omega), eo 3 (by omega) (by omega), eo 4 (by omega) (by omega), eo 6 (by omega) (by omega)]
    omega
  · intro x y hx hy
    rw [eo _ (by omega) (by omega)]
    exact h2 x y hx hy
  · intro f hf hf2
    rw [e5] at hf2
    by_cases hfn : (f : Int) < s 5
    · obtain ⟨q1, q2, q3, q4⟩ := h3 f hf hfn
      have u1 : lFilm s r h t (23 + 9 * f) = s (23 + 9 * f) := by simp only [lFilm]; omega
      have u2 : lFilm s r h t (24 + 9 * f) = s (24 + 9 * f) := by simp only [lFilm]; omega
      have u3 : lFilm s r h t (25 + 9 * f) = s (25 + 9 * f) := by simp only [lFilm]; omega
      rw [u1, u2, u3]
      refine ⟨q1, q2, q3, fun r' hr => ?_⟩
      have u4 : lFilm s r h t (26 + 9 * f + r') = s (26 + 9 * f + r') := by simp only [lFilm]; omega
      rw [u4]
      exact q4 r' hr
    · have u1 : lFilm s r h t (23 + 9 * f) = r := by simp only [lFilm]; omega
      have u2 : lFilm s r h t (24 + 9 * f) = h := by simp only [lFilm]; omega
      have u3 : lFilm s r h t (25 + 9 * f) = t := by simp only [lFilm]; omega
      rw [u1, u2, u3]
      refine ⟨c1.1, c1.2.2.1, c1.2.1, fun r' hr => ?_⟩
      have u4 : lFilm s r h t (26 + 9 * f + r') = 0 := by simp only [lFilm]; omega
      rw [u4]
      omega
  · intro k hk1 hk2
    rw [eo _ (by omega) (by omega)] at hk2
    rw [e5, eo _ (by omega) (by omega), eo _ (by omega) (by omega), eo _ (by omega) (by omega), eo _ (by omega) (by omega)]
    have := h4 k hk1 hk2
    omega
theorem wf_way (hw : wf s) {a b m : Int} (h0 : rWay a b m = 0) : wf (lWay s a b m) := by
  obtain ⟨h1, h2, h3, h4⟩ := hw
  have c1 : (0 ≤ a ∧ a ≤ 3) ∧ (0 ≤ b ∧ b ≤ 3) ∧ ¬ a = b ∧ (1 ≤ m ∧ m ≤ 99) := by unfold rWay at h0; omega
  have eo : ∀ i, (i < 7 ∨ 23 ≤ i) → lWay s a b m i = s i := by
    intro i hj; simp only [lWay]; omega
  refine ⟨?_, ?_, ?_, ?_⟩
  · rw [eo 0 (by omega), eo 1 (by omega), eo 2 (by omega), eo 3 (by omega), eo 4 (by omega), eo 5 (by omega), eo 6 (by omega)]
    exact h1
  · intro x y hx hy
    have q := h2 x y hx hy
    simp only [lWay]
    omega
  · intro f hf hf2
    rw [eo _ (by omega)] at hf2
    rw [eo _ (by omega), eo _ (by omega), eo _ (by omega)]
    obtain ⟨q1, q2, q3, q4⟩ := h3 f hf hf2
    refine ⟨q1, q2, q3, fun r hr => ?_⟩
    rw [eo _ (by omega)]
    exact q4 r hr
  · intro k hk1 hk2
    rw [eo _ (by omega)] at hk2
    rw [eo _ (by omega), eo _ (by omega), eo _ (by omega), eo _ (by omega), eo _ (by omega)]
    exact h4 k hk1 hk2
theorem wf_show (hw : wf s) {f h m t : Int} (h0 : rShow s f h m t = 0) : wf (lShow s f h m t) := by
  obtain ⟨h1, h2, h3, h4⟩ := hw
  have c1 : (0 ≤ f ∧ f < s 5) ∧ (0 ≤ h ∧ h ≤ 3) ∧ (0 ≤ m ∧ m ≤ 1439) ∧ (0 ≤ t ∧ t ≤ 999) ∧ ¬ s 6 = 20 := by unfold rShow at h0; omega
  have e6 : lShow s f h m t 6 = s 6 + 1 := by simp [lShow]
  have eo : ∀ i, ¬ i = 6 → i < 68 → lShow s f h m t i = s i := by
    intro i hi hj; simp only [lShow]; omega
  refine ⟨?_, ?_, ?_, ?_⟩
  · rw [e6, eo 0 (by omega) (by omega), eo 1 (by omega) (by omega), eo 2 (by omega) (by omega), eo 3 (by omega) (by omega), eo 4 (by omega) (by omega), eo 5 (by omega) (by omega)]
    omega
  · intro x y hx hy
    rw [eo _ (by omega) (by omega)]
    exact h2 x y hx hy
  · intro f' hf hf2
    rw [eo _ (by omega) (by omega)] at hf2
    rw [eo _ (by omega) (by omega), eo _ (by omega) (by omega), eo _ (by omega) (by omega)]
    obtain ⟨q1, q2, q3, q4⟩ := h3 f' hf hf2
    refine ⟨q1, q2, q3, fun r hr => ?_⟩
    rw [eo _ (by omega) (by omega)]
    exact q4 r hr
  · intro k hk1 hk2
    rw [e6] at hk2
    have q := h4 k hk1
    rw [eo 5 (by omega) (by omega)]
    simp only [lShow]
    omega
theorem wf_drop (hw : wf s) {k : Int} (h0 : isK s k) : wf (lDrop s k) := by
  obtain ⟨h1, h2, h3, h4⟩ := hw
  have e6 : lDrop s k 6 = s 6 - 1 := by simp [lDrop]
  have eo : ∀ i, ¬ i = 6 → i < 68 → lDrop s k i = s i := by
    intro i hi hj; simp only [lDrop]; omega
  refine ⟨?_, ?_, ?_, ?_⟩
  · rw [e6, eo 0 (by omega) (by omega), eo 1 (by omega) (by omega), eo 2 (by omega) (by omega), eo 3 (by omega) (by omega), eo 4 (by omega) (by omega), eo 5 (by omega) (by omega)]
    omega
  · intro x y hx hy
    rw [eo _ (by omega) (by omega)]
    exact h2 x y hx hy
  · intro f' hf hf2
    rw [eo _ (by omega) (by omega)] at hf2
    rw [eo _ (by omega) (by omega), eo _ (by omega) (by omega), eo _ (by omega) (by omega)]
    obtain ⟨q1, q2, q3, q4⟩ := h3 f' hf hf2
    refine ⟨q1, q2, q3, fun r hr => ?_⟩
    rw [eo _ (by omega) (by omega)]
    exact q4 r hr
  · intro k' hk1 hk2
    rw [e6] at hk2
    have q := h4 k' hk1 (by omega)
    have q' := h4 (k' + 1) (by omega) (by omega)
    have e5 : 68 + 4 * (k' + 1) = 68 + 4 * k' + 4 := by omega
    have e6 : 69 + 4 * (k' + 1) = 69 + 4 * k' + 4 := by omega
    have e7 : 70 + 4 * (k' + 1) = 70 + 4 * k' + 4 := by omega
    have e8 : 71 + 4 * (k' + 1) = 71 + 4 * k' + 4 := by omega
    rw [e5, e6, e7, e8] at q'
    rw [eo 5 (by omega) (by omega)]
    simp only [lDrop]
    omega
theorem wf_tear (hw : wf s) {f r v : Int} (h0 : isR s f r) (hv : 0 ≤ v ∧ v ≤ 1440) : wf (lTear s f r v) := by
  obtain ⟨h1, h2, h3, h4⟩ := hw
  obtain ⟨⟨r1, r2⟩, r3, r4⟩ := h0
  have w1 := (h3 f.toNat (by omega) (by omega)).1
  have eo : ∀ i, ¬ i = 26 + 9 * f.toNat + r.toNat → lTear s f r v i = s i := fun i hi => up_ne hi
  refine ⟨?_, ?_, ?_, ?_⟩
  · rw [eo 0 (by omega), eo 1 (by omega), eo 2 (by omega), eo 3 (by omega), eo 4 (by omega), eo 5 (by omega), eo 6 (by omega)]
    exact h1
  · intro x y hx hy
    rw [eo _ (by omega)]
    exact h2 x y hx hy
  · intro f' hf hf2
    rw [eo _ (by omega)] at hf2
    rw [eo _ (by omega), eo _ (by omega), eo _ (by omega)]
    obtain ⟨q1, q2, q3, q4⟩ := h3 f' hf hf2
    refine ⟨q1, q2, q3, fun r' hr => ?_⟩
    by_cases e : f' = f.toNat ∧ r' = r.toNat
    · obtain ⟨rfl, rfl⟩ := e
      have u : lTear s f r v (26 + 9 * f.toNat + r.toNat) = v := up_eq
      rw [u]
      omega
    · rw [eo _ (by omega)]
      exact q4 r' hr
  · intro k hk1 hk2
    rw [eo _ (by omega)] at hk2
    rw [eo _ (by omega), eo _ (by omega), eo _ (by omega), eo _ (by omega), eo _ (by omega)]
    exact h4 k hk1 hk2
end WF
