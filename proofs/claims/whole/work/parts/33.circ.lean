/-! THE CIRCUIT: memory rules, its small methods -/
theorem mUp_ne {μ : MU} {a i : Nat} {v : Int} {x : Nat} (h : ¬ x = a) : mUp μ a i v x = μ x := by
  funext j; unfold mUp; exact if_neg (fun z => h z.1)
theorem mUp_at {μ : MU} {a i : Nat} {v : Int} {j : Nat} : mUp μ a i v a j = if j = i then v else μ a j := by simp [mUp]
theorem mUp_eq {μ : MU} {a i : Nat} {v : Int} : mUp μ a i v a i = v := by simp [mUp]
theorem mUp_nj {μ : MU} {a i : Nat} {v : Int} {j : Nat} (h : ¬ j = i) : mUp μ a i v a j = μ a j := by simp [mUp, h]
theorem mCpy_ne {μ : MU} {a0 sp a dp n x : Nat} (h : ¬ x = a) : mCpy μ a0 sp a dp n x = μ x := by
  funext j; unfold mCpy; exact if_neg (fun z => h z.1)
theorem mCpy_at {μ : MU} {a0 sp a dp n j : Nat} : mCpy μ a0 sp a dp n a j = if dp ≤ j ∧ j < dp + n then μ a0 (sp + (j - dp)) else μ a j := by simp [mCpy]
theorem mCpy_0 {μ : MU} {a0 a n j : Nat} (h : j < n) : mCpy μ a0 0 a 0 n a j = μ a0 j := by simp [mCpy, h]
def up (s : Row) (i : Nat) (v : Int) : Row := fun j => if j = i then v else s j
theorem up_eq {s : Row} {i : Nat} {v : Int} : up s i v i = v := by simp [up]
theorem up_ne {s : Row} {i j : Nat} {v : Int} (h : ¬ j = i) : up s i v j = s j := by simp [up, h]
def mRow (μ : MU) (r : Row) : MU := fun x => if x = 177 then r else μ x
theorem mUp_row {μ : MU} {i : Nat} {v : Int} : mUp μ 177 i v = mRow μ (up (μ 177) i v) := by
  funext x j
  by_cases h : x = 177
  · subst h; simp [mUp, mRow, up]
  · simp [mUp, mRow, h]
theorem mRow_row {μ : MU} {r r' : Row} : mRow (mRow μ r) r' = mRow μ r' := by
  funext x; by_cases h : x = 177 <;> simp [mRow, h]
theorem mRow_177 {μ : MU} {r : Row} : mRow μ r 177 = r := by simp [mRow]
theorem mRow_ne {μ : MU} {r : Row} {x : Nat} (h : ¬ x = 177) : mRow μ r x = μ x := by simp [mRow, h]
theorem iz0 {p : Prop} [Decidable p] : ((if p then (1 : Int) else 0) = 0) = ¬ p := by by_cases h : p <;> simp [h]
def cSame (μ' : MU) (c : Nat) (μ : MU) (d : Nat) : Prop :=
  μ' c 2 = μ d 2 ∧ μ' c 7 = μ d 7 ∧ (∀ i : Nat, i < 5 → μ' (c + 1) i = μ (d + 1) i) ∧ (∀ i : Nat, i < 16 → μ' (c + 2) i = μ (d + 2) i) ∧ (∀ i : Nat, i < 5 → μ' (c + 3) i = μ (d + 3) i) ∧ (∀ i : Nat, i < 5 → μ' (c + 4) i = μ (d + 4) i) ∧ (∀ i : Nat, i < 5 → μ' (c + 5) i = μ (d + 5) i) ∧ (∀ i : Nat, i < 30 → μ' (c + 6) i = μ (d + 6) i) ∧ (∀ i : Nat, i < 20 → μ' (c + 7) i = μ (d + 7) i) ∧ (∀ i : Nat, i < 20 → μ' (c + 8) i = μ (d + 8) i) ∧ (∀ i : Nat, i < 20 → μ' (c + 9) i = μ (d + 9) i) ∧ (∀ i : Nat, i < 20 → μ' (c + 10) i = μ (d + 10) i)
theorem cSame_rel {μ μ' : MU} {c d : Nat} {s : Row} (h : cSame μ' c μ d) (hs : cRel μ d s) : cRel μ' c s := by
  obtain ⟨a1, a2, a3, a4, a5, a6, a7, a8, a9, a10, a11, a12⟩ := h
  obtain ⟨b1, b2, b3, b4, b5, b6, b7⟩ := hs
  refine ⟨fun i hi => by rw [a3 i hi, b1 i hi], by rw [a1, b2], by rw [a2, b3], fun i hi => by rw [a4 i hi, b4 i hi], fun f hf hf2 => ?_, fun f r hf hr => ?_, fun k hk hk2 => ?_⟩
  · rw [a5 f hf, a6 f hf, a7 f hf]; exact b5 f hf hf2
  · rw [a8 _ (by omega)]; exact b6 f r hf hr
  · rw [a9 k hk, a10 k hk, a11 k hk, a12 k hk]; exact b7 k hk hk2
section CIRC
variable {E : ME} {μ : MU} {Q : Option MV → MG → MU → Prop} {c : Nat} {s : Row}
/-- takeOver -/
theorem ct1 {d : Nat} (hc : c ∈ gCs) (hd : d ∈ gCs) (hcd : c + 10 < d ∨ d + 10 < c) (h : ∀ μ', (∀ x, (x < c ∨ c + 10 < x) → μ' x = μ x) → cSame μ' c μ d → Q none G0 μ') : Wp E 1 0 [some (.inr (.inr (.inl c))), some (.inr (.inr (.inl d)))] [] G0 μ Q := by
  obtain ⟨qc0, qc1, qc2, qc3, qc4, qc5, qc6, qc7, qc8, qc9, qc10, qc11, qc12, qc13, qc14, qc15, qc16, qc17, qc18, qc19, qc20⟩ := gC_ok c hc
  obtain ⟨qd0, qd1, qd2, qd3, qd4, qd5, qd6, qd7, qd8, qd9, qd10, qd11, qd12, qd13, qd14, qd15, qd16, qd17, qd18, qd19, qd20⟩ := gC_ok d hd
  simp (disch := omega) only [x1_0, x1_1, x1_4, x1_5, x1_6, x1_9, x1_10, x1_11, x1_14, x1_15, x1_18, x1_19, x1_20, x1_23, x1_24, x1_26, x1_29, x1_30, x1_31, x1_34, x1_37, x1_38, x1_41, x1_42, x1_43, x1_46, x1_47, x1_48, x1_51, x1_52, x1_55, x1_56, x1_57, x1_60, x1_61, x1_62, x1_65, x1_66, x1_69, x1_70, x1_71, x1_74, x1_75, x1_76, x1_79, x1_80, x1_83, x1_84, x1_85, x1_88, x1_89, x1_91, x1_94, x1_95, x1_96, x1_99, x1_102, x1_103, x1_106, x1_107, x1_108, x1_111, x1_112, x1_114, x1_117, x1_118, x1_121, x1_122, x1_123, x1_126, x1_127, x1_129, x1_132, x1_133, x1_136, x1_137, x1_138, x1_141, x1_142, x1_144, x1_147, x1_148, x1_151, x1_152, x1_153, x1_156, x1_157, x1_159, x1_162, mK, nl_i, nl_n, nl_o, nl_r, c1_i, c1_r, mPush, mRv, G0_1, true_and, and_true, and_self, implies_true, List.length_nil, List.length_cons, Nat.reduceAdd, Nat.reduceLeDiff, Nat.zero_le, beq_self_eq_true, Nat.reduceBEq, decide_true, Bool.and_self, reduceCtorEq, ne_eq, not_true_eq_false, not_false_eq_true, false_implies, true_implies, Nat.reduceLT, Nat.reduceEqDiff, or_true, true_or, or_false, false_or, or_self, Int.reduceEq, Int.reduceNe, Int.reduceLT, Int.reduceLE, Int.reduceAdd, Int.reduceSub, Int.reduceMul, Int.reduceNeg, Int.reduceToNat, if_true, if_false, Classical.not_not, Int.cast_ofNat_Int, qc0, qc1, qc2, qc3, qc4, qc5, qc6, qc7, qc8, qc9, qc10, qc11, qc12, qc13, qc14, qc15, qc16, qc17, qc18, qc19, qc20, qd0, qd1, qd2, qd3, qd4, qd5, qd6, qd7, qd8, qd9, qd10, qd11, qd12, qd13, qd14, qd15, qd16, qd17, qd18, qd19, qd20, mUp_ne, Int.reduceToNat]
  repeat (refine And.intro (by omega) ?_)
  apply h
  · intro x hx
    simp (disch := omega) only [mUp_ne, mCpy_ne]
  · unfold cSame
    refine ⟨?_, ?_, ?_, ?_, ?_, ?_, ?_, ?_, ?_, ?_, ?_, ?_⟩
    · simp (disch := omega) only [mUp_ne, mUp_nj, mUp_eq, mCpy_ne]
    · simp (disch := omega) only [mUp_ne, mUp_nj, mUp_eq, mCpy_ne]
    all_goals (intro i hi; simp (disch := omega) only [mUp_ne, mUp_nj, mUp_eq, mCpy_ne, mCpy_0])
end CIRC
