section PUT
variable {E : ME} {Q : Option MV → MG → MU → Prop}
def lcm (a b : Int) : Int := if a < b then -1 else if a = b then 0 else 1
theorem y19_18 {ls : MLs} {st : List MV} {g : MG} {μ : MU} {a b : Int} : Wp E 19 18 ls (.inr (.inl b) :: .inr (.inl a) :: st) g μ Q = Wp E 19 19 ls (.inl (lcm a b) :: st) g μ Q := x19_18
theorem y19_31 {ls : MLs} {st : List MV} {g : MG} {μ : MU} {a b : Int} : Wp E 19 31 ls (.inr (.inl b) :: .inr (.inl a) :: st) g μ Q = Wp E 19 32 ls (.inl (lcm a b) :: st) g μ Q := x19_31
theorem y19_44 {ls : MLs} {st : List MV} {g : MG} {μ : MU} {a b : Int} : Wp E 19 44 ls (.inr (.inl b) :: .inr (.inl a) :: st) g μ Q = Wp E 19 45 ls (.inl (lcm a b) :: st) g μ Q := x19_44
theorem y19_71 {ls : MLs} {st : List MV} {g : MG} {μ : MU} {a b : Int} : Wp E 19 71 ls (.inr (.inl b) :: .inr (.inl a) :: st) g μ Q = Wp E 19 72 ls (.inl (lcm a b) :: st) g μ Q := x19_71
theorem y127_26 {ls : MLs} {st : List MV} {g : MG} {μ : MU} {a b : Int} : Wp E 127 26 ls (.inr (.inl b) :: .inr (.inl a) :: st) g μ Q = Wp E 127 27 ls (.inl (lcm a b) :: st) g μ Q := x127_26
theorem y127_84 {ls : MLs} {st : List MV} {g : MG} {μ : MU} {a b : Int} : Wp E 127 84 ls (.inr (.inl b) :: .inr (.inl a) :: st) g μ Q = Wp E 127 85 ls (.inl (lcm a b) :: st) g μ Q := x127_84
theorem lc_eq {a b : Int} : (lcm a b = 0) = (a = b) := by
  unfold lcm
  by_cases p : a < b
  · rw [if_pos p]; exact propext ⟨fun z => by omega, fun z => by omega⟩
  · rw [if_neg p]; by_cases q : a = b
    · rw [if_pos q]; exact propext ⟨fun _ => q, fun _ => rfl⟩
    · rw [if_neg q]; exact propext ⟨fun z => by omega, fun z => by omega⟩
theorem lc_lt {a b : Int} : (lcm a b < 0) = (a < b) := by
  unfold lcm
  by_cases p : a < b
  · rw [if_pos p]; exact propext ⟨fun _ => p, fun _ => by omega⟩
  · rw [if_neg p]; by_cases q : a = b
    · rw [if_pos q]; exact propext ⟨fun z => by omega, fun z => by omega⟩
    · rw [if_neg q]; exact propext ⟨fun z => by omega, fun z => by omega⟩
theorem lc_ge {a b : Int} : (0 ≤ lcm a b) = (b ≤ a) := by
  unfold lcm
  by_cases p : a < b
  · rw [if_pos p]; exact propext ⟨fun z => by omega, fun z => by omega⟩
  · rw [if_neg p]; by_cases q : a = b
    · rw [if_pos q]; exact propext ⟨fun z => by omega, fun z => by omega⟩
    · rw [if_neg q]; exact propext ⟨fun z => by omega, fun z => by omega⟩
theorem lc_le {a b : Int} : (lcm a b ≤ 0) = (a ≤ b) := by
  unfold lcm
  by_cases p : a < b
  · rw [if_pos p]; exact propext ⟨fun z => by omega, fun z => by omega⟩
  · rw [if_neg p]; by_cases q : a = b
    · rw [if_pos q]; exact propext ⟨fun z => by omega, fun z => by omega⟩
    · rw [if_neg q]; exact propext ⟨fun z => by omega, fun z => by omega⟩
theorem lc_gt {a b : Int} : (0 < lcm a b) = (b < a) := by
  unfold lcm
  by_cases p : a < b
  · rw [if_pos p]; exact propext ⟨fun z => by omega, fun z => by omega⟩
  · rw [if_neg p]; by_cases q : a = b
    · rw [if_pos q]; exact propext ⟨fun z => by omega, fun z => by omega⟩
    · rw [if_neg q]; exact propext ⟨fun z => by omega, fun z => by omega⟩
/-- what is left of v behind k characters -/
def rs (v : Int) : Nat → Int
  | 0 => v
  | k + 1 => mLushr (rs v k) 8
def bt (v : Int) (k : Nat) : Int := mLand (rs v k) 255
def nB (v : Int) : Nat → Nat → Nat
  | 0, k => k
  | m + 1, k => if bt v k = 0 then k else nB v m (k + 1)
def okF (v : Int) : Nat → Nat → Prop
  | 0, _ => True
  | m + 1, k => bt v k = 0 ∨ ((33 ≤ bt v k ∧ bt v k ≤ 126) ∧ okF v m (k + 1))
theorem mLand_255 {a : Int} : 0 ≤ mLand a 255 ∧ mLand a 255 ≤ 255 := by
  have h1 : (Int64.ofInt a &&& Int64.ofInt 255).toBitVec.toNat ≤ 255 := by
    rw [Int64.toBitVec_and, BitVec.toNat_and]
    exact Nat.le_trans Nat.and_le_right (by decide)
  show 0 ≤ (Int64.ofInt a &&& Int64.ofInt 255).toBitVec.toInt ∧ (Int64.ofInt a &&& Int64.ofInt 255).toBitVec.toInt ≤ 255
  rw [BitVec.toInt_eq_toNat_of_lt (by omega)]
  omega
def shA (b : Int) : UInt64 := (Int32.ofInt b).toInt64.toUInt64 &&& Int64.toUInt64 63
theorem sh_add {v a b c : Int} (h : (shA c).toNat % 64 = (shA a).toNat % 64 + (shA b).toNat % 64) : mLushr (mLushr v a) b = mLushr v c := by
  show ((Int64.ofInt ((Int64.ofInt v).toUInt64 >>> shA a).toInt64.toInt).toUInt64 >>> shA b).toInt64.toInt = ((Int64.ofInt v).toUInt64 >>> shA c).toInt64.toInt
  rw [Int64.ofInt_toInt, UInt64.toUInt64_toInt64]
  have e : ((Int64.ofInt v).toUInt64 >>> shA a) >>> shA b = (Int64.ofInt v).toUInt64 >>> shA c := by
    apply UInt64.toNat.inj
    rw [UInt64.toNat_shiftRight, UInt64.toNat_shiftRight, UInt64.toNat_shiftRight, h, Nat.shiftRight_add]
  rw [e]
theorem sh_0 {v : Int} : Int64.ofInt (mLushr v 0) = Int64.ofInt v := by
  show Int64.ofInt ((Int64.ofInt v).toUInt64 >>> shA 0).toInt64.toInt = Int64.ofInt v
  have e : (Int64.ofInt v).toUInt64 >>> shA 0 = (Int64.ofInt v).toUInt64 := by
    apply UInt64.toNat.inj
    have e0 : (shA 0).toNat % 64 = 0 := by decide
    rw [UInt64.toNat_shiftRight, e0, Nat.shiftRight_zero]
  rw [e, Int64.toInt64_toUInt64, Int64.ofInt_toInt]
theorem rs_eq {v : Int} : rs v 1 = mLushr v 8 ∧ rs v 2 = mLushr v 16 ∧ rs v 3 = mLushr v 24 ∧ rs v 4 = mLushr v 32 ∧ rs v 5 = mLushr v 40 ∧ rs v 6 = mLushr v 48 ∧ rs v 7 = mLushr v 56 := by
  have e2 : mLushr (mLushr v 8) 8 = mLushr v 16 := sh_add (by decide)
  have e3 : mLushr (mLushr v 16) 8 = mLushr v 24 := sh_add (by decide)
  have e4 : mLushr (mLushr v 24) 8 = mLushr v 32 := sh_add (by decide)
  have e5 : mLushr (mLushr v 32) 8 = mLushr v 40 := sh_add (by decide)
  have e6 : mLushr (mLushr v 40) 8 = mLushr v 48 := sh_add (by decide)
  have e7 : mLushr (mLushr v 48) 8 = mLushr v 56 := sh_add (by decide)
  simp only [rs, e2, e3, e4, e5, e6, e7, and_self]
theorem bt_eq {v : Int} {k : Nat} (hk : k < 8) : mLand (mLushr v (8 * (k : Int))) 255 = bt v k := by
  obtain ⟨r1, r2, r3, r4, r5, r6, r7⟩ := rs_eq (v := v)
  have hk2 : k = 0 ∨ k = 1 ∨ k = 2 ∨ k = 3 ∨ k = 4 ∨ k = 5 ∨ k = 6 ∨ k = 7 := by omega
  rcases hk2 with z | z | z | z | z | z | z | z <;> subst z
  · show (Int64.ofInt (mLushr v 0) &&& Int64.ofInt 255).toInt = (Int64.ofInt v &&& Int64.ofInt 255).toInt
    rw [sh_0]
  · unfold bt; rw [r1]; rfl
  · unfold bt; rw [r2]; rfl
  · unfold bt; rw [r3]; rfl
  · unfold bt; rw [r4]; rfl
  · unfold bt; rw [r5]; rfl
  · unfold bt; rw [r6]; rfl
  · unfold bt; rw [r7]; rfl
theorem nB_le {v : Int} : ∀ m k : Nat, k ≤ nB v m k ∧ nB v m k ≤ k + m := by
  intro m
  induction m with
  | zero => intro k; simp only [nB]; omega
  | succ m ih =>
    intro k
    simp only [nB]
    by_cases p : bt v k = 0
    · rw [if_pos p]; omega
    · rw [if_neg p]; have := ih (k + 1); omega
theorem okF_at {v : Int} : ∀ m k : Nat, okF v m k → ∀ i : Nat, k ≤ i → i < nB v m k → 33 ≤ bt v i ∧ bt v i ≤ 126 := by
  intro m
  induction m with
  | zero => intro k _ i h1 h2; simp only [nB] at h2; omega
  | succ m ih =>
    intro k hk i h1 h2
    simp only [nB] at h2
    by_cases p : bt v k = 0
    · rw [if_pos p] at h2; omega
    · rw [if_neg p] at h2
      rcases hk with z | z
      · exact absurd z p
      · by_cases q : i = k
        · subst q; exact z.1
        · exact ih (k + 1) z.2 i (by omega) h2
theorem mOk1 {b : Int} (h : 0 ≤ b ∧ b < 65536) : mOk 1 b = true := by simp [mOk, h]
theorem zq19a {g : MG} {μ : MU} {v : Int} : ∀ (m k : Nat), m + k = 8 → (okF v m k → Wp E 19 64 [some (.inr (.inr (.inl 128))), some (.inr (.inl v)), none, some (.inl (nB v m k)), some (.inr (.inl (rs v (nB v m k)))), none, none] [] g μ Q) → (¬ okF v m k → Q (some (.inl (-2))) g μ) →
    Wp E 19 5 [some (.inr (.inr (.inl 128))), some (.inr (.inl v)), none, some (.inl k), some (.inr (.inl (rs v k))), none, none] [] g μ Q := by
  intro m
  induction m with
  | zero =>
    intro k hk h _
    have e1 : ¬ (k : Int) < 8 := by omega
    have e2 : (8 : Int) ≤ k := by omega
    simp (disch := first | omega | exact rfl) only [x19_5, x19_6, x19_8, isF, isK, isH, mK, nl_i, nl_n, nl_o, nl_r, c1_i, c1_r, mPush, mRv, G0_1, true_and, and_true, and_self, implies_true, List.length_nil, List.length_cons, Nat.reduceAdd, Nat.reduceLeDiff, Nat.zero_le, beq_self_eq_true, Nat.reduceBEq, decide_true, Bool.and_self, reduceCtorEq, ne_eq, not_true_eq_false, not_false_eq_true, false_implies, true_implies, Nat.reduceLT, Nat.reduceEqDiff, or_true, true_or, or_false, false_or, or_self, Int.reduceEq, Int.reduceNe, Int.reduceLT, Int.reduceLE, Int.reduceAdd, Int.reduceSub, Int.reduceMul, Int.reduceNeg, Int.reduceToNat, if_true, if_false, Classical.not_not, Int.cast_ofNat_Int, e1, e2]
    exact h trivial
  | succ m ih =>
    intro k hk h h'
    have e1 : (k : Int) < 8 := by omega
    have e2 : ¬ (8 : Int) ≤ k := by omega
    have b0 := mLand_255 (a := rs v k)
    have e4 : (k : Int) + 1 = ((k + 1 : Nat) : Int) := by omega
    have e5 : mLushr (rs v k) 8 = rs v (k + 1) := rfl
    by_cases p0 : mLand (rs v k) 255 = 0
    · have e6 : nB v (m + 1) k = k := if_pos p0
      rw [e6] at h
      simp (disch := first | omega | exact rfl) only [y19_18, y19_31, y19_44, y19_71, x19_0, x19_1, x19_2, x19_3, x19_5, x19_6, x19_8, x19_11, x19_13, x19_16, x19_17, x19_19, x19_22, x19_24, x19_27, x19_28, x19_32, x19_35, x19_37, x19_40, x19_41, x19_45, x19_48, x19_50, x19_51, x19_53, x19_55, x19_56, x19_58, x19_68, x19_70, x19_72, x19_75, x19_77, x19_78, x19_79, x19_82, x19_83, x19_84, x19_86, x19_89, x19_91, x19_92, x19_93, x19_95, x19_97, x19_98, x19_101, x19_102, x19_105, x19_106, x19_109, x19_110, x19_111, x19_112, x19_113, x19_115, x19_116, x19_117, x19_119, x19_121, x19_122, x19_123, x19_126, x19_127, x19_128, x19_129, x19_130, x19_136, x19_137, x19_138, x19_141, x19_142, x19_143, x19_146, x19_147, x19_150, isF, isK, isH, mK, nl_i, nl_n, nl_o, nl_r, c1_i, c1_r, mPush, mRv, G0_1, true_and, and_true, and_self, implies_true, List.length_nil, List.length_cons, Nat.reduceAdd, Nat.reduceLeDiff, Nat.zero_le, beq_self_eq_true, Nat.reduceBEq, decide_true, Bool.and_self, reduceCtorEq, ne_eq, not_true_eq_false, not_false_eq_true, false_implies, true_implies, Nat.reduceLT, Nat.reduceEqDiff, or_true, true_or, or_false, false_or, or_self, Int.reduceEq, Int.reduceNe, Int.reduceLT, Int.reduceLE, Int.reduceAdd, Int.reduceSub, Int.reduceMul, Int.reduceNeg, Int.reduceToNat, if_true, if_false, Classical.not_not, Int.cast_ofNat_Int, e1, e2, lc_eq, p0, mL]
      exact h (Or.inl p0)
    · have e6 : nB v (m + 1) k = nB v m (k + 1) := if_neg p0
      rw [e6] at h
      by_cases p1 : mLand (rs v k) 255 < 33
      · have q1 : ¬ 33 ≤ mLand (rs v k) 255 := by omega
        simp (disch := first | omega | exact rfl) only [y19_18, y19_31, y19_44, y19_71, x19_0, x19_1, x19_2, x19_3, x19_5, x19_6, x19_8, x19_11, x19_13, x19_16, x19_17, x19_19, x19_22, x19_24, x19_27, x19_28, x19_32, x19_35, x19_37, x19_40, x19_41, x19_45, x19_48, x19_50, x19_51, x19_53, x19_55, x19_56, x19_58, x19_68, x19_70, x19_72, x19_75, x19_77, x19_78, x19_79, x19_82, x19_83, x19_84, x19_86, x19_89, x19_91, x19_92, x19_93, x19_95, x19_97, x19_98, x19_101, x19_102, x19_105, x19_106, x19_109, x19_110, x19_111, x19_112, x19_113, x19_115, x19_116, x19_117, x19_119, x19_121, x19_122, x19_123, x19_126, x19_127, x19_128, x19_129, x19_130, x19_136, x19_137, x19_138, x19_141, x19_142, x19_143, x19_146, x19_147, x19_150, isF, isK, isH, mK, nl_i, nl_n, nl_o, nl_r, c1_i, c1_r, mPush, mRv, G0_1, true_and, and_true, and_self, implies_true, List.length_nil, List.length_cons, Nat.reduceAdd, Nat.reduceLeDiff, Nat.zero_le, beq_self_eq_true, Nat.reduceBEq, decide_true, Bool.and_self, reduceCtorEq, ne_eq, not_true_eq_false, not_false_eq_true, false_implies, true_implies, Nat.reduceLT, Nat.reduceEqDiff, or_true, true_or, or_false, false_or, or_self, Int.reduceEq, Int.reduceNe, Int.reduceLT, Int.reduceLE, Int.reduceAdd, Int.reduceSub, Int.reduceMul, Int.reduceNeg, Int.reduceToNat, if_true, if_false, Classical.not_not, Int.cast_ofNat_Int, e1, e2, lc_eq, lc_lt, lc_ge, p0, p1, q1, mL]
        refine h' (fun z => ?_)
        rcases z with z | z
        · exact p0 z
        · have := z.1.1; unfold bt at this; omega
      · by_cases p2 : mLand (rs v k) 255 ≤ 126
        · have q1 : 33 ≤ mLand (rs v k) 255 := by omega
          have q2 : ¬ 126 < mLand (rs v k) 255 := by omega
          simp (disch := first | omega | exact rfl) only [y19_18, y19_31, y19_44, y19_71, x19_0, x19_1, x19_2, x19_3, x19_5, x19_6, x19_8, x19_11, x19_13, x19_16, x19_17, x19_19, x19_22, x19_24, x19_27, x19_28, x19_32, x19_35, x19_37, x19_40, x19_41, x19_45, x19_48, x19_50, x19_51, x19_53, x19_55, x19_56, x19_58, x19_68, x19_70, x19_72, x19_75, x19_77, x19_78, x19_79, x19_82, x19_83, x19_84, x19_86, x19_89, x19_91, x19_92, x19_93, x19_95, x19_97, x19_98, x19_101, x19_102, x19_105, x19_106, x19_109, x19_110, x19_111, x19_112, x19_113, x19_115, x19_116, x19_117, x19_119, x19_121, x19_122, x19_123, x19_126, x19_127, x19_128, x19_129, x19_130, x19_136, x19_137, x19_138, x19_141, x19_142, x19_143, x19_146, x19_147, x19_150, isF, isK, isH, mK, nl_i, nl_n, nl_o, nl_r, c1_i, c1_r, mPush, mRv, G0_1, true_and, and_true, and_self, implies_true, List.length_nil, List.length_cons, Nat.reduceAdd, Nat.reduceLeDiff, Nat.zero_le, beq_self_eq_true, Nat.reduceBEq, decide_true, Bool.and_self, reduceCtorEq, ne_eq, not_true_eq_false, not_false_eq_true, false_implies, true_implies, Nat.reduceLT, Nat.reduceEqDiff, or_true, true_or, or_false, false_or, or_self, Int.reduceEq, Int.reduceNe, Int.reduceLT, Int.reduceLE, Int.reduceAdd, Int.reduceSub, Int.reduceMul, Int.reduceNeg, Int.reduceToNat, if_true, if_false, Classical.not_not, Int.cast_ofNat_Int, e1, e2, lc_eq, lc_lt, lc_ge, lc_le, lc_gt, p0, p1, p2, q1, q2, mL, e5, mWr_of]
          rw [x19_61, e4]
          refine ih (k + 1) (by omega) (fun z => h (Or.inr ⟨⟨q1, p2⟩, z⟩)) (fun z => h' (fun y => ?_))
          rcases y with y | y
          · exact p0 y
          · exact z y.2
        · have q1 : 33 ≤ mLand (rs v k) 255 := by omega
          have q2 : 126 < mLand (rs v k) 255 := by omega
          simp (disch := first | omega | exact rfl) only [y19_18, y19_31, y19_44, y19_71, x19_0, x19_1, x19_2, x19_3, x19_5, x19_6, x19_8, x19_11, x19_13, x19_16, x19_17, x19_19, x19_22, x19_24, x19_27, x19_28, x19_32, x19_35, x19_37, x19_40, x19_41, x19_45, x19_48, x19_50, x19_51, x19_53, x19_55, x19_56, x19_58, x19_68, x19_70, x19_72, x19_75, x19_77, x19_78, x19_79, x19_82, x19_83, x19_84, x19_86, x19_89, x19_91, x19_92, x19_93, x19_95, x19_97, x19_98, x19_101, x19_102, x19_105, x19_106, x19_109, x19_110, x19_111, x19_112, x19_113, x19_115, x19_116, x19_117, x19_119, x19_121, x19_122, x19_123, x19_126, x19_127, x19_128, x19_129, x19_130, x19_136, x19_137, x19_138, x19_141, x19_142, x19_143, x19_146, x19_147, x19_150, isF, isK, isH, mK, nl_i, nl_n, nl_o, nl_r, c1_i, c1_r, mPush, mRv, G0_1, true_and, and_true, and_self, implies_true, List.length_nil, List.length_cons, Nat.reduceAdd, Nat.reduceLeDiff, Nat.zero_le, beq_self_eq_true, Nat.reduceBEq, decide_true, Bool.and_self, reduceCtorEq, ne_eq, not_true_eq_false, not_false_eq_true, false_implies, true_implies, Nat.reduceLT, Nat.reduceEqDiff, or_true, true_or, or_false, false_or, or_self, Int.reduceEq, Int.reduceNe, Int.reduceLT, Int.reduceLE, Int.reduceAdd, Int.reduceSub, Int.reduceMul, Int.reduceNeg, Int.reduceToNat, if_true, if_false, Classical.not_not, Int.cast_ofNat_Int, e1, e2, lc_eq, lc_lt, lc_ge, lc_le, lc_gt, p0, p1, p2, q1, q2, mL]
          refine h' (fun z => ?_)
          rcases z with z | z
          · exact p0 z
          · have := z.1.2; unfold bt at this; omega
theorem zq127z {g : MG} {μ : MU} {v : Int} : ∀ (m k : Nat), m + k = 8 → Wp E 127 72 [some (.inr (.inr (.inl 176))), some (.inr (.inl v)), none, some (.inl (nB v m k)), some (.inr (.inl (rs v (nB v m k)))), none, some (.inl 0), none] [] g μ Q →
    Wp E 127 13 [some (.inr (.inr (.inl 176))), some (.inr (.inl v)), none, some (.inl k), some (.inr (.inl (rs v k))), none, some (.inl 0), none] [] g μ Q := by
  intro m
  induction m with
  | zero =>
    intro k hk h
    have e1 : ¬ (k : Int) < 8 := by omega
    have e2 : (8 : Int) ≤ k := by omega
    simp (disch := first | omega | exact rfl) only [x127_13, x127_14, x127_16, isF, isK, isH, mK, nl_i, nl_n, nl_o, nl_r, c1_i, c1_r, mPush, mRv, G0_1, true_and, and_true, and_self, implies_true, List.length_nil, List.length_cons, Nat.reduceAdd, Nat.reduceLeDiff, Nat.zero_le, beq_self_eq_true, Nat.reduceBEq, decide_true, Bool.and_self, reduceCtorEq, ne_eq, not_true_eq_false, not_false_eq_true, false_implies, true_implies, Nat.reduceLT, Nat.reduceEqDiff, or_true, true_or, or_false, false_or, or_self, Int.reduceEq, Int.reduceNe, Int.reduceLT, Int.reduceLE, Int.reduceAdd, Int.reduceSub, Int.reduceMul, Int.reduceNeg, Int.reduceToNat, if_true, if_false, Classical.not_not, Int.cast_ofNat_Int, e1, e2]
    exact h
  | succ m ih =>
    intro k hk h
    have e1 : (k : Int) < 8 := by omega
    have e2 : ¬ (8 : Int) ≤ k := by omega
    have b0 := mLand_255 (a := rs v k)
    have e4 : (k : Int) + 1 = ((k + 1 : Nat) : Int) := by omega
    have e5 : mLushr (rs v k) 8 = rs v (k + 1) := rfl
    by_cases p0 : mLand (rs v k) 255 = 0
    · have e6 : nB v (m + 1) k = k := if_pos p0
      rw [e6] at h
      simp (disch := first | omega | exact rfl) only [y127_26, y127_84, x127_0, x127_1, x127_2, x127_5, x127_6, x127_7, x127_8, x127_10, x127_11, x127_13, x127_14, x127_16, x127_19, x127_21, x127_24, x127_25, x127_27, x127_30, x127_32, x127_35, x127_37, x127_40, x127_41, x127_42, x127_44, x127_46, x127_49, x127_52, x127_53, x127_56, x127_57, x127_59, x127_61, x127_63, x127_64, x127_66, x127_78, x127_81, x127_83, x127_85, x127_88, x127_90, x127_91, x127_92, x127_95, x127_96, x127_97, x127_99, x127_102, x127_104, x127_105, x127_106, x127_108, x127_110, x127_111, x127_114, x127_115, x127_118, x127_119, x127_122, x127_124, x127_125, x127_126, x127_128, x127_129, x127_130, x127_131, x127_133, x127_134, x127_135, x127_136, x127_139, x127_140, x127_141, x127_142, x127_148, x127_149, x127_150, x127_153, x127_154, x127_155, x127_158, x127_159, x127_162, isF, isK, isH, mK, nl_i, nl_n, nl_o, nl_r, c1_i, c1_r, mPush, mRv, G0_1, true_and, and_true, and_self, implies_true, List.length_nil, List.length_cons, Nat.reduceAdd, Nat.reduceLeDiff, Nat.zero_le, beq_self_eq_true, Nat.reduceBEq, decide_true, Bool.and_self, reduceCtorEq, ne_eq, not_true_eq_false, not_false_eq_true, false_implies, true_implies, Nat.reduceLT, Nat.reduceEqDiff, or_true, true_or, or_false, false_or, or_self, Int.reduceEq, Int.reduceNe, Int.reduceLT, Int.reduceLE, Int.reduceAdd, Int.reduceSub, Int.reduceMul, Int.reduceNeg, Int.reduceToNat, if_true, if_false, Classical.not_not, Int.cast_ofNat_Int, e1, e2, lc_eq, p0, mL]
      exact h
    · have e6 : nB v (m + 1) k = nB v m (k + 1) := if_neg p0
      rw [e6] at h
      simp (disch := first | omega | exact rfl) only [y127_26, y127_84, x127_0, x127_1, x127_2, x127_5, x127_6, x127_7, x127_8, x127_10, x127_11, x127_13, x127_14, x127_16, x127_19, x127_21, x127_24, x127_25, x127_27, x127_30, x127_32, x127_35, x127_37, x127_40, x127_41, x127_42, x127_44, x127_46, x127_49, x127_52, x127_53, x127_56, x127_57, x127_59, x127_61, x127_63, x127_64, x127_66, x127_78, x127_81, x127_83, x127_85, x127_88, x127_90, x127_91, x127_92, x127_95, x127_96, x127_97, x127_99, x127_102, x127_104, x127_105, x127_106, x127_108, x127_110, x127_111, x127_114, x127_115, x127_118, x127_119, x127_122, x127_124, x127_125, x127_126, x127_128, x127_129, x127_130, x127_131, x127_133, x127_134, x127_135, x127_136, x127_139, x127_140, x127_141, x127_142, x127_148, x127_149, x127_150, x127_153, x127_154, x127_155, x127_158, x127_159, x127_162, isF, isK, isH, mK, nl_i, nl_n, nl_o, nl_r, c1_i, c1_r, mPush, mRv, G0_1, true_and, and_true, and_self, implies_true, List.length_nil, List.length_cons, Nat.reduceAdd, Nat.reduceLeDiff, Nat.zero_le, beq_self_eq_true, Nat.reduceBEq, decide_true, Bool.and_self, reduceCtorEq, ne_eq, not_true_eq_false, not_false_eq_true, false_implies, true_implies, Nat.reduceLT, Nat.reduceEqDiff, or_true, true_or, or_false, false_or, or_self, Int.reduceEq, Int.reduceNe, Int.reduceLT, Int.reduceLE, Int.reduceAdd, Int.reduceSub, Int.reduceMul, Int.reduceNeg, Int.reduceToNat, if_true, if_false, Classical.not_not, Int.cast_ofNat_Int, e1, e2, lc_eq, p0, mL, e5, mWr_of]
      rw [x127_69, e4]
      exact ih (k + 1) (by omega) h
theorem zq127a {g : MG} {μ : MU} {v : Int} : ∀ (m k : Nat), m + k = 8 → (okF v m k → Wp E 127 72 [some (.inr (.inr (.inl 176))), some (.inr (.inl v)), none, some (.inl (nB v m k)), some (.inr (.inl (rs v (nB v m k)))), none, some (.inl 1), none] [] g μ Q) → (¬ okF v m k → Wp E 127 72 [some (.inr (.inr (.inl 176))), some (.inr (.inl v)), none, some (.inl (nB v m k)), some (.inr (.inl (rs v (nB v m k)))), none, some (.inl 0), none] [] g μ Q) →
    Wp E 127 13 [some (.inr (.inr (.inl 176))), some (.inr (.inl v)), none, some (.inl k), some (.inr (.inl (rs v k))), none, some (.inl 1), none] [] g μ Q := by
  intro m
  induction m with
  | zero =>
    intro k hk h _
    have e1 : ¬ (k : Int) < 8 := by omega
    have e2 : (8 : Int) ≤ k := by omega
    simp (disch := first | omega | exact rfl) only [x127_13, x127_14, x127_16, isF, isK, isH, mK, nl_i, nl_n, nl_o, nl_r, c1_i, c1_r, mPush, mRv, G0_1, true_and, and_true, and_self, implies_true, List.length_nil, List.length_cons, Nat.reduceAdd, Nat.reduceLeDiff, Nat.zero_le, beq_self_eq_true, Nat.reduceBEq, decide_true, Bool.and_self, reduceCtorEq, ne_eq, not_true_eq_false, not_false_eq_true, false_implies, true_implies, Nat.reduceLT, Nat.reduceEqDiff, or_true, true_or, or_false, false_or, or_self, Int.reduceEq, Int.reduceNe, Int.reduceLT, Int.reduceLE, Int.reduceAdd, Int.reduceSub, Int.reduceMul, Int.reduceNeg, Int.reduceToNat, if_true, if_false, Classical.not_not, Int.cast_ofNat_Int, e1, e2]
    exact h trivial
  | succ m ih =>
    intro k hk h h'
    have e1 : (k : Int) < 8 := by omega
    have e2 : ¬ (8 : Int) ≤ k := by omega
    have b0 := mLand_255 (a := rs v k)
    have e4 : (k : Int) + 1 = ((k + 1 : Nat) : Int) := by omega
    have e5 : mLushr (rs v k) 8 = rs v (k + 1) := rfl
    by_cases p0 : mLand (rs v k) 255 = 0
    · have e6 : nB v (m + 1) k = k := if_pos p0
      rw [e6] at h
      simp (disch := first | omega | exact rfl) only [y127_26, y127_84, x127_0, x127_1, x127_2, x127_5, x127_6, x127_7, x127_8, x127_10, x127_11, x127_13, x127_14, x127_16, x127_19, x127_21, x127_24, x127_25, x127_27, x127_30, x127_32, x127_35, x127_37, x127_40, x127_41, x127_42, x127_44, x127_46, x127_49, x127_52, x127_53, x127_56, x127_57, x127_59, x127_61, x127_63, x127_64, x127_66, x127_78, x127_81, x127_83, x127_85, x127_88, x127_90, x127_91, x127_92, x127_95, x127_96, x127_97, x127_99, x127_102, x127_104, x127_105, x127_106, x127_108, x127_110, x127_111, x127_114, x127_115, x127_118, x127_119, x127_122, x127_124, x127_125, x127_126, x127_128, x127_129, x127_130, x127_131, x127_133, x127_134, x127_135, x127_136, x127_139, x127_140, x127_141, x127_142, x127_148, x127_149, x127_150, x127_153, x127_154, x127_155, x127_158, x127_159, x127_162, isF, isK, isH, mK, nl_i, nl_n, nl_o, nl_r, c1_i, c1_r, mPush, mRv, G0_1, true_and, and_true, and_self, implies_true, List.length_nil, List.length_cons, Nat.reduceAdd, Nat.reduceLeDiff, Nat.zero_le, beq_self_eq_true, Nat.reduceBEq, decide_true, Bool.and_self, reduceCtorEq, ne_eq, not_true_eq_false, not_false_eq_true, false_implies, true_implies, Nat.reduceLT, Nat.reduceEqDiff, or_true, true_or, or_false, false_or, or_self, Int.reduceEq, Int.reduceNe, Int.reduceLT, Int.reduceLE, Int.reduceAdd, Int.reduceSub, Int.reduceMul, Int.reduceNeg, Int.reduceToNat, if_true, if_false, Classical.not_not, Int.cast_ofNat_Int, e1, e2, lc_eq, p0, mL]
      exact h (Or.inl p0)
    · have e6 : nB v (m + 1) k = nB v m (k + 1) := if_neg p0
      rw [e6] at h h'
      by_cases p1 : 33 ≤ mLand (rs v k) 255 ∧ mLand (rs v k) 255 ≤ 126
      · simp (disch := first | omega | exact rfl) only [y127_26, y127_84, x127_0, x127_1, x127_2, x127_5, x127_6, x127_7, x127_8, x127_10, x127_11, x127_13, x127_14, x127_16, x127_19, x127_21, x127_24, x127_25, x127_27, x127_30, x127_32, x127_35, x127_37, x127_40, x127_41, x127_42, x127_44, x127_46, x127_49, x127_52, x127_53, x127_56, x127_57, x127_59, x127_61, x127_63, x127_64, x127_66, x127_78, x127_81, x127_83, x127_85, x127_88, x127_90, x127_91, x127_92, x127_95, x127_96, x127_97, x127_99, x127_102, x127_104, x127_105, x127_106, x127_108, x127_110, x127_111, x127_114, x127_115, x127_118, x127_119, x127_122, x127_124, x127_125, x127_126, x127_128, x127_129, x127_130, x127_131, x127_133, x127_134, x127_135, x127_136, x127_139, x127_140, x127_141, x127_142, x127_148, x127_149, x127_150, x127_153, x127_154, x127_155, x127_158, x127_159, x127_162, isF, isK, isH, mK, nl_i, nl_n, nl_o, nl_r, c1_i, c1_r, mPush, mRv, G0_1, true_and, and_true, and_self, implies_true, List.length_nil, List.length_cons, Nat.reduceAdd, Nat.reduceLeDiff, Nat.zero_le, beq_self_eq_true, Nat.reduceBEq, decide_true, Bool.and_self, reduceCtorEq, ne_eq, not_true_eq_false, not_false_eq_true, false_implies, true_implies, Nat.reduceLT, Nat.reduceEqDiff, or_true, true_or, or_false, false_or, or_self, Int.reduceEq, Int.reduceNe, Int.reduceLT, Int.reduceLE, Int.reduceAdd, Int.reduceSub, Int.reduceMul, Int.reduceNeg, Int.reduceToNat, if_true, if_false, Classical.not_not, Int.cast_ofNat_Int, e1, e2, lc_eq, p0, mL, e5, mWr_of, ct77, if_pos p1]
        rw [x127_69, e4]
        refine ih (k + 1) (by omega) (fun z => h (Or.inr ⟨p1, z⟩)) (fun z => h' (fun y => ?_))
        rcases y with y | y
        · exact p0 y
        · exact z y.2
      · simp (disch := first | omega | exact rfl) only [y127_26, y127_84, x127_0, x127_1, x127_2, x127_5, x127_6, x127_7, x127_8, x127_10, x127_11, x127_13, x127_14, x127_16, x127_19, x127_21, x127_24, x127_25, x127_27, x127_30, x127_32, x127_35, x127_37, x127_40, x127_41, x127_42, x127_44, x127_46, x127_49, x127_52, x127_53, x127_56, x127_57, x127_59, x127_61, x127_63, x127_64, x127_66, x127_78, x127_81, x127_83, x127_85, x127_88, x127_90, x127_91, x127_92, x127_95, x127_96, x127_97, x127_99, x127_102, x127_104, x127_105, x127_106, x127_108, x127_110, x127_111, x127_114, x127_115, x127_118, x127_119, x127_122, x127_124, x127_125, x127_126, x127_128, x127_129, x127_130, x127_131, x127_133, x127_134, x127_135, x127_136, x127_139, x127_140, x127_141, x127_142, x127_148, x127_149, x127_150, x127_153, x127_154, x127_155, x127_158, x127_159, x127_162, isF, isK, isH, mK, nl_i, nl_n, nl_o, nl_r, c1_i, c1_r, mPush, mRv, G0_1, true_and, and_true, and_self, implies_true, List.length_nil, List.length_cons, Nat.reduceAdd, Nat.reduceLeDiff, Nat.zero_le, beq_self_eq_true, Nat.reduceBEq, decide_true, Bool.and_self, reduceCtorEq, ne_eq, not_true_eq_false, not_false_eq_true, false_implies, true_implies, Nat.reduceLT, Nat.reduceEqDiff, or_true, true_or, or_false, false_or, or_self, Int.reduceEq, Int.reduceNe, Int.reduceLT, Int.reduceLE, Int.reduceAdd, Int.reduceSub, Int.reduceMul, Int.reduceNeg, Int.reduceToNat, if_true, if_false, Classical.not_not, Int.cast_ofNat_Int, e1, e2, lc_eq, p0, mL, e5, mWr_of, ct77, if_neg p1]
        rw [x127_69, e4]
        refine zq127z m (k + 1) (by omega) (h' (fun y => ?_))
        rcases y with y | y
        · exact p0 y
        · exact p1 y.1
end PUT
