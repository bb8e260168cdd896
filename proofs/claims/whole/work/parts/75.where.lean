section WHE
variable {E : ME} {Q : Option MV → MG → MU → Prop} {S : Row}
theorem rRun_r (hw : wfR S) {f r : Nat} {h t : Int} {P : MU} (hh : isH h) (ht : 0 ≤ t ∧ t ≤ 1439) (hP : qP P) : ∀ j : Nat, j ≤ 6 → (j ≤ r → rRun S f h t j (sBeg t P) 0 r = P 0 r ∧ rRun S f h t j (sBeg t P) 1 r = P 1 r) ∧ (r < j → (rRun S f h t j (sBeg t P) 3 r = -6 ∧ rRun S f h t j (sBeg t P) 0 r = P 0 r ∧ rRun S f h t j (sBeg t P) 1 r = P 1 r) ∨ (¬ rRun S f h t j (sBeg t P) 3 r = -6 ∧ rRun S f h t j (sBeg t P) 0 r = h ∧ rRun S f h t j (sBeg t P) 1 r = rRun S f h t j (sBeg t P) 4 r)) := by
  intro j
  induction j with
  | zero => intro _; exact ⟨fun _ => ⟨rfl, rfl⟩, fun z => by omega⟩
  | succ j ih =>
    intro hj
    obtain ⟨i1, i2⟩ := ih (by omega)
    have q := (rRun_q hw (f := f) hh ht hP j (by omega)).2.1
    show (j + 1 ≤ r → rGo S f h t j (rRun S f h t j (sBeg t P)) 0 r = P 0 r ∧ rGo S f h t j (rRun S f h t j (sBeg t P)) 1 r = P 1 r) ∧ (r < j + 1 → (rGo S f h t j (rRun S f h t j (sBeg t P)) 3 r = -6 ∧ rGo S f h t j (rRun S f h t j (sBeg t P)) 0 r = P 0 r ∧ rGo S f h t j (rRun S f h t j (sBeg t P)) 1 r = P 1 r) ∨ (¬ rGo S f h t j (rRun S f h t j (sBeg t P)) 3 r = -6 ∧ rGo S f h t j (rRun S f h t j (sBeg t P)) 0 r = h ∧ rGo S f h t j (rRun S f h t j (sBeg t P)) 1 r = rGo S f h t j (rRun S f h t j (sBeg t P)) 4 r))
    generalize rRun S f h t j (sBeg t P) = R at i1 i2 q
    have n0 : ∀ i, ¬ i = j → rGo S f h t j R 0 i = R 0 i ∧ rGo S f h t j R 1 i = R 1 i ∧ rGo S f h t j R 3 i = R 3 i ∧ rGo S f h t j R 4 i = R 4 i := by
      intro i hi
      unfold rGo
      by_cases p : R 5 0 + S 1 < rTh S h j R
      · rw [if_pos p]
        refine ⟨rfl, rfl, ?_, rfl⟩
        show (if i = j then -6 else R 3 i) = R 3 i
        rw [if_neg hi]
      · rw [if_neg p]
        refine ⟨?_, ?_, ?_, ?_⟩
        · show (if i = j then h else R 0 i) = R 0 i
          rw [if_neg hi]
        · show (if i = j then rFn S f h t j R else R 1 i) = R 1 i
          rw [if_neg hi]
        · show (if i = j then rFr S h j R else R 3 i) = R 3 i
          rw [if_neg hi]
        · show (if i = j then rFn S f h t j R else R 4 i) = R 4 i
          rw [if_neg hi]
    refine ⟨fun z => ?_, fun z => ?_⟩
    · obtain ⟨y1, y2, _, _⟩ := n0 r (by omega)
      rw [y1, y2]; exact i1 (by omega)
    · by_cases e : r = j
      · subst e
        obtain ⟨k1, k2⟩ := i1 (Nat.le_refl _)
        unfold rGo
        by_cases p : R 5 0 + S 1 < rTh S h r R
        · rw [if_pos p]
          refine Or.inl ⟨?_, k1, k2⟩
          show (if r = r then -6 else R 3 r) = -6
          rw [if_pos rfl]
        · rw [if_neg p]
          refine Or.inr ⟨?_, ?_, ?_⟩
          · show ¬ (if r = r then rFr S h r R else R 3 r) = -6
            rw [if_pos rfl]
            unfold rFr
            by_cases y : R 5 0 < rTh S h r R
            · rw [if_pos y]; omega
            · rw [if_neg y]; omega
          · show (if r = r then h else R 0 r) = h
            rw [if_pos rfl]
          · show (if r = r then rFn S f h t r R else R 1 r) = (if r = r then rFn S f h t r R else R 4 r)
            rw [if_pos rfl, if_pos rfl]
      · obtain ⟨y1, y2, y3, y4⟩ := n0 r e
        rw [y1, y2, y3, y4]; exact i2 (by omega)
/-- where a reel is in the minute t, from the place k on -/
def wM (S : Row) (o : Nat → Nat) (f r : Nat) (t : Int) : Nat → Nat → Int
  | 0, k => fSt S o f k 0 r
  | m + 1, k => if S (68 + 4 * o k) = f then (if t < fSt S o f k 1 r then fSt S o f k 0 r else if ¬ fSt S o f (k + 1) 0 r = fSt S o f k 0 r ∧ t < fSt S o f k 1 r + rGap S (fSt S o f (k + 1) 0 r) (fSt S o f k 0 r) then -6 else wM S o f r t m (k + 1)) else wM S o f r t m (k + 1)
theorem wM_free {o : Nat → Nat} {f r : Nat} {t : Int} : ∀ m k : Nat, t < fSt S o f k 1 r → wM S o f r t m k = fSt S o f k 0 r := by
  intro m
  induction m with
  | zero => intro k _; rfl
  | succ m ih =>
    intro k h
    simp only [wM]
    by_cases p : S (68 + 4 * o k) = f
    · rw [if_pos p, if_pos h]
    · have e : fSt S o f (k + 1) = fSt S o f k := if_neg p
      rw [if_neg p, ih (k + 1) (by rw [e]; exact h), e]
theorem zq56 {μ0 : MU} (hs : cRel μ0 1 S) (hw : wfR S) {N f r : Nat} {t : Int} (hN : S 6 = N) (hN20 : N ≤ 20) (hf : f < 5) (hf2 : (f : Int) < S 5) (hr : (r : Int) < S (23 + 9 * f)) (ho : ∀ k, k < N → μ0 13 k = ord (sT S) N k)
    (hQ : ∀ μ : MU, (∀ x, ¬ (144 ≤ x ∧ x ≤ 148) → μ x = μ0 x) → Q (some (.inl (wM S (ord (sT S) N) f r t N 0))) G0 μ) :
    ∀ (m k : Nat), k + m = N → wM S (ord (sT S) N) f r t m k = wM S (ord (sT S) N) f r t N 0 → ∀ (μ : MU) (o6 o7 o8 : Option MV), mNl (some o6) = true → mNl (some o7) = true → mNl (some o8) = true → (∀ x, ¬ (144 ≤ x ∧ x ≤ 148) → μ x = μ0 x) → RC μ 144 S f (fSt S (ord (sT S) N) f k) →
    Wp E 56 19 [some (.inr (.inr (.inl 0))), some (.inl f), some (.inl r), some (.inl t), some (.inr (.inr (.inl 144))), some (.inl k), o6, o7, o8] [] G0 μ Q := by
  have hO := isO_ord (T := sT S) N
  generalize ord (sT S) N = o at *
  have hrn := (hw.2.2.1 f hf hf2).1
  have hb : (144 : Nat) ∈ gRs := by decide
  obtain ⟨g1, g2, g3, g4, g5, g6, g7, g8, g9⟩ := gR_ok 144 hb
  simp only [Nat.reduceAdd] at g2 g3 g4 g5 g6 g7 g8 g9
  have r1 : (0 : Int) ≤ r := by omega
  have r2 : (r : Int) < 6 := by omega
  intro m
  induction m with
  | zero =>
    intro k hk hm μ o6 o7 o8 n6 n7 n8 h1 h2
    have ek : k = N := by omega
    have e7 : μ 1 7 = k := by rw [h1 1 (by omega), hs.2.2.1, hN, ek]
    have e0 := (h2.2 r (by omega)).1
    simp only [Nat.reduceAdd] at e0
    simp (disch := first | omega | exact rfl) only [x56_19, x56_21, x56_22, x56_25, x56_28, x56_160, x56_162, x56_165, x56_166, x56_167, isF, isK, isH, mK, nl_i, nl_n, nl_o, nl_r, c1_i, c1_r, mPush, mRv, G0_1, true_and, and_true, and_self, implies_true, List.length_nil, List.length_cons, Nat.reduceAdd, Nat.reduceLeDiff, Nat.zero_le, beq_self_eq_true, Nat.reduceBEq, decide_true, Bool.and_self, reduceCtorEq, ne_eq, not_true_eq_false, not_false_eq_true, false_implies, true_implies, Nat.reduceLT, Nat.reduceEqDiff, or_true, true_or, or_false, false_or, or_self, Int.reduceEq, Int.reduceNe, Int.reduceLT, Int.reduceLE, Int.reduceAdd, Int.reduceSub, Int.reduceMul, Int.reduceNeg, Int.reduceToNat, if_true, if_false, Classical.not_not, Int.cast_ofNat_Int, kd0, rf0_0, rf0_1, rf0_2, rf0_3, rf0_4, rf0_5, rf0_6, rf0_7, rf0_8, kd1, e7, g1, g2, g3, r1, r2, Int.toNat_natCast, e0, Int.le_refl, Int.lt_irrefl]
    simp only [wM] at hm
    rw [hm]
    exact hQ μ h1
  | succ m ih =>
    intro k hk hm μ o6 o7 o8 n6 n7 n8 h1 h2
    have e7 : μ 1 7 = N := by rw [h1 1 (by omega), hs.2.2.1, hN]
    have ek : ¬ (N : Int) ≤ k := by omega
    have ek2 : (k : Int) < N := by omega
    have ek3 : (0 : Int) ≤ k := by omega
    have ek4 : (k : Int) < 20 := by omega
    have eI : (k : Int) + 1 = ((k + 1 : Nat) : Int) := by omega
    have eo : μ 13 k = o k := by rw [h1 13 (by omega)]; exact ho k (by omega)
    have hok := (hO.1 k (by omega)).1
    have eo2 : (0 : Int) ≤ o k := by omega
    have eo3 : (o k : Int) < 20 := by omega
    have hs' : cRel μ 1 S := cRel_fr (fun x p1 p2 => h1 x (by omega)) hs
    obtain ⟨c8, c9, c10, _⟩ := hs'.2.2.2.2.2.2 (o k) (by omega) (by omega)
    simp only [Nat.reduceAdd] at c8 c9 c10
    simp only [wM] at hm
    obtain ⟨e0, e1, _⟩ := h2.2 r (by omega)
    simp only [Nat.reduceAdd] at e0 e1
    have hq := fSt_q hw (o := o) (N := N) (by omega) (fun k hk => (hO.1 k hk).1) hf hf2 k (by omega)
    by_cases p : S (68 + 4 * o k) = f
    · rw [if_pos p] at hm
      rw [p] at c8
      have hsk := hw.2.2.2 (o k) (by omega) (by omega)
      by_cases q : t < fSt S o f k 1 r
      · have q2 : ¬ fSt S o f k 1 r ≤ t := by omega
        rw [if_pos q] at hm
        simp (disch := first | omega | exact rfl) only [x56_19, x56_21, x56_22, x56_25, x56_28, x56_31, x56_32, x56_35, x56_38, x56_40, x56_41, x56_43, x56_44, x56_47, x56_50, x56_52, x56_53, x56_54, x56_60, x56_62, x56_65, x56_66, x56_67, x56_69, x56_71, x56_74, x56_75, x56_76, x56_78, x56_79, x56_81, x56_84, x56_86, isF, isK, isH, mK, nl_i, nl_n, nl_o, nl_r, c1_i, c1_r, mPush, mRv, G0_1, true_and, and_true, and_self, implies_true, List.length_nil, List.length_cons, Nat.reduceAdd, Nat.reduceLeDiff, Nat.zero_le, beq_self_eq_true, Nat.reduceBEq, decide_true, Bool.and_self, reduceCtorEq, ne_eq, not_true_eq_false, not_false_eq_true, false_implies, true_implies, Nat.reduceLT, Nat.reduceEqDiff, or_true, true_or, or_false, false_or, or_self, Int.reduceEq, Int.reduceNe, Int.reduceLT, Int.reduceLE, Int.reduceAdd, Int.reduceSub, Int.reduceMul, Int.reduceNeg, Int.reduceToNat, if_true, if_false, Classical.not_not, Int.cast_ofNat_Int, kd0, rf0_0, rf0_1, rf0_2, rf0_3, rf0_4, rf0_5, rf0_6, rf0_7, rf0_8, kd1, kd2, kd3, kd4, kd5, kd6, kd7, kd8, kd9, kd10, kd11, rf1_0, rf1_1, rf1_3, rf1_4, rf1_5, rf1_6, rf1_8, rf1_9, rf1_10, rf1_11, kd12, kd13, kd14, kd15, kd16, kd17, kd18, kd19, kd20, kd21, kd22, kd23, rf12_0, rf12_1, rf12_2, rf12_3, rf12_4, rf12_5, rf12_6, rf12_7, rf12_8, rf12_9, rf12_10, rf23_0, rf23_1, rf23_2, rf23_3, rf23_4, e7, ek, ek2, ek3, ek4, eo, eo2, eo3, c8, n6, n7, n8, g1, g2, g3, g4, g5, r1, r2, Int.toNat_natCast, e0, e1, q, q2]
        rw [hm]
        exact hQ μ h1
      · have q2 : fSt S o f k 1 r ≤ t := by omega
        rw [if_neg q] at hm
        have e2 : fSt S o f (k + 1) = sGo S f (o k) (fSt S o f k) := if_pos p
        simp (disch := first | omega | exact rfl) only [x56_19, x56_21, x56_22, x56_25, x56_28, x56_31, x56_32, x56_35, x56_38, x56_40, x56_41, x56_43, x56_44, x56_47, x56_50, x56_52, x56_53, x56_54, x56_60, x56_62, x56_65, x56_66, x56_67, x56_69, x56_71, x56_74, x56_75, x56_76, x56_78, x56_79, x56_81, x56_87, x56_89, x56_90, x56_93, x56_94, x56_97, x56_100, x56_102, x56_103, x56_104, x56_107, x56_110, x56_112, x56_113, isF, isK, isH, mK, nl_i, nl_n, nl_o, nl_r, c1_i, c1_r, mPush, mRv, G0_1, true_and, and_true, and_self, implies_true, List.length_nil, List.length_cons, Nat.reduceAdd, Nat.reduceLeDiff, Nat.zero_le, beq_self_eq_true, Nat.reduceBEq, decide_true, Bool.and_self, reduceCtorEq, ne_eq, not_true_eq_false, not_false_eq_true, false_implies, true_implies, Nat.reduceLT, Nat.reduceEqDiff, or_true, true_or, or_false, false_or, or_self, Int.reduceEq, Int.reduceNe, Int.reduceLT, Int.reduceLE, Int.reduceAdd, Int.reduceSub, Int.reduceMul, Int.reduceNeg, Int.reduceToNat, if_true, if_false, Classical.not_not, Int.cast_ofNat_Int, kd0, rf0_0, rf0_1, rf0_2, rf0_3, rf0_4, rf0_5, rf0_6, rf0_7, rf0_8, kd1, kd2, kd3, kd4, kd5, kd6, kd7, kd8, kd9, kd10, kd11, rf1_0, rf1_1, rf1_3, rf1_4, rf1_5, rf1_6, rf1_8, rf1_9, rf1_10, rf1_11, kd12, kd13, kd14, kd15, kd16, kd17, kd18, kd19, kd20, kd21, kd22, kd23, rf12_0, rf12_1, rf12_2, rf12_3, rf12_4, rf12_5, rf12_6, rf12_7, rf12_8, rf12_9, rf12_10, rf23_0, rf23_1, rf23_2, rf23_3, rf23_4, e7, ek, ek2, ek3, ek4, eo, eo2, eo3, c8, c9, c10, n6, n7, n8, g1, g2, g3, g4, g5, r1, r2, Int.toNat_natCast, e0, e1, q, q2]
        refine ct37 gC1 hb hw hf hf2 hsk.2.1 hsk.2.2.1 hq.1 hs' h2 ?_
        intro μ1 k1 k2 k3 k4
        have k2' : RC μ1 144 S f (fSt S o f (k + 1)) := by rw [e2]; exact k2
        have hs1 : cRel μ1 1 S := cRel_fr (fun x p1 p2 => k1 x (by omega)) hs'
        have hq1 := (fSt_q hw (o := o) (N := N) (by omega) (fun k hk => (hO.1 k hk).1) hf hf2 (k + 1) (by omega)).1 r (by omega)
        have hq0 := hq.1 r (by omega)
        have e0' := (k2'.2 r (by omega)).1
        simp only [Nat.reduceAdd] at e0'
        by_cases z : fSt S o f (k + 1) 0 r = fSt S o f k 0 r
        · rw [if_neg (fun y => y.1 z)] at hm
          simp (disch := first | omega | exact rfl) only [x56_116, x56_118, x56_121, x56_122, x56_123, x56_125, x56_154, isF, isK, isH, mK, nl_i, nl_n, nl_o, nl_r, c1_i, c1_r, mPush, mRv, G0_1, true_and, and_true, and_self, implies_true, List.length_nil, List.length_cons, Nat.reduceAdd, Nat.reduceLeDiff, Nat.zero_le, beq_self_eq_true, Nat.reduceBEq, decide_true, Bool.and_self, reduceCtorEq, ne_eq, not_true_eq_false, not_false_eq_true, false_implies, true_implies, Nat.reduceLT, Nat.reduceEqDiff, or_true, true_or, or_false, false_or, or_self, Int.reduceEq, Int.reduceNe, Int.reduceLT, Int.reduceLE, Int.reduceAdd, Int.reduceSub, Int.reduceMul, Int.reduceNeg, Int.reduceToNat, if_true, if_false, Classical.not_not, Int.cast_ofNat_Int, kd0, rf0_0, rf0_1, rf0_2, rf0_3, rf0_4, rf0_5, rf0_6, rf0_7, rf0_8, g1, g2, g3, r1, r2, Int.toNat_natCast, e0', z, mWr_of]
          rw [x56_157, eI]
          exact ih (k + 1) (by omega) hm μ1 _ _ _ rfl rfl rfl (fun x hx => by rw [k1 x (by omega), h1 x hx]) k2'
        · have eg : S (7 + (4 * (fSt S o f k 0 r).toNat + (fSt S o f (k + 1) 0 r).toNat)) = rGap S (fSt S o f (k + 1) 0 r) (fSt S o f k 0 r) := by
            unfold rGap; rw [if_neg (fun y => z y.symm)]
          have gb := rGap_b hw (h := fSt S o f (k + 1) 0 r) hq1.1 hq0.1
          by_cases y : t < fSt S o f k 1 r + rGap S (fSt S o f (k + 1) 0 r) (fSt S o f k 0 r)
          · have y2 : ¬ fSt S o f k 1 r + rGap S (fSt S o f (k + 1) 0 r) (fSt S o f k 0 r) ≤ t := by omega
            rw [if_pos ⟨z, y⟩] at hm
            simp (disch := first | omega | exact rfl) only [x56_116, x56_118, x56_121, x56_122, x56_123, x56_125, x56_128, x56_129, x56_131, x56_132, x56_135, x56_137, x56_139, x56_142, x56_143, x56_144, x56_147, x56_148, x56_151, x56_153, isF, isK, isH, mK, nl_i, nl_n, nl_o, nl_r, c1_i, c1_r, mPush, mRv, G0_1, true_and, and_true, and_self, implies_true, List.length_nil, List.length_cons, Nat.reduceAdd, Nat.reduceLeDiff, Nat.zero_le, beq_self_eq_true, Nat.reduceBEq, decide_true, Bool.and_self, reduceCtorEq, ne_eq, not_true_eq_false, not_false_eq_true, false_implies, true_implies, Nat.reduceLT, Nat.reduceEqDiff, or_true, true_or, or_false, false_or, or_self, Int.reduceEq, Int.reduceNe, Int.reduceLT, Int.reduceLE, Int.reduceAdd, Int.reduceSub, Int.reduceMul, Int.reduceNeg, Int.reduceToNat, if_true, if_false, Classical.not_not, Int.cast_ofNat_Int, kd0, rf0_0, rf0_1, rf0_2, rf0_3, rf0_4, rf0_5, rf0_6, rf0_7, rf0_8, kd1, g1, g2, g3, r1, r2, Int.toNat_natCast, e0', z, mWr_of, ct5 gC1 hs1 (show isH _ from hq0.1) (show isH _ from hq1.1), eg, y, y2]
            rw [hm]
            exact hQ μ1 (fun x hx => by rw [k1 x (by omega), h1 x hx])
          · have y2 : fSt S o f k 1 r + rGap S (fSt S o f (k + 1) 0 r) (fSt S o f k 0 r) ≤ t := by omega
            rw [if_neg (fun w => y w.2)] at hm
            simp (disch := first | omega | exact rfl) only [x56_116, x56_118, x56_121, x56_122, x56_123, x56_125, x56_128, x56_129, x56_131, x56_132, x56_135, x56_137, x56_139, x56_142, x56_143, x56_144, x56_147, x56_148, x56_154, isF, isK, isH, mK, nl_i, nl_n, nl_o, nl_r, c1_i, c1_r, mPush, mRv, G0_1, true_and, and_true, and_self, implies_true, List.length_nil, List.length_cons, Nat.reduceAdd, Nat.reduceLeDiff, Nat.zero_le, beq_self_eq_true, Nat.reduceBEq, decide_true, Bool.and_self, reduceCtorEq, ne_eq, not_true_eq_false, not_false_eq_true, false_implies, true_implies, Nat.reduceLT, Nat.reduceEqDiff, or_true, true_or, or_false, false_or, or_self, Int.reduceEq, Int.reduceNe, Int.reduceLT, Int.reduceLE, Int.reduceAdd, Int.reduceSub, Int.reduceMul, Int.reduceNeg, Int.reduceToNat, if_true, if_false, Classical.not_not, Int.cast_ofNat_Int, kd0, rf0_0, rf0_1, rf0_2, rf0_3, rf0_4, rf0_5, rf0_6, rf0_7, rf0_8, kd1, g1, g2, g3, r1, r2, Int.toNat_natCast, e0', z, mWr_of, ct5 gC1 hs1 (show isH _ from hq0.1) (show isH _ from hq1.1), eg, y, y2]
            rw [x56_157, eI]
            exact ih (k + 1) (by omega) hm μ1 _ _ _ rfl rfl rfl (fun x hx => by rw [k1 x (by omega), h1 x hx]) k2'
    · rw [if_neg p] at hm
      have e2 : fSt S o f (k + 1) = fSt S o f k := if_neg p
      simp (disch := first | omega | exact rfl) only [x56_19, x56_21, x56_22, x56_25, x56_28, x56_31, x56_32, x56_35, x56_38, x56_40, x56_41, x56_43, x56_44, x56_47, x56_50, x56_52, x56_53, x56_54, x56_57, x56_154, isF, isK, isH, mK, nl_i, nl_n, nl_o, nl_r, c1_i, c1_r, mPush, mRv, G0_1, true_and, and_true, and_self, implies_true, List.length_nil, List.length_cons, Nat.reduceAdd, Nat.reduceLeDiff, Nat.zero_le, beq_self_eq_true, Nat.reduceBEq, decide_true, Bool.and_self, reduceCtorEq, ne_eq, not_true_eq_false, not_false_eq_true, false_implies, true_implies, Nat.reduceLT, Nat.reduceEqDiff, or_true, true_or, or_false, false_or, or_self, Int.reduceEq, Int.reduceNe, Int.reduceLT, Int.reduceLE, Int.reduceAdd, Int.reduceSub, Int.reduceMul, Int.reduceNeg, Int.reduceToNat, if_true, if_false, Classical.not_not, Int.cast_ofNat_Int, kd0, rf0_0, rf0_1, rf0_2, rf0_3, rf0_4, rf0_5, rf0_6, rf0_7, rf0_8, kd1, kd2, kd3, kd4, kd5, kd6, kd7, kd8, kd9, kd10, kd11, rf1_0, rf1_1, rf1_3, rf1_4, rf1_5, rf1_6, rf1_8, rf1_9, rf1_10, rf1_11, kd12, kd13, kd14, kd15, kd16, kd17, kd18, kd19, kd20, kd21, kd22, kd23, rf12_0, rf12_1, rf12_2, rf12_3, rf12_4, rf12_5, rf12_6, rf12_7, rf12_8, rf12_9, rf12_10, rf23_0, rf23_1, rf23_2, rf23_3, rf23_4, e7, ek, ek2, ek3, ek4, eo, eo2, eo3, c8, n6, n7, n8, Int.toNat_natCast, p, mWr_of]
      rw [x56_157, eI]
      exact ih (k + 1) (by omega) hm μ _ _ _ rfl n7 n8 h1 (by rw [e2]; exact h2)
end WHE
