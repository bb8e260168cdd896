section INI6
variable {E : ME} {Q : Option MV → MG → MU → Prop}
theorem rf176 : ∀ k, mRf G0 176 k = if k = 23 then some 194 else if k = 20 then some 193 else if k = 19 then some 192 else if k = 18 then some 191 else if k = 17 then some 190 else if k = 16 then some 189 else if k = 14 then some 188 else if k = 13 then some 187 else if k = 12 then some 186 else if k = 11 then some 185 else if k = 10 then some 184 else if k = 9 then some 183 else if k = 8 then some 182 else if k = 6 then some 181 else if k = 5 then some 180 else if k = 4 then some 179 else if k = 2 then some 178 else if k = 1 then some 177 else none := by
  intro k
  have h1 : ∀ k : Fin 32, mRf G0 176 k = if (k : Nat) = 23 then some 194 else if (k : Nat) = 20 then some 193 else if (k : Nat) = 19 then some 192 else if (k : Nat) = 18 then some 191 else if (k : Nat) = 17 then some 190 else if (k : Nat) = 16 then some 189 else if (k : Nat) = 14 then some 188 else if (k : Nat) = 13 then some 187 else if (k : Nat) = 12 then some 186 else if (k : Nat) = 11 then some 185 else if (k : Nat) = 10 then some 184 else if (k : Nat) = 9 then some 183 else if (k : Nat) = 8 then some 182 else if (k : Nat) = 6 then some 181 else if (k : Nat) = 5 then some 180 else if (k : Nat) = 4 then some 179 else if (k : Nat) = 2 then some 178 else if (k : Nat) = 1 then some 177 else none := by decide +kernel
  by_cases h : k < 32
  · exact h1 ⟨k, h⟩
  · have hl : (gRf.getD 176 []).length ≤ 32 := by decide +kernel
    have e : mRf G0 176 k = none := by
      show (gRf.getD 176 []).getD k none = none
      rw [List.getD_eq_getElem?_getD, List.getElem?_eq_none (by omega)]; rfl
    rw [e]
    repeat rw [if_neg (by omega)]
theorem zq76 {g : MG} (hk : mKd g 176 = (6, 0)) (hr : mRf g 176 1 = some 177) (hk2 : mKd g 177 = (10, 152)) {μ0 : MU} (hQ : ∀ μ' : MU, (∀ x, ¬ x = 177 → μ' x = μ0 x) → (∀ i, ¬ (7 ≤ i ∧ i < 23) → μ' 177 i = μ0 177 i) → (∀ i : Nat, i < 16 → μ' 177 (7 + i) = if i / 4 = i % 4 then 0 else 10) → Q none g μ') : ∀ (m i : Nat), i + m = 16 → ∀ μ : MU, (∀ x, ¬ x = 177 → μ x = μ0 x) → (∀ i, ¬ (7 ≤ i ∧ i < 23) → μ 177 i = μ0 177 i) → (∀ j : Nat, j < i → μ 177 (7 + j) = if j / 4 = j % 4 then 0 else 10) →
    Wp E 76 194 [some (.inr (.inr (.inl 176))), some (.inl i)] [] g μ Q := by
  intro m
  induction m with
  | zero =>
    intro i hi μ h1 h2 h3
    have e1 : (16 : Int) ≤ i := by omega
    have e2 : ¬ (i : Int) < 16 := by omega
    simp (disch := first | omega | exact rfl) only [x76_194, x76_195, x76_197, x76_230, isF, isK, isH, mK, nl_i, nl_n, nl_o, nl_r, c1_i, c1_r, mPush, mRv, G0_1, true_and, and_true, and_self, implies_true, List.length_nil, List.length_cons, Nat.reduceAdd, Nat.reduceLeDiff, Nat.zero_le, beq_self_eq_true, Nat.reduceBEq, decide_true, Bool.and_self, reduceCtorEq, ne_eq, not_true_eq_false, not_false_eq_true, false_implies, true_implies, Nat.reduceLT, Nat.reduceEqDiff, or_true, true_or, or_false, false_or, or_self, Int.reduceEq, Int.reduceNe, Int.reduceLT, Int.reduceLE, Int.reduceAdd, Int.reduceSub, Int.reduceMul, Int.reduceNeg, Int.reduceToNat, if_true, if_false, Classical.not_not, Int.cast_ofNat_Int, e1, e2]
    exact hQ μ h1 h2 (fun j hj => h3 j (by omega))
  | succ m ih =>
    intro i hi μ h1 h2 h3
    have e1 : ¬ (16 : Int) ≤ i := by omega
    have e2 : (i : Int) < 16 := by omega
    have e3 : 7 + (i : Int) = ((7 + i : Nat) : Int) := by omega
    have e4 : (0 : Int) ≤ ((7 + i : Nat) : Int) := by omega
    have e5 : ((7 + i : Nat) : Int) < 152 := by omega
    have eI : (i : Int) + 1 = ((i + 1 : Nat) : Int) := by omega
    have ed : (i : Int).tdiv 4 = ((i / 4 : Nat) : Int) := by rw [Int.tdiv_eq_ediv_of_nonneg (by omega)]; omega
    have er : (i : Int).tmod 4 = ((i % 4 : Nat) : Int) := by rw [Int.tmod_eq_emod_of_nonneg (by omega)]; omega
    have next : ∀ v : Int, v = (if i / 4 = i % 4 then 0 else 10) → Wp E 76 227 [some (.inr (.inr (.inl 176))), some (.inl ((i : Int) + 1))] [] g (mUp μ 177 (7 + i) v) Q := by
      intro v hv
      rw [x76_227, eI]
      refine ih (i + 1) (by omega) _ (fun x hx => by rw [mUp_ne hx]; exact h1 x hx) (fun j hj => by rw [mUp_nj (by omega)]; exact h2 j hj) (fun j hj => ?_)
      rw [mUp_at]
      by_cases q : j = i
      · rw [if_pos (by omega), q, hv]
      · rw [if_neg (by omega)]; exact h3 j (by omega)
    by_cases q : i / 4 = i % 4
    · have q2 : ((i / 4 : Nat) : Int) = ((i % 4 : Nat) : Int) := by omega
      simp (disch := first | omega | exact rfl) only [x76_194, x76_195, x76_197, x76_200, x76_201, x76_204, x76_206, x76_207, x76_208, x76_209, x76_210, x76_211, x76_212, x76_213, x76_214, x76_217, x76_218, x76_223, x76_224, isF, isK, isH, mK, nl_i, nl_n, nl_o, nl_r, c1_i, c1_r, mPush, mRv, G0_1, true_and, and_true, and_self, implies_true, List.length_nil, List.length_cons, Nat.reduceAdd, Nat.reduceLeDiff, Nat.zero_le, beq_self_eq_true, Nat.reduceBEq, decide_true, Bool.and_self, reduceCtorEq, ne_eq, not_true_eq_false, not_false_eq_true, false_implies, true_implies, Nat.reduceLT, Nat.reduceEqDiff, or_true, true_or, or_false, false_or, or_self, Int.reduceEq, Int.reduceNe, Int.reduceLT, Int.reduceLE, Int.reduceAdd, Int.reduceSub, Int.reduceMul, Int.reduceNeg, Int.reduceToNat, if_true, if_false, Classical.not_not, Int.cast_ofNat_Int, hk, hr, hk2, e1, e2, e3, e4, e5, ed, er, q2, mWr_of, Int.toNat_natCast]
      exact next 0 (by rw [if_pos q])
    · have q2 : ¬ ((i / 4 : Nat) : Int) = ((i % 4 : Nat) : Int) := by omega
      simp (disch := first | omega | exact rfl) only [x76_194, x76_195, x76_197, x76_200, x76_201, x76_204, x76_206, x76_207, x76_208, x76_209, x76_210, x76_211, x76_212, x76_213, x76_214, x76_221, x76_223, x76_224, isF, isK, isH, mK, nl_i, nl_n, nl_o, nl_r, c1_i, c1_r, mPush, mRv, G0_1, true_and, and_true, and_self, implies_true, List.length_nil, List.length_cons, Nat.reduceAdd, Nat.reduceLeDiff, Nat.zero_le, beq_self_eq_true, Nat.reduceBEq, decide_true, Bool.and_self, reduceCtorEq, ne_eq, not_true_eq_false, not_false_eq_true, false_implies, true_implies, Nat.reduceLT, Nat.reduceEqDiff, or_true, true_or, or_false, false_or, or_self, Int.reduceEq, Int.reduceNe, Int.reduceLT, Int.reduceLE, Int.reduceAdd, Int.reduceSub, Int.reduceMul, Int.reduceNeg, Int.reduceToNat, if_true, if_false, Classical.not_not, Int.cast_ofNat_Int, hk, hr, hk2, e1, e2, e3, e4, e5, ed, er, q2, mWr_of, Int.toNat_natCast]
      exact next 10 (by rw [if_neg q])
/-- the beginning of the reference -/
def RI (μ : MU) : Prop := (μ 177 0 = 15 ∧ μ 177 1 = 5 ∧ μ 177 2 = 10 ∧ μ 177 3 = 3 ∧ μ 177 4 = 5 ∧ μ 177 5 = 0 ∧ μ 177 6 = 0) ∧ (∀ i : Nat, i < 16 → μ 177 (7 + i) = if i / 4 = i % 4 then 0 else 10) ∧ μ 176 3 = 0 ∧ μ 176 7 = 0 ∧ ∀ i, μ 180 i = 0
/-- the heap of the reference, laid to the place n -/
def MB (g0 g : MG) (n s : Nat) (r : Nat → Option Nat) : Prop := GA g n ∧ mKd g 176 = (6, 0) ∧ (∀ k, mRf g 176 k = r k) ∧ GE g 177 n ∧ GS g0 g 176 ∧ g.2.1 = g0.2.1 + s
theorem MB_s {g0 g : MG} {n s i sz : Nat} {r : Nat → Option Nat} {kd : Nat × Nat} (h : MB g0 g n s r) (hn : 177 ≤ n) (h1 : mKd G0 n = kd) (h2 : ∀ k, mRf G0 n k = none) : MB g0 (mSetR (mGrow g kd sz) 176 i (some n)) (n + 1) (s + sz) (fun k => if k = i then some n else r k) := by
  obtain ⟨⟨hg, hA⟩, hk, hr, hE, hS, hs⟩ := h
  refine ⟨⟨by rw [st_1, gr_1, hg], fun x hx => ⟨?_, fun k => ?_⟩⟩, ?_, fun k => ?_, fun x z1 z2 => ⟨?_, fun k => ?_⟩, fun x hx => ⟨?_, fun k => ?_⟩, ?_⟩
  · rw [st_k, gr_kn (by omega)]; exact (hA x (by omega)).1
  · rw [st_rn (by omega), gr_rn (by omega)]; exact (hA x (by omega)).2 k
  · rw [st_k, gr_kn (by omega)]; exact hk
  · show _ = if k = i then some n else r k
    rw [st_ra]
    by_cases w : k = i
    · rw [if_pos w, if_pos w]
    · rw [if_neg w, if_neg w, gr_rn (by omega)]; exact hr k
  · rw [st_k]
    by_cases w : x = n
    · rw [gr_ke (by omega), w, h1]
    · rw [gr_kn (by omega)]; exact (hE x z1 (by omega)).1
  · rw [st_rn (by omega)]
    by_cases w : x = n
    · rw [gr_re (by omega), w, h2]
    · rw [gr_rn (by omega)]; exact (hE x z1 (by omega)).2 k
  · rw [st_k, gr_kn (by omega)]; exact (hS x hx).1
  · rw [st_rn (by omega), gr_rn (by omega)]; exact (hS x hx).2 k
  · rw [st_s, gr_s, hs]; omega
theorem ct76a {g : MG} {μ : MU} (hA : GA g 177) (hk : mKd g 176 = (6, 0)) (hr : ∀ k, mRf g 176 k = none) (hz : ∀ j, μ 176 j = 0)
    (hQ : ∀ (g' : MG) (μ' : MU), GA g' 195 → g'.2.1 = g.2.1 + 2131 → GS g g' 176 → GE g' 176 195 → (∀ x, x < 176 → μ' x = μ x) → (∀ j, μ' 176 j = 0) → (∀ i, μ' 177 i = 0) → (∀ i, μ' 180 i = 0) → Wp E 76 150 [some (.inr (.inr (.inl 176))), none] [] g' μ' Q) :
    Wp E 76 0 [some (.inr (.inr (.inl 176))), none] [] g μ Q := by
  have h0 : MB g g 177 0 (fun _ => none) := ⟨hA, hk, hr, fun x z1 z2 => by omega, fun x _ => ⟨rfl, fun _ => rfl⟩, rfl⟩
  simp (disch := first | omega | exact rfl) only [x76_0, x76_1, isF, isK, isH, mK, nl_i, nl_n, nl_o, nl_r, c1_i, c1_r, mPush, mRv, G0_1, true_and, and_true, and_self, implies_true, List.length_nil, List.length_cons, Nat.reduceAdd, Nat.reduceLeDiff, Nat.zero_le, beq_self_eq_true, Nat.reduceBEq, decide_true, Bool.and_self, reduceCtorEq, ne_eq, not_true_eq_false, not_false_eq_true, false_implies, true_implies, Nat.reduceLT, Nat.reduceEqDiff, or_true, true_or, or_false, false_or, or_self, Int.reduceEq, Int.reduceNe, Int.reduceLT, Int.reduceLE, Int.reduceAdd, Int.reduceSub, Int.reduceMul, Int.reduceNeg, Int.reduceToNat, if_true, if_false, Classical.not_not, Int.cast_ofNat_Int]
  have hg0 := h0.1.1
  have kk0 : mKd (mGrow g (10, 152) 152) 176 = (6, 0) := by rw [gr_kn (by omega)]; exact h0.2.1
  simp (disch := first | omega | exact rfl) only [x76_4, x76_5, x76_8, x76_10, isF, isK, isH, mK, nl_i, nl_n, nl_o, nl_r, c1_i, c1_r, mPush, mRv, G0_1, true_and, and_true, and_self, implies_true, List.length_nil, List.length_cons, Nat.reduceAdd, Nat.reduceLeDiff, Nat.zero_le, beq_self_eq_true, Nat.reduceBEq, decide_true, Bool.and_self, reduceCtorEq, ne_eq, not_true_eq_false, not_false_eq_true, false_implies, true_implies, Nat.reduceLT, Nat.reduceEqDiff, or_true, true_or, or_false, false_or, or_self, Int.reduceEq, Int.reduceNe, Int.reduceLT, Int.reduceLE, Int.reduceAdd, Int.reduceSub, Int.reduceMul, Int.reduceNeg, Int.reduceToNat, if_true, if_false, Classical.not_not, Int.cast_ofNat_Int, hg0, kk0]
  have h1 := MB_s (kd := (10, 152)) (sz := 152) (i := 1) h0 (by omega) rfl (rfG (l := []) rfl)
  generalize mSetR (mGrow g (10, 152) 152) 176 1 (some 177) = g1 at h1 ⊢
  clear kk0
  have hg1 := h1.1.1
  have kk1 : mKd (mGrow g1 (10, 888) 888) 176 = (6, 0) := by rw [gr_kn (by omega)]; exact h1.2.1
  simp (disch := first | omega | exact rfl) only [x76_13, x76_14, x76_17, x76_19, isF, isK, isH, mK, nl_i, nl_n, nl_o, nl_r, c1_i, c1_r, mPush, mRv, G0_1, true_and, and_true, and_self, implies_true, List.length_nil, List.length_cons, Nat.reduceAdd, Nat.reduceLeDiff, Nat.zero_le, beq_self_eq_true, Nat.reduceBEq, decide_true, Bool.and_self, reduceCtorEq, ne_eq, not_true_eq_false, not_false_eq_true, false_implies, true_implies, Nat.reduceLT, Nat.reduceEqDiff, or_true, true_or, or_false, false_or, or_self, Int.reduceEq, Int.reduceNe, Int.reduceLT, Int.reduceLE, Int.reduceAdd, Int.reduceSub, Int.reduceMul, Int.reduceNeg, Int.reduceToNat, if_true, if_false, Classical.not_not, Int.cast_ofNat_Int, hg1, kk1]
  have h2 := MB_s (kd := (10, 888)) (sz := 888) (i := 2) h1 (by omega) rfl (rfG (l := []) rfl)
  generalize mSetR (mGrow g1 (10, 888) 888) 176 2 (some 178) = g2 at h2 ⊢
  clear kk1
  have hg2 := h2.1.1
  have kk2 : mKd (mGrow g2 (10, 296) 296) 176 = (6, 0) := by rw [gr_kn (by omega)]; exact h2.2.1
  simp (disch := first | omega | exact rfl) only [x76_22, x76_23, x76_26, x76_28, isF, isK, isH, mK, nl_i, nl_n, nl_o, nl_r, c1_i, c1_r, mPush, mRv, G0_1, true_and, and_true, and_self, implies_true, List.length_nil, List.length_cons, Nat.reduceAdd, Nat.reduceLeDiff, Nat.zero_le, beq_self_eq_true, Nat.reduceBEq, decide_true, Bool.and_self, reduceCtorEq, ne_eq, not_true_eq_false, not_false_eq_true, false_implies, true_implies, Nat.reduceLT, Nat.reduceEqDiff, or_true, true_or, or_false, false_or, or_self, Int.reduceEq, Int.reduceNe, Int.reduceLT, Int.reduceLE, Int.reduceAdd, Int.reduceSub, Int.reduceMul, Int.reduceNeg, Int.reduceToNat, if_true, if_false, Classical.not_not, Int.cast_ofNat_Int, hg2, kk2]
  have h3 := MB_s (kd := (10, 296)) (sz := 296) (i := 4) h2 (by omega) rfl (rfG (l := []) rfl)
  generalize mSetR (mGrow g2 (10, 296) 296) 176 4 (some 179) = g3 at h3 ⊢
  clear kk2
  have hg3 := h3.1.1
  have kk3 : mKd (mGrow g3 (12, 2) 2) 176 = (6, 0) := by rw [gr_kn (by omega)]; exact h3.2.1
  simp (disch := first | omega | exact rfl) only [x76_31, x76_32, x76_33, x76_35, isF, isK, isH, mK, nl_i, nl_n, nl_o, nl_r, c1_i, c1_r, mPush, mRv, G0_1, true_and, and_true, and_self, implies_true, List.length_nil, List.length_cons, Nat.reduceAdd, Nat.reduceLeDiff, Nat.zero_le, beq_self_eq_true, Nat.reduceBEq, decide_true, Bool.and_self, reduceCtorEq, ne_eq, not_true_eq_false, not_false_eq_true, false_implies, true_implies, Nat.reduceLT, Nat.reduceEqDiff, or_true, true_or, or_false, false_or, or_self, Int.reduceEq, Int.reduceNe, Int.reduceLT, Int.reduceLE, Int.reduceAdd, Int.reduceSub, Int.reduceMul, Int.reduceNeg, Int.reduceToNat, if_true, if_false, Classical.not_not, Int.cast_ofNat_Int, hg3, kk3]
  have h4 := MB_s (kd := (12, 2)) (sz := 2) (i := 5) h3 (by omega) rfl (rfG (l := []) rfl)
  generalize mSetR (mGrow g3 (12, 2) 2) 176 5 (some 180) = g4 at h4 ⊢
  clear kk3
  have hg4 := h4.1.1
  have kk4 : mKd (mGrow g4 (10, 80) 80) 176 = (6, 0) := by rw [gr_kn (by omega)]; exact h4.2.1
  simp (disch := first | omega | exact rfl) only [x76_38, x76_39, x76_41, x76_43, isF, isK, isH, mK, nl_i, nl_n, nl_o, nl_r, c1_i, c1_r, mPush, mRv, G0_1, true_and, and_true, and_self, implies_true, List.length_nil, List.length_cons, Nat.reduceAdd, Nat.reduceLeDiff, Nat.zero_le, beq_self_eq_true, Nat.reduceBEq, decide_true, Bool.and_self, reduceCtorEq, ne_eq, not_true_eq_false, not_false_eq_true, false_implies, true_implies, Nat.reduceLT, Nat.reduceEqDiff, or_true, true_or, or_false, false_or, or_self, Int.reduceEq, Int.reduceNe, Int.reduceLT, Int.reduceLE, Int.reduceAdd, Int.reduceSub, Int.reduceMul, Int.reduceNeg, Int.reduceToNat, if_true, if_false, Classical.not_not, Int.cast_ofNat_Int, hg4, kk4]
  have h5 := MB_s (kd := (10, 80)) (sz := 80) (i := 6) h4 (by omega) rfl (rfG (l := []) rfl)
  generalize mSetR (mGrow g4 (10, 80) 80) 176 6 (some 181) = g5 at h5 ⊢
  clear kk4
  have hg5 := h5.1.1
  have kk5 : mKd (mGrow g5 (10, 21) 21) 176 = (6, 0) := by rw [gr_kn (by omega)]; exact h5.2.1
  simp (disch := first | omega | exact rfl) only [x76_46, x76_47, x76_49, x76_51, isF, isK, isH, mK, nl_i, nl_n, nl_o, nl_r, c1_i, c1_r, mPush, mRv, G0_1, true_and, and_true, and_self, implies_true, List.length_nil, List.length_cons, Nat.reduceAdd, Nat.reduceLeDiff, Nat.zero_le, beq_self_eq_true, Nat.reduceBEq, decide_true, Bool.and_self, reduceCtorEq, ne_eq, not_true_eq_false, not_false_eq_true, false_implies, true_implies, Nat.reduceLT, Nat.reduceEqDiff, or_true, true_or, or_false, false_or, or_self, Int.reduceEq, Int.reduceNe, Int.reduceLT, Int.reduceLE, Int.reduceAdd, Int.reduceSub, Int.reduceMul, Int.reduceNeg, Int.reduceToNat, if_true, if_false, Classical.not_not, Int.cast_ofNat_Int, hg5, kk5]
  have h6 := MB_s (kd := (10, 21)) (sz := 21) (i := 8) h5 (by omega) rfl (rfG (l := []) rfl)
  generalize mSetR (mGrow g5 (10, 21) 21) 176 8 (some 182) = g6 at h6 ⊢
  clear kk5
  have hg6 := h6.1.1
  have kk6 : mKd (mGrow g6 (10, 21) 21) 176 = (6, 0) := by rw [gr_kn (by omega)]; exact h6.2.1
  simp (disch := first | omega | exact rfl) only [x76_54, x76_55, x76_57, x76_59, isF, isK, isH, mK, nl_i, nl_n, nl_o, nl_r, c1_i, c1_r, mPush, mRv, G0_1, true_and, and_true, and_self, implies_true, List.length_nil, List.length_cons, Nat.reduceAdd, Nat.reduceLeDiff, Nat.zero_le, beq_self_eq_true, Nat.reduceBEq, decide_true, Bool.and_self, reduceCtorEq, ne_eq, not_true_eq_false, not_false_eq_true, false_implies, true_implies, Nat.reduceLT, Nat.reduceEqDiff, or_true, true_or, or_false, false_or, or_self, Int.reduceEq, Int.reduceNe, Int.reduceLT, Int.reduceLE, Int.reduceAdd, Int.reduceSub, Int.reduceMul, Int.reduceNeg, Int.reduceToNat, if_true, if_false, Classical.not_not, Int.cast_ofNat_Int, hg6, kk6]
  have h7 := MB_s (kd := (10, 21)) (sz := 21) (i := 9) h6 (by omega) rfl (rfG (l := []) rfl)
  generalize mSetR (mGrow g6 (10, 21) 21) 176 9 (some 183) = g7 at h7 ⊢
  clear kk6
  have hg7 := h7.1.1
  have kk7 : mKd (mGrow g7 (10, 21) 21) 176 = (6, 0) := by rw [gr_kn (by omega)]; exact h7.2.1
  simp (disch := first | omega | exact rfl) only [x76_62, x76_63, x76_65, x76_67, isF, isK, isH, mK, nl_i, nl_n, nl_o, nl_r, c1_i, c1_r, mPush, mRv, G0_1, true_and, and_true, and_self, implies_true, List.length_nil, List.length_cons, Nat.reduceAdd, Nat.reduceLeDiff, Nat.zero_le, beq_self_eq_true, Nat.reduceBEq, decide_true, Bool.and_self, reduceCtorEq, ne_eq, not_true_eq_false, not_false_eq_true, false_implies, true_implies, Nat.reduceLT, Nat.reduceEqDiff, or_true, true_or, or_false, false_or, or_self, Int.reduceEq, Int.reduceNe, Int.reduceLT, Int.reduceLE, Int.reduceAdd, Int.reduceSub, Int.reduceMul, Int.reduceNeg, Int.reduceToNat, if_true, if_false, Classical.not_not, Int.cast_ofNat_Int, hg7, kk7]
  have h8 := MB_s (kd := (10, 21)) (sz := 21) (i := 10) h7 (by omega) rfl (rfG (l := []) rfl)
  generalize mSetR (mGrow g7 (10, 21) 21) 176 10 (some 184) = g8 at h8 ⊢
  clear kk7
  have hg8 := h8.1.1
  have kk8 : mKd (mGrow g8 (10, 21) 21) 176 = (6, 0) := by rw [gr_kn (by omega)]; exact h8.2.1
  simp (disch := first | omega | exact rfl) only [x76_70, x76_71, x76_73, x76_75, isF, isK, isH, mK, nl_i, nl_n, nl_o, nl_r, c1_i, c1_r, mPush, mRv, G0_1, true_and, and_true, and_self, implies_true, List.length_nil, List.length_cons, Nat.reduceAdd, Nat.reduceLeDiff, Nat.zero_le, beq_self_eq_true, Nat.reduceBEq, decide_true, Bool.and_self, reduceCtorEq, ne_eq, not_true_eq_false, not_false_eq_true, false_implies, true_implies, Nat.reduceLT, Nat.reduceEqDiff, or_true, true_or, or_false, false_or, or_self, Int.reduceEq, Int.reduceNe, Int.reduceLT, Int.reduceLE, Int.reduceAdd, Int.reduceSub, Int.reduceMul, Int.reduceNeg, Int.reduceToNat, if_true, if_false, Classical.not_not, Int.cast_ofNat_Int, hg8, kk8]
  have h9 := MB_s (kd := (10, 21)) (sz := 21) (i := 11) h8 (by omega) rfl (rfG (l := []) rfl)
  generalize mSetR (mGrow g8 (10, 21) 21) 176 11 (some 185) = g9 at h9 ⊢
  clear kk8
  have hg9 := h9.1.1
  have kk9 : mKd (mGrow g9 (10, 126) 126) 176 = (6, 0) := by rw [gr_kn (by omega)]; exact h9.2.1
  simp (disch := first | omega | exact rfl) only [x76_78, x76_79, x76_81, x76_83, isF, isK, isH, mK, nl_i, nl_n, nl_o, nl_r, c1_i, c1_r, mPush, mRv, G0_1, true_and, and_true, and_self, implies_true, List.length_nil, List.length_cons, Nat.reduceAdd, Nat.reduceLeDiff, Nat.zero_le, beq_self_eq_true, Nat.reduceBEq, decide_true, Bool.and_self, reduceCtorEq, ne_eq, not_true_eq_false, not_false_eq_true, false_implies, true_implies, Nat.reduceLT, Nat.reduceEqDiff, or_true, true_or, or_false, false_or, or_self, Int.reduceEq, Int.reduceNe, Int.reduceLT, Int.reduceLE, Int.reduceAdd, Int.reduceSub, Int.reduceMul, Int.reduceNeg, Int.reduceToNat, if_true, if_false, Classical.not_not, Int.cast_ofNat_Int, hg9, kk9]
  have h10 := MB_s (kd := (10, 126)) (sz := 126) (i := 12) h9 (by omega) rfl (rfG (l := []) rfl)
  generalize mSetR (mGrow g9 (10, 126) 126) 176 12 (some 186) = g10 at h10 ⊢
  clear kk9
  have hg10 := h10.1.1
  have kk10 : mKd (mGrow g10 (10, 126) 126) 176 = (6, 0) := by rw [gr_kn (by omega)]; exact h10.2.1
  simp (disch := first | omega | exact rfl) only [x76_86, x76_87, x76_89, x76_91, isF, isK, isH, mK, nl_i, nl_n, nl_o, nl_r, c1_i, c1_r, mPush, mRv, G0_1, true_and, and_true, and_self, implies_true, List.length_nil, List.length_cons, Nat.reduceAdd, Nat.reduceLeDiff, Nat.zero_le, beq_self_eq_true, Nat.reduceBEq, decide_true, Bool.and_self, reduceCtorEq, ne_eq, not_true_eq_false, not_false_eq_true, false_implies, true_implies, Nat.reduceLT, Nat.reduceEqDiff, or_true, true_or, or_false, false_or, or_self, Int.reduceEq, Int.reduceNe, Int.reduceLT, Int.reduceLE, Int.reduceAdd, Int.reduceSub, Int.reduceMul, Int.reduceNeg, Int.reduceToNat, if_true, if_false, Classical.not_not, Int.cast_ofNat_Int, hg10, kk10]
  have h11 := MB_s (kd := (10, 126)) (sz := 126) (i := 13) h10 (by omega) rfl (rfG (l := []) rfl)
  generalize mSetR (mGrow g10 (10, 126) 126) 176 13 (some 187) = g11 at h11 ⊢
  clear kk10
  have hg11 := h11.1.1
  have kk11 : mKd (mGrow g11 (10, 5) 5) 176 = (6, 0) := by rw [gr_kn (by omega)]; exact h11.2.1
  simp (disch := first | omega | exact rfl) only [x76_94, x76_95, x76_96, x76_98, isF, isK, isH, mK, nl_i, nl_n, nl_o, nl_r, c1_i, c1_r, mPush, mRv, G0_1, true_and, and_true, and_self, implies_true, List.length_nil, List.length_cons, Nat.reduceAdd, Nat.reduceLeDiff, Nat.zero_le, beq_self_eq_true, Nat.reduceBEq, decide_true, Bool.and_self, reduceCtorEq, ne_eq, not_true_eq_false, not_false_eq_true, false_implies, true_implies, Nat.reduceLT, Nat.reduceEqDiff, or_true, true_or, or_false, false_or, or_self, Int.reduceEq, Int.reduceNe, Int.reduceLT, Int.reduceLE, Int.reduceAdd, Int.reduceSub, Int.reduceMul, Int.reduceNeg, Int.reduceToNat, if_true, if_false, Classical.not_not, Int.cast_ofNat_Int, hg11, kk11]
  have h12 := MB_s (kd := (10, 5)) (sz := 5) (i := 14) h11 (by omega) rfl (rfG (l := []) rfl)
  generalize mSetR (mGrow g11 (10, 5) 5) 176 14 (some 188) = g12 at h12 ⊢
  clear kk11
  have hg12 := h12.1.1
  have kk12 : mKd (mGrow g12 (10, 30) 30) 176 = (6, 0) := by rw [gr_kn (by omega)]; exact h12.2.1
  simp (disch := first | omega | exact rfl) only [x76_101, x76_102, x76_104, x76_106, isF, isK, isH, mK, nl_i, nl_n, nl_o, nl_r, c1_i, c1_r, mPush, mRv, G0_1, true_and, and_true, and_self, implies_true, List.length_nil, List.length_cons, Nat.reduceAdd, Nat.reduceLeDiff, Nat.zero_le, beq_self_eq_true, Nat.reduceBEq, decide_true, Bool.and_self, reduceCtorEq, ne_eq, not_true_eq_false, not_false_eq_true, false_implies, true_implies, Nat.reduceLT, Nat.reduceEqDiff, or_true, true_or, or_false, false_or, or_self, Int.reduceEq, Int.reduceNe, Int.reduceLT, Int.reduceLE, Int.reduceAdd, Int.reduceSub, Int.reduceMul, Int.reduceNeg, Int.reduceToNat, if_true, if_false, Classical.not_not, Int.cast_ofNat_Int, hg12, kk12]
  have h13 := MB_s (kd := (10, 30)) (sz := 30) (i := 16) h12 (by omega) rfl (rfG (l := []) rfl)
  generalize mSetR (mGrow g12 (10, 30) 30) 176 16 (some 189) = g13 at h13 ⊢
  clear kk12
  have hg13 := h13.1.1
  have kk13 : mKd (mGrow g13 (10, 30) 30) 176 = (6, 0) := by rw [gr_kn (by omega)]; exact h13.2.1
  simp (disch := first | omega | exact rfl) only [x76_109, x76_110, x76_112, x76_114, isF, isK, isH, mK, nl_i, nl_n, nl_o, nl_r, c1_i, c1_r, mPush, mRv, G0_1, true_and, and_true, and_self, implies_true, List.length_nil, List.length_cons, Nat.reduceAdd, Nat.reduceLeDiff, Nat.zero_le, beq_self_eq_true, Nat.reduceBEq, decide_true, Bool.and_self, reduceCtorEq, ne_eq, not_true_eq_false, not_false_eq_true, false_implies, true_implies, Nat.reduceLT, Nat.reduceEqDiff, or_true, true_or, or_false, false_or, or_self, Int.reduceEq, Int.reduceNe, Int.reduceLT, Int.reduceLE, Int.reduceAdd, Int.reduceSub, Int.reduceMul, Int.reduceNeg, Int.reduceToNat, if_true, if_false, Classical.not_not, Int.cast_ofNat_Int, hg13, kk13]
  have h14 := MB_s (kd := (10, 30)) (sz := 30) (i := 17) h13 (by omega) rfl (rfG (l := []) rfl)
  generalize mSetR (mGrow g13 (10, 30) 30) 176 17 (some 190) = g14 at h14 ⊢
  clear kk13
  have hg14 := h14.1.1
  have kk14 : mKd (mGrow g14 (12, 30) 30) 176 = (6, 0) := by rw [gr_kn (by omega)]; exact h14.2.1
  simp (disch := first | omega | exact rfl) only [x76_117, x76_118, x76_120, x76_122, isF, isK, isH, mK, nl_i, nl_n, nl_o, nl_r, c1_i, c1_r, mPush, mRv, G0_1, true_and, and_true, and_self, implies_true, List.length_nil, List.length_cons, Nat.reduceAdd, Nat.reduceLeDiff, Nat.zero_le, beq_self_eq_true, Nat.reduceBEq, decide_true, Bool.and_self, reduceCtorEq, ne_eq, not_true_eq_false, not_false_eq_true, false_implies, true_implies, Nat.reduceLT, Nat.reduceEqDiff, or_true, true_or, or_false, false_or, or_self, Int.reduceEq, Int.reduceNe, Int.reduceLT, Int.reduceLE, Int.reduceAdd, Int.reduceSub, Int.reduceMul, Int.reduceNeg, Int.reduceToNat, if_true, if_false, Classical.not_not, Int.cast_ofNat_Int, hg14, kk14]
  have h15 := MB_s (kd := (12, 30)) (sz := 30) (i := 18) h14 (by omega) rfl (rfG (l := []) rfl)
  generalize mSetR (mGrow g14 (12, 30) 30) 176 18 (some 191) = g15 at h15 ⊢
  clear kk14
  have hg15 := h15.1.1
  have kk15 : mKd (mGrow g15 (10, 21) 21) 176 = (6, 0) := by rw [gr_kn (by omega)]; exact h15.2.1
  simp (disch := first | omega | exact rfl) only [x76_125, x76_126, x76_128, x76_130, isF, isK, isH, mK, nl_i, nl_n, nl_o, nl_r, c1_i, c1_r, mPush, mRv, G0_1, true_and, and_true, and_self, implies_true, List.length_nil, List.length_cons, Nat.reduceAdd, Nat.reduceLeDiff, Nat.zero_le, beq_self_eq_true, Nat.reduceBEq, decide_true, Bool.and_self, reduceCtorEq, ne_eq, not_true_eq_false, not_false_eq_true, false_implies, true_implies, Nat.reduceLT, Nat.reduceEqDiff, or_true, true_or, or_false, false_or, or_self, Int.reduceEq, Int.reduceNe, Int.reduceLT, Int.reduceLE, Int.reduceAdd, Int.reduceSub, Int.reduceMul, Int.reduceNeg, Int.reduceToNat, if_true, if_false, Classical.not_not, Int.cast_ofNat_Int, hg15, kk15]
  have h16 := MB_s (kd := (10, 21)) (sz := 21) (i := 19) h15 (by omega) rfl (rfG (l := []) rfl)
  generalize mSetR (mGrow g15 (10, 21) 21) 176 19 (some 192) = g16 at h16 ⊢
  clear kk15
  have hg16 := h16.1.1
  have kk16 : mKd (mGrow g16 (10, 21) 21) 176 = (6, 0) := by rw [gr_kn (by omega)]; exact h16.2.1
  simp (disch := first | omega | exact rfl) only [x76_133, x76_134, x76_136, x76_138, isF, isK, isH, mK, nl_i, nl_n, nl_o, nl_r, c1_i, c1_r, mPush, mRv, G0_1, true_and, and_true, and_self, implies_true, List.length_nil, List.length_cons, Nat.reduceAdd, Nat.reduceLeDiff, Nat.zero_le, beq_self_eq_true, Nat.reduceBEq, decide_true, Bool.and_self, reduceCtorEq, ne_eq, not_true_eq_false, not_false_eq_true, false_implies, true_implies, Nat.reduceLT, Nat.reduceEqDiff, or_true, true_or, or_false, false_or, or_self, Int.reduceEq, Int.reduceNe, Int.reduceLT, Int.reduceLE, Int.reduceAdd, Int.reduceSub, Int.reduceMul, Int.reduceNeg, Int.reduceToNat, if_true, if_false, Classical.not_not, Int.cast_ofNat_Int, hg16, kk16]
  have h17 := MB_s (kd := (10, 21)) (sz := 21) (i := 20) h16 (by omega) rfl (rfG (l := []) rfl)
  generalize mSetR (mGrow g16 (10, 21) 21) 176 20 (some 193) = g17 at h17 ⊢
  clear kk16
  have hg17 := h17.1.1
  have kk17 : mKd (mGrow g17 (10, 240) 240) 176 = (6, 0) := by rw [gr_kn (by omega)]; exact h17.2.1
  simp (disch := first | omega | exact rfl) only [x76_141, x76_142, x76_145, x76_147, isF, isK, isH, mK, nl_i, nl_n, nl_o, nl_r, c1_i, c1_r, mPush, mRv, G0_1, true_and, and_true, and_self, implies_true, List.length_nil, List.length_cons, Nat.reduceAdd, Nat.reduceLeDiff, Nat.zero_le, beq_self_eq_true, Nat.reduceBEq, decide_true, Bool.and_self, reduceCtorEq, ne_eq, not_true_eq_false, not_false_eq_true, false_implies, true_implies, Nat.reduceLT, Nat.reduceEqDiff, or_true, true_or, or_false, false_or, or_self, Int.reduceEq, Int.reduceNe, Int.reduceLT, Int.reduceLE, Int.reduceAdd, Int.reduceSub, Int.reduceMul, Int.reduceNeg, Int.reduceToNat, if_true, if_false, Classical.not_not, Int.cast_ofNat_Int, hg17, kk17]
  have h18 := MB_s (kd := (10, 240)) (sz := 240) (i := 23) h17 (by omega) rfl (rfG (l := []) rfl)
  generalize mSetR (mGrow g17 (10, 240) 240) 176 23 (some 194) = g18 at h18 ⊢
  clear kk17
  obtain ⟨w1, w2, w3, w4, w5, w6⟩ := h18
  refine hQ g18 _ w1 w6 w5 (fun x z1 z2 => ?_) (fun x hx => ?_) (fun j => ?_) (fun j => ?_) (fun j => ?_)
  · by_cases q : x = 176
    · subst q
      exact ⟨w2, fun k => (w3 k).trans (rf176 k).symm⟩
    · exact w4 x (by omega) z2
  · simp (disch := omega) only [ze_n]
  · simp (disch := omega) only [ze_n]; exact hz j
  · simp (disch := omega) only [ze_n, ze_e]
  · simp (disch := omega) only [ze_n, ze_e]
theorem ct76 {g : MG} {μ : MU} (hA : GA g 177) (hk : mKd g 176 = (6, 0)) (hr : ∀ k, mRf g 176 k = none) (hz : ∀ j, μ 176 j = 0)
    (hQ : ∀ (g' : MG) (μ' : MU), GA g' 195 → g'.2.1 = g.2.1 + 2131 → GS g g' 176 → GE g' 176 195 → (∀ x, x < 176 → μ' x = μ x) → RI μ' → Q none g' μ') :
    Wp E 76 0 [some (.inr (.inr (.inl 176))), none] [] g μ Q := by
  refine ct76a hA hk hr hz (fun g1 μ1 k1 k2 k3 k4 k5 k6 k7 k8 => ?_)
  have f0 : mKd g1 176 = (6, 0) := (k4 176 (by omega) (by omega)).1.trans rfl
  have f1 : mRf g1 176 1 = some 177 := ((k4 176 (by omega) (by omega)).2 1).trans rfl
  have f2 : mKd g1 177 = (10, 152) := (k4 177 (by omega) (by omega)).1.trans rfl
  simp (disch := first | omega | exact rfl) only [x76_150, x76_151, x76_152, x76_155, x76_156, x76_159, x76_160, x76_162, x76_163, x76_164, x76_167, x76_168, x76_169, x76_170, x76_171, x76_174, x76_175, x76_177, x76_178, x76_179, x76_182, x76_183, x76_184, x76_185, x76_186, x76_189, x76_190, x76_191, x76_192, x76_193, isF, isK, isH, mK, nl_i, nl_n, nl_o, nl_r, c1_i, c1_r, mPush, mRv, G0_1, true_and, and_true, and_self, implies_true, List.length_nil, List.length_cons, Nat.reduceAdd, Nat.reduceLeDiff, Nat.zero_le, beq_self_eq_true, Nat.reduceBEq, decide_true, Bool.and_self, reduceCtorEq, ne_eq, not_true_eq_false, not_false_eq_true, false_implies, true_implies, Nat.reduceLT, Nat.reduceEqDiff, or_true, true_or, or_false, false_or, or_self, Int.reduceEq, Int.reduceNe, Int.reduceLT, Int.reduceLE, Int.reduceAdd, Int.reduceSub, Int.reduceMul, Int.reduceNeg, Int.reduceToNat, if_true, if_false, Classical.not_not, Int.cast_ofNat_Int, f0, f1, f2]
  refine zq76 f0 f1 f2 (fun μ2 n1 n2 n3 => hQ g1 μ2 k1 k2 k3 k4 (fun x hx => ?_) ⟨⟨?_, ?_, ?_, ?_, ?_, ?_, ?_⟩, n3, ?_, ?_, fun i => ?_⟩) 16 0 (by omega) _ (fun _ _ => rfl) (fun _ _ => rfl) (fun j hj => by omega)
  · rw [n1 x (by omega)]; simp (disch := omega) only [mUp_ne]; exact k5 x hx
  · rw [n2 0 (by omega)]; simp (disch := omega) only [mUp_nj, mUp_eq]
  · rw [n2 1 (by omega)]; simp (disch := omega) only [mUp_nj, mUp_eq]
  · rw [n2 2 (by omega)]; simp (disch := omega) only [mUp_nj, mUp_eq]
  · rw [n2 3 (by omega)]; simp (disch := omega) only [mUp_nj, mUp_eq]
  · rw [n2 4 (by omega)]; simp (disch := omega) only [mUp_eq]
  · rw [n2 5 (by omega)]; simp (disch := omega) only [mUp_nj, mUp_ne]; exact k7 5
  · rw [n2 6 (by omega)]; simp (disch := omega) only [mUp_nj, mUp_ne]; exact k7 6
  · rw [n1 176 (by omega)]; simp (disch := omega) only [mUp_nj, mUp_ne]; exact k6 3
  · rw [n1 176 (by omega)]; simp (disch := omega) only [mUp_nj, mUp_ne]; exact k6 7
  · rw [n1 180 (by omega)]; simp (disch := omega) only [mUp_ne]; exact k8 i
theorem INV_0 {μ : MU} (h1 : MI μ) (h2 : ∀ j, μ 132 j = 0) (h3 : RI μ) : INV μ := by
  obtain ⟨⟨c1, c2, c3, c4, c5⟩, m1, m2, m3⟩ := h1
  obtain ⟨⟨r0, r1, r2, r3, r4, r5, r6⟩, rw, u3, u7, u180⟩ := h3
  have way : ∀ a b : Nat, a < 4 → b < 4 → μ 177 (7 + (4 * a + b)) = if a = b then 0 else 10 := by
    intro a b ha hb
    have := rw (4 * a + b) (by omega)
    have e1 : (4 * a + b) / 4 = a := by omega
    have e2 : (4 * a + b) % 4 = b := by omega
    rw [e1, e2] at this
    exact this
  refine ⟨⟨by omega, fun a b ha hb => ?_, fun f _ hf => by omega, fun k _ hk => by omega⟩, ⟨fun i hi => ?_, ?_, ?_, fun i hi => ?_, fun f _ hf => by omega, fun f r hf hr => ?_, fun k _ hk => by omega⟩, ⟨by omega, by omega, by omega, fun j _ hj => by omega⟩, fun i hi => ⟨Or.inl (h2 i), by rw [u180, h2], fun z => by rw [h2] at z; omega⟩, ⟨by omega, by omega, fun i _ hi => by omega⟩⟩
  · rw [way a b ha hb]
    by_cases q : a = b
    · rw [if_pos q]; omega
    · rw [if_neg q]; omega
  · rw [c1 i hi]
    have hi2 : i = 0 ∨ i = 1 ∨ i = 2 ∨ i = 3 ∨ i = 4 := by omega
    rcases hi2 with z | z | z | z | z <;> subst z
    · rw [r0]; rfl
    · rw [r1]; rfl
    · rw [r2]; rfl
    · rw [r3]; rfl
    · rw [r4]; rfl
  · rw [c2, r5]
  · rw [c3, r6]
  · rw [c4 i hi, rw i hi]
  · rw [c5 (6 * f + r) (by omega), if_neg (by omega)]
end INI6
