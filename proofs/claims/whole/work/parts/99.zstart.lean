section BEG
variable {E : ME} {Q : Option MV → MG → MU → Prop}
theorem G0_far {x : Nat} (hx : 195 ≤ x) : mKd G0 x = (99, 0) ∧ ∀ k, mRf G0 x k = none := by
  have h1 : gKd.length ≤ 195 := by decide +kernel
  have h2 : gRf.length ≤ 195 := by decide +kernel
  refine ⟨?_, fun k => ?_⟩
  · show gKd.getD x (99, 0) = (99, 0)
    rw [List.getD_eq_getElem?_getD, List.getElem?_eq_none (by omega)]; rfl
  · show (gRf.getD x []).getD k none = none
    rw [List.getD_eq_getElem?_getD (l := gRf), List.getElem?_eq_none (by omega)]; rfl
theorem G0_ext {g : MG} (h1 : GA g 195) (h2 : g.2.1 = 4539) (h3 : GE g 0 195) : g = G0 := by
  obtain ⟨n, s, kd, rf⟩ := g
  have e1 : n = 195 := h1.1
  have e2 : s = 4539 := h2
  subst e1
  subst e2
  have e3 : kd = G0.2.2.1 := by
    funext x
    by_cases q : x < 195
    · exact (h3 x (Nat.zero_le _) q).1
    · exact ((h1.2 x (by omega)).1).trans ((G0_far (by omega)).1).symm
  have e4 : rf = G0.2.2.2 := by
    funext x k
    by_cases q : x < 195
    · exact (h3 x (Nat.zero_le _) q).2 k
    · exact ((h1.2 x (by omega)).2 k).trans ((G0_far (by omega)).2 k).symm
  rw [e3, e4]
  rfl
theorem zBegin (hE : E.1 ≤ 2560) (hQ : ∀ μ : MU, Q (some (.inl 1)) G0 μ) : Wp E 153 0 [some (mK 5), none, none, none] [] zGi (fun _ _ => 0) Q := by
  have hz : ∀ x, mKd zGi x = (99, 0) ∧ ∀ k, mRf zGi x k = none := fun x => ⟨rfl, fun k => rfl⟩
  have hz1 : zGi.1 = 0 := rfl
  have hz2 : zGi.2.1 = 0 := rfl
  have h0 : HB (mGrow zGi (5, 0) 9) 1 (fun _ => none) := by
    refine ⟨⟨by rw [gr_1, hz1], fun x hx => ⟨?_, fun k => ?_⟩⟩, gr_ke hz1.symm, fun k => gr_re hz1.symm, fun x z1 z2 => by omega⟩
    · rw [gr_kn (by omega)]; exact (hz x).1
    · rw [gr_rn (by omega)]; exact (hz x).2 k
  have k0 := h0.2.1
  simp (disch := first | omega | exact rfl) only [x153_0, x153_3, x153_4, isF, isK, isH, mK, nl_i, nl_n, nl_o, nl_r, c1_i, c1_r, mPush, mRv, G0_1, true_and, and_true, and_self, implies_true, List.length_nil, List.length_cons, Nat.reduceAdd, Nat.reduceLeDiff, Nat.zero_le, beq_self_eq_true, Nat.reduceBEq, decide_true, Bool.and_self, reduceCtorEq, ne_eq, not_true_eq_false, not_false_eq_true, false_implies, true_implies, Nat.reduceLT, Nat.reduceEqDiff, or_true, true_or, or_false, false_or, or_self, Int.reduceEq, Int.reduceNe, Int.reduceLT, Int.reduceLE, Int.reduceAdd, Int.reduceSub, Int.reduceMul, Int.reduceNeg, Int.reduceToNat, if_true, if_false, Classical.not_not, Int.cast_ofNat_Int, hz1, k0, mC1]
  refine ct39 h0 (fun g1 μ1 m1 m2 m3 m4 m5 => ?_)
  have hg1 := m1.1
  have s1 : g1.2.1 = 2383 := by rw [m3, gr_s, hz2]
  refine ⟨⟨by rw [gr_1, hz1]; exact hg1, m3⟩, ?_⟩
  have k1 : mKd (mGrow g1 (6, 0) 25) 176 = (6, 0) := gr_ke hg1.symm
  simp (disch := first | omega | exact rfl) only [x153_7, x153_8, x153_11, x153_12, isF, isK, isH, mK, nl_i, nl_n, nl_o, nl_r, c1_i, c1_r, mPush, mRv, G0_1, true_and, and_true, and_self, implies_true, List.length_nil, List.length_cons, Nat.reduceAdd, Nat.reduceLeDiff, Nat.zero_le, beq_self_eq_true, Nat.reduceBEq, decide_true, Bool.and_self, reduceCtorEq, ne_eq, not_true_eq_false, not_false_eq_true, false_implies, true_implies, Nat.reduceLT, Nat.reduceEqDiff, or_true, true_or, or_false, false_or, or_self, Int.reduceEq, Int.reduceNe, Int.reduceLT, Int.reduceLE, Int.reduceAdd, Int.reduceSub, Int.reduceMul, Int.reduceNeg, Int.reduceToNat, if_true, if_false, Classical.not_not, Int.cast_ofNat_Int, hg1, k1, mC1]
  refine ct76 ⟨by rw [gr_1, hg1], fun x hx => ⟨?_, fun k => ?_⟩⟩ k1 (fun k => gr_re hg1.symm) (fun j => ze_e) (fun g2 μ2 n1 n2 n3 n4 n5 n6 => ?_)
  · rw [gr_kn (by omega)]; exact (m1.2 x (by omega)).1
  · rw [gr_rn (by omega)]; exact (m1.2 x (by omega)).2 k
  have s2 : g2.2.1 = 4539 := by rw [n2, gr_s, s1]
  refine ⟨⟨by rw [gr_1, hg1]; exact n1.1, n2⟩, ?_⟩
  have hg2 : g2 = G0 := by
    refine G0_ext n1 s2 (fun x z1 z2 => ?_)
    by_cases q : x < 176
    · refine ⟨?_, fun k => ?_⟩
      · rw [(n3 x q).1, gr_kn (by omega)]; exact (m2 x z1 q).1
      · rw [(n3 x q).2 k, gr_rn (by omega)]; exact (m2 x z1 q).2 k
    · exact n4 x (by omega) z2
  subst hg2
  have e : ∀ x, x < 176 → μ2 x = μ1 x := fun x hx => by rw [n5 x hx, ze_n (by omega)]
  have hI : INV μ2 := by
    refine INV_0 ?_ (fun j => by rw [e 132 (by omega)]; exact m5 j) n6
    obtain ⟨c1, c2, c3, c4⟩ := m4
    refine ⟨?_, by rw [e 49 (by omega)]; exact c2, by rw [e 49 (by omega)]; exact c3, by rw [e 128 (by omega)]; exact c4⟩
    unfold CI at c1 ⊢
    rw [e (1 + 1) (by omega), e 1 (by omega), e (1 + 2) (by omega), e (1 + 6) (by omega)]
    exact c1
  simp (disch := first | omega | exact rfl) only [x153_15, x153_16, x153_17, isF, isK, isH, mK, nl_i, nl_n, nl_o, nl_r, c1_i, c1_r, mPush, mRv, G0_1, true_and, and_true, and_self, implies_true, List.length_nil, List.length_cons, Nat.reduceAdd, Nat.reduceLeDiff, Nat.zero_le, beq_self_eq_true, Nat.reduceBEq, decide_true, Bool.and_self, reduceCtorEq, ne_eq, not_true_eq_false, not_false_eq_true, false_implies, true_implies, Nat.reduceLT, Nat.reduceEqDiff, or_true, true_or, or_false, false_or, or_self, Int.reduceEq, Int.reduceNe, Int.reduceLT, Int.reduceLE, Int.reduceAdd, Int.reduceSub, Int.reduceMul, Int.reduceNeg, Int.reduceToNat, if_true, if_false, Classical.not_not, Int.cast_ofNat_Int]
  exact zlaw hE hQ (E.1 + 1) 0 (by omega) (by omega) μ2 hI
end BEG
