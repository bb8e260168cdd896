section PLAY2
variable {E : ME} {Q : Option MV → MG → MU → Prop} {μ : MU} {b c : Nat} {S : Row}
theorem m37 {t due fr s0 s1 s2 w c : Int} {r : Nat} (ht : 0 ≤ t ∧ t ≤ 1439) (hr : r < 6) (a1 : t ≤ due) (a2 : due ≤ t + 120 * r) (w0 : 1 ≤ s0 ∧ s0 ≤ 60) (w1 : 0 ≤ s1 ∧ s1 ≤ 60) (w2 : 0 ≤ s2 ∧ s2 ≤ 60) (f1 : due ≤ fr ∧ fr ≤ due + s1) (b : 0 ≤ w ∧ w ≤ 60 * r) (d : 0 ≤ c ∧ c ≤ r) :
    mWr (due + s1) = due + s1 ∧ mWr (w + (fr - due)) = w + (fr - due) ∧ mWr (fr + s0) = fr + s0 ∧ mWr (c + 1) = c + 1 ∧ mWr (fr + s0 + s2) = fr + s0 + s2 ∧ mWr (fr - due) = fr - due :=
  ⟨mWr_of (by omega) (by omega), mWr_of (by omega) (by omega), mWr_of (by omega) (by omega), mWr_of (by omega) (by omega), mWr_of (by omega) (by omega), mWr_of (by omega) (by omega)⟩
theorem m37b {v : Int} (h : 0 ≤ v ∧ v ≤ 2417) : mWr v = v := mWr_of (by omega) (by omega)
theorem ite_V {g : Nat → Int} {i r : Nat} {V : Int} (hV : g r = V) : g i = if i = r then V else g i := by
  by_cases q : i = r
  · rw [if_pos q, q]; exact hV
  · rw [if_neg q]
theorem fin37 {μ' P : MU} {f r : Nat} {h t : Int} (hr : r < 6) (hRC : RC μ b S f P) (hm : ¬ P 5 0 + S 1 < rTh S h r P) (hPm : P 2 r = 0 ∨ P 2 r = 1) (hT : 0 ≤ S (26 + 9 * f + r))
    (a4 : μ' b 4 = μ b 4) (a5 : μ' b 5 = rFr S h r P + S 0) (a6 : μ' b 6 = P 5 1 + (rFr S h r P - P 5 0)) (a7 : μ' b 7 = P 5 2) (a8 : μ' b 8 = P 5 3 + (if P 0 r = h then 0 else 1))
    (b1 : ∀ i, μ' (b + 1) i = if i = r then h else μ (b + 1) i) (b2 : ∀ i, μ' (b + 2) i = if i = r then rFr S h r P + S 0 + (if μ (b + 3) r = -6 ∨ t < μ (b + 3) r then 0 else S 2) else μ (b + 2) i)
    (b3 : ∀ i, μ' (b + 3) i = if i = r then (if μ (b + 3) r = -6 ∨ t < μ (b + 3) r then μ (b + 3) r else -6) else μ (b + 3) i) : RC μ' b S f (rGo S f h t r P) ∧ RQ μ' b (rGo S f h t r P) := by
  have e : rGo S f h t r P = rHit S f h t r P := by unfold rGo; rw [if_neg hm]
  rw [e]
  obtain ⟨r4, rr⟩ := hRC
  have e3 := (rr r hr).2.2
  have hmd : (rMd S f t r P = 1) = ¬ (μ (b + 3) r = -6 ∨ t < μ (b + 3) r) := by
    unfold rMd
    rw [e3]
    apply propext
    by_cases q : S (26 + 9 * f + r) = 0
    · have k1 : ¬ ((0 < S (26 + 9 * f + r) ∧ P 2 r = 0) ∧ S (26 + 9 * f + r) - 1 ≤ t) := by omega
      have k2 : ¬ (¬ S (26 + 9 * f + r) = 0 ∧ P 2 r = 0) := by omega
      rw [if_neg k1, if_neg k2]; omega
    · by_cases q2 : P 2 r = 0
      · have k2 : ¬ S (26 + 9 * f + r) = 0 ∧ P 2 r = 0 := ⟨q, q2⟩
        by_cases q3 : S (26 + 9 * f + r) - 1 ≤ t
        · have k1 : (0 < S (26 + 9 * f + r) ∧ P 2 r = 0) ∧ S (26 + 9 * f + r) - 1 ≤ t := by omega
          rw [if_pos k1, if_pos k2]; omega
        · have k1 : ¬ ((0 < S (26 + 9 * f + r) ∧ P 2 r = 0) ∧ S (26 + 9 * f + r) - 1 ≤ t) := by omega
          rw [if_neg k1, if_pos k2]; omega
      · have k1 : ¬ ((0 < S (26 + 9 * f + r) ∧ P 2 r = 0) ∧ S (26 + 9 * f + r) - 1 ≤ t) := by omega
        have k2 : ¬ (¬ S (26 + 9 * f + r) = 0 ∧ P 2 r = 0) := by omega
        rw [if_neg k1, if_neg k2]; omega
  have hFn : rFn S f h t r P = rFr S h r P + S 0 + (if μ (b + 3) r = -6 ∨ t < μ (b + 3) r then 0 else S 2) := by
    unfold rFn
    by_cases q : μ (b + 3) r = -6 ∨ t < μ (b + 3) r
    · rw [if_neg (by rw [hmd]; exact fun z => z q), if_pos q]
    · rw [if_pos (by rw [hmd]; exact q), if_neg q]
  refine ⟨⟨by rw [a4]; exact r4, fun i hi => ⟨?_, ?_, ?_⟩⟩, a5, a6, a7, a8⟩
  · rw [b1]
    show _ = if i = r then h else P 0 i
    rw [(rr i hi).1]
  · rw [b2]
    show _ = if i = r then rFn S f h t r P else P 1 i
    rw [(rr i hi).2.1, hFn]
  · rw [b3]
    show _ = if ¬ S (26 + 9 * f + i) = 0 ∧ (if i = r then (if rMd S f t r P = 1 then 1 else P 2 i) else P 2 i) = 0 then S (26 + 9 * f + i) - 1 else -6
    by_cases q : i = r
    · subst q
      rw [if_pos rfl, if_pos rfl]
      by_cases q2 : μ (b + 3) i = -6 ∨ t < μ (b + 3) i
      · have k1 : ¬ rMd S f t i P = 1 := by rw [hmd]; exact fun z => z q2
        rw [if_pos q2, if_neg k1]; exact e3
      · have k1 : rMd S f t i P = 1 := by rw [hmd]; exact q2
        rw [if_neg q2, if_pos k1, if_neg (fun z => by have := z.2; omega)]
    · rw [if_neg q, if_neg q]; exact (rr i hi).2.2
theorem zq37 (hc : c ∈ gCs) (hb : b ∈ gRs) (hs : cRel μ c S) (hw : wfR S) {f r : Nat} {h t : Int} {P : MU} (hf : f < 5) (hf2 : (f : Int) < S 5) (hh : isH h) (ht : 0 ≤ t ∧ t ≤ 1439) (hr : (r : Int) < S (23 + 9 * f)) (hRC : RC μ b S f P) (hRQ : RQ μ b P) (hP : qP P) (hR : qR t r P) {o5 o6 : Option MV} (n5 : mNl (some o5) = true) (n6 : mNl (some o6) = true)
    (hQ : ∀ (μ' : MU) (o5 o6 : Option MV), mNl (some o5) = true → mNl (some o6) = true → (∀ x, ¬ (b ≤ x ∧ x ≤ b + 4) → μ' x = μ x) → RC μ' b S f (rGo S f h t r P) → RQ μ' b (rGo S f h t r P) → (∀ i, μ' (b + 4) i = if i = r then rGo S f h t r P 3 r else μ (b + 4) i) → Wp E 37 23 [some (.inr (.inr (.inl b))), some (.inr (.inr (.inl c))), some (.inl h), some (.inl t), some (.inl ((r + 1 : Nat) : Int)), o5, o6] [] G0 μ' Q) :
    Wp E 37 23 [some (.inr (.inr (.inl b))), some (.inr (.inr (.inl c))), some (.inl h), some (.inl t), some (.inl r), o5, o6] [] G0 μ Q := by
  obtain ⟨qc0, qc1, qc2, qc3, qc4, qc5, qc6, qc7, qc8, qc9, qc10, qc11, qc12, qc13, qc14, qc15, qc16, qc17, qc18, qc19, qc20⟩ := gC_ok c hc
  obtain ⟨qb0, qb1, qb2, qb3, qb4, qb5, qb6, qb7, qb8⟩ := gR_ok b hb
  have hcb := gCR c hc b hb
  have hrn := (hw.2.2.1 f hf hf2).1
  have hr6 : r < 6 := by omega
  have hr7 : (r : Int) < 6 := by omega
  have hr0 : (0 : Int) ≤ r := by omega
  have hr1 : ¬ S (23 + 9 * f) ≤ (r : Int) := by omega
  have eN := hRC.1
  obtain ⟨e0, e1, e3⟩ := hRC.2 r hr6
  obtain ⟨e5, e6, e7, e8⟩ := id hRQ
  obtain ⟨p0, p1, p2⟩ := hP r hr6
  have s0 := hs.1 0 (by omega)
  have s1 := hs.1 1 (by omega)
  have s2 := hs.1 2 (by omega)
  have w0 := hw.1.1
  have w1 := hw.1.2.1
  have w2 := hw.1.2.2.1
  have hH0 : isH (P 0 r) := p0
  have g := rGap_b hw hh p0
  have eg : S (7 + (4 * (P 0 r).toNat + h.toNat)) = rGap S h (P 0 r) := by
    unfold rGap
    by_cases q : P 0 r = h
    · rw [if_pos q, q]
      unfold isH at hh
      exact (hw.2.1 h.toNat h.toNat (by omega) (by omega)).1 rfl
    · rw [if_neg q]
  obtain ⟨⟨a1, a2⟩, ⟨b1, b2⟩, c1, ⟨d1, d2⟩⟩ := id hR
  have eT : P 1 r + rGap S h (P 0 r) = rTh S h r P := rfl
  have eF : (if P 5 0 < rTh S h r P then rTh S h r P else P 5 0) = rFr S h r P := rfl
  have eI : mWr ((r : Int) + 1) = ((r + 1 : Nat) : Int) := by rw [mWr_of (by omega) (by omega)]; omega
  have hth : 0 ≤ rTh S h r P ∧ rTh S h r P ≤ 2417 := by unfold rTh; omega
  by_cases pm : P 5 0 + S 1 < rTh S h r P
  · have pm2 : ¬ rTh S h r P ≤ P 5 0 + S 1 := by omega
    have eG : rGo S f h t r P = rMis r P := by unfold rGo; rw [if_pos pm]
    simp (disch := first | omega | exact rfl) only [x37_0, x37_1, x37_2, x37_5, x37_6, x37_7, x37_10, x37_11, x37_12, x37_15, x37_16, x37_17, x37_20, x37_21, x37_23, x37_25, x37_26, x37_29, x37_32, x37_33, x37_36, x37_38, x37_39, x37_42, x37_44, x37_45, x37_46, x37_47, x37_50, x37_52, x37_53, x37_54, x37_57, x37_58, x37_60, x37_62, x37_64, x37_65, x37_68, x37_69, x37_70, x37_71, x37_74, x37_75, x37_76, x37_79, x37_80, x37_82, x37_83, x37_84, x37_87, x37_88, x37_91, x37_93, x37_95, x37_96, x37_99, x37_100, x37_103, x37_105, x37_106, x37_107, x37_110, x37_111, x37_112, x37_115, x37_116, x37_117, x37_120, x37_121, x37_124, x37_126, x37_127, x37_128, x37_129, x37_132, x37_134, x37_136, x37_138, x37_141, x37_142, x37_143, x37_144, x37_147, x37_148, x37_151, x37_153, x37_154, x37_156, x37_157, x37_158, x37_161, x37_162, x37_163, x37_166, x37_168, x37_169, x37_170, x37_173, x37_174, x37_175, x37_176, x37_179, x37_180, x37_183, x37_185, x37_186, x37_189, x37_190, x37_191, x37_193, x37_194, x37_197, x37_198, x37_199, x37_205, isF, isK, isH, mK, nl_i, nl_n, nl_o, nl_r, c1_i, c1_r, mPush, mRv, G0_1, true_and, and_true, and_self, implies_true, List.length_nil, List.length_cons, Nat.reduceAdd, Nat.reduceLeDiff, Nat.zero_le, beq_self_eq_true, Nat.reduceBEq, decide_true, Bool.and_self, reduceCtorEq, ne_eq, not_true_eq_false, not_false_eq_true, false_implies, true_implies, Nat.reduceLT, Nat.reduceEqDiff, or_true, true_or, or_false, false_or, or_self, Int.reduceEq, Int.reduceNe, Int.reduceLT, Int.reduceLE, Int.reduceAdd, Int.reduceSub, Int.reduceMul, Int.reduceNeg, Int.reduceToNat, if_true, if_false, Classical.not_not, Int.cast_ofNat_Int, qc0, qc1, qc2, qc3, qc4, qc5, qc6, qc7, qc8, qc9, qc10, qc11, qc12, qc13, qc14, qc15, qc16, qc17, qc18, qc19, qc20, qb0, qb1, qb2, qb3, qb4, qb5, qb6, qb7, qb8, mWr_of, Int.toNat_natCast, eN, e0, e1, e5, e7, s1, ct5 hc hs hH0 hh, eg, eT, pm, pm2, hr, hr1, hr7, hr0, n5, n6, eI]
    rw [x37_202]
    rw [eG] at hQ
    refine hQ _ _ _ rfl rfl ?_ ⟨?_, ?_⟩ ⟨?_, ?_, ?_, ?_⟩ ?_
    · intro x hx
      simp (disch := omega) only [mUp_ne]
    · simp (disch := omega) only [mUp_ne, mUp_nj]; exact eN
    · intro i hi
      simp (disch := omega) only [mUp_ne]
      exact hRC.2 i hi
    · simp (disch := omega) only [mUp_ne, mUp_nj]; exact e5
    · simp (disch := omega) only [mUp_ne, mUp_nj]; exact e6
    · simp (disch := omega) only [mUp_ne, mUp_eq]; rfl
    · simp (disch := omega) only [mUp_ne, mUp_nj]; exact e8
    · intro i
      rw [mUp_at, mUp_ne (by omega)]
      show _ = if i = r then (if r = r then -6 else P 3 r) else _
      rw [if_pos rfl]
  · have pm2 : rTh S h r P ≤ P 5 0 + S 1 := by omega
    have f1 : P 5 0 ≤ rFr S h r P ∧ rFr S h r P ≤ P 5 0 + S 1 := by
      unfold rFr
      by_cases q : P 5 0 < rTh S h r P
      · rw [if_pos q]; omega
      · rw [if_neg q]; omega
    have eG3 : rGo S f h t r P 3 r = rFr S h r P := by
      unfold rGo; rw [if_neg pm]
      show (if r = r then rFr S h r P else P 3 r) = _
      rw [if_pos rfl]
    rw [eG3] at hQ
    have hT := ((hw.2.2.1 f hf hf2).2.2.2 r hr6).1
    have m7 : mWr (rTh S h r P) = rTh S h r P := m37b hth
    obtain ⟨m1, m2, m3, m4, m5, m6⟩ := m37 (fr := rFr S h r P) ht hr6 a1 a2 w0 w1 w2 f1 ⟨b1, b2⟩ ⟨d1, d2⟩
    have fin := fun μ' : MU => fin37 (μ := μ) (μ' := μ') (b := b) (t := t) hr6 hRC pm p2 hT
    have hQ2 : ∀ (μ' : MU) (o5 o6 : Option MV), mNl (some o5) = true → mNl (some o6) = true → RC μ' b S f (rGo S f h t r P) ∧ RQ μ' b (rGo S f h t r P) → (∀ x, ¬ (b ≤ x ∧ x ≤ b + 4) → μ' x = μ x) → (∀ i, μ' (b + 4) i = if i = r then rFr S h r P else μ (b + 4) i) → Wp E 37 23 [some (.inr (.inr (.inl b))), some (.inr (.inr (.inl c))), some (.inl h), some (.inl t), some (.inl ((r + 1 : Nat) : Int)), o5, o6] [] G0 μ' Q := fun μ' o5 o6 n1 n2 z1 z2 z3 => hQ μ' o5 o6 n1 n2 z2 z1.1 z1.2 z3
    generalize hV : μ (b + 3) r = V at fin
    by_cases ph : P 0 r = h
    · rw [if_pos ph] at fin
      have egh := eg
      have eTh := eT
      rw [ph] at egh eTh
      by_cases pv : V = -6 ∨ t < V
      · simp only [if_pos pv, Int.add_zero] at fin
        simp (disch := first | omega | exact rfl) only [x37_0, x37_1, x37_2, x37_5, x37_6, x37_7, x37_10, x37_11, x37_12, x37_15, x37_16, x37_17, x37_20, x37_21, x37_23, x37_25, x37_26, x37_29, x37_32, x37_33, x37_36, x37_38, x37_39, x37_42, x37_44, x37_45, x37_46, x37_47, x37_50, x37_52, x37_53, x37_54, x37_57, x37_58, x37_60, x37_62, x37_64, x37_65, x37_68, x37_69, x37_70, x37_71, x37_74, x37_75, x37_76, x37_79, x37_80, x37_82, x37_83, x37_84, x37_87, x37_88, x37_91, x37_93, x37_95, x37_96, x37_99, x37_100, x37_103, x37_105, x37_106, x37_107, x37_110, x37_111, x37_112, x37_115, x37_116, x37_117, x37_120, x37_121, x37_124, x37_126, x37_127, x37_128, x37_129, x37_132, x37_134, x37_136, x37_138, x37_141, x37_142, x37_143, x37_144, x37_147, x37_148, x37_151, x37_153, x37_154, x37_156, x37_157, x37_158, x37_161, x37_162, x37_163, x37_166, x37_168, x37_169, x37_170, x37_173, x37_174, x37_175, x37_176, x37_179, x37_180, x37_183, x37_185, x37_186, x37_189, x37_190, x37_191, x37_193, x37_194, x37_197, x37_198, x37_199, x37_205, isF, isK, isH, mK, nl_i, nl_n, nl_o, nl_r, c1_i, c1_r, mPush, mRv, G0_1, true_and, and_true, and_self, implies_true, List.length_nil, List.length_cons, Nat.reduceAdd, Nat.reduceLeDiff, Nat.zero_le, beq_self_eq_true, Nat.reduceBEq, decide_true, Bool.and_self, reduceCtorEq, ne_eq, not_true_eq_false, not_false_eq_true, false_implies, true_implies, Nat.reduceLT, Nat.reduceEqDiff, or_true, true_or, or_false, false_or, or_self, Int.reduceEq, Int.reduceNe, Int.reduceLT, Int.reduceLE, Int.reduceAdd, Int.reduceSub, Int.reduceMul, Int.reduceNeg, Int.reduceToNat, if_true, if_false, Classical.not_not, Int.cast_ofNat_Int, qc0, qc1, qc2, qc3, qc4, qc5, qc6, qc7, qc8, qc9, qc10, qc11, qc12, qc13, qc14, qc15, qc16, qc17, qc18, qc19, qc20, qb0, qb1, qb2, qb3, qb4, qb5, qb6, qb7, qb8, m1, m2, m3, m4, m5, m6, m7, Int.add_zero, Int.toNat_natCast, eN, e0, e1, e5, e6, e7, e8, s0, s1, s2, ct5 hc hs hh hh, egh, eTh, pm, pm2, hr, hr1, hr7, hr0, n5, n6, eI, ph, ct143, eF, mUp_ne, mUp_nj, mUp_eq, ct38 hc hb, hV, if_pos pv]
        rw [x37_202]
        refine hQ2 _ _ _ rfl rfl (fin _ ?_ ?_ ?_ ?_ ?_ ?_ ?_ ?_) ?_ ?_
        · simp (disch := omega) only [mUp_ne, mUp_nj]
        · simp (disch := omega) only [mUp_ne, mUp_nj, mUp_eq]
        · simp (disch := omega) only [mUp_ne, mUp_nj, mUp_eq]
        · simp (disch := omega) only [mUp_ne, mUp_nj]; exact e7
        · simp (disch := omega) only [mUp_ne, mUp_nj, mUp_eq]; first | done | exact e8
        · intro i; simp (disch := omega) only [mUp_ne, mUp_at]
        · intro i; simp (disch := omega) only [mUp_ne, mUp_at]
        · intro i; simp (disch := omega) only [mUp_ne, mUp_at]; try exact ite_V hV
        · intro x hx; simp (disch := omega) only [mUp_ne]
        · intro i; simp (disch := omega) only [mUp_ne, mUp_at]
      · simp only [if_neg pv, Int.add_zero] at fin
        simp (disch := first | omega | exact rfl) only [x37_0, x37_1, x37_2, x37_5, x37_6, x37_7, x37_10, x37_11, x37_12, x37_15, x37_16, x37_17, x37_20, x37_21, x37_23, x37_25, x37_26, x37_29, x37_32, x37_33, x37_36, x37_38, x37_39, x37_42, x37_44, x37_45, x37_46, x37_47, x37_50, x37_52, x37_53, x37_54, x37_57, x37_58, x37_60, x37_62, x37_64, x37_65, x37_68, x37_69, x37_70, x37_71, x37_74, x37_75, x37_76, x37_79, x37_80, x37_82, x37_83, x37_84, x37_87, x37_88, x37_91, x37_93, x37_95, x37_96, x37_99, x37_100, x37_103, x37_105, x37_106, x37_107, x37_110, x37_111, x37_112, x37_115, x37_116, x37_117, x37_120, x37_121, x37_124, x37_126, x37_127, x37_128, x37_129, x37_132, x37_134, x37_136, x37_138, x37_141, x37_142, x37_143, x37_144, x37_147, x37_148, x37_151, x37_153, x37_154, x37_156, x37_157, x37_158, x37_161, x37_162, x37_163, x37_166, x37_168, x37_169, x37_170, x37_173, x37_174, x37_175, x37_176, x37_179, x37_180, x37_183, x37_185, x37_186, x37_189, x37_190, x37_191, x37_193, x37_194, x37_197, x37_198, x37_199, x37_205, isF, isK, isH, mK, nl_i, nl_n, nl_o, nl_r, c1_i, c1_r, mPush, mRv, G0_1, true_and, and_true, and_self, implies_true, List.length_nil, List.length_cons, Nat.reduceAdd, Nat.reduceLeDiff, Nat.zero_le, beq_self_eq_true, Nat.reduceBEq, decide_true, Bool.and_self, reduceCtorEq, ne_eq, not_true_eq_false, not_false_eq_true, false_implies, true_implies, Nat.reduceLT, Nat.reduceEqDiff, or_true, true_or, or_false, false_or, or_self, Int.reduceEq, Int.reduceNe, Int.reduceLT, Int.reduceLE, Int.reduceAdd, Int.reduceSub, Int.reduceMul, Int.reduceNeg, Int.reduceToNat, if_true, if_false, Classical.not_not, Int.cast_ofNat_Int, qc0, qc1, qc2, qc3, qc4, qc5, qc6, qc7, qc8, qc9, qc10, qc11, qc12, qc13, qc14, qc15, qc16, qc17, qc18, qc19, qc20, qb0, qb1, qb2, qb3, qb4, qb5, qb6, qb7, qb8, m1, m2, m3, m4, m5, m6, m7, Int.add_zero, Int.toNat_natCast, eN, e0, e1, e5, e6, e7, e8, s0, s1, s2, ct5 hc hs hh hh, egh, eTh, pm, pm2, hr, hr1, hr7, hr0, n5, n6, eI, ph, ct143, eF, mUp_ne, mUp_nj, mUp_eq, ct38 hc hb, hV, if_neg pv]
        rw [x37_202]
        refine hQ2 _ _ _ rfl rfl (fin _ ?_ ?_ ?_ ?_ ?_ ?_ ?_ ?_) ?_ ?_
        · simp (disch := omega) only [mUp_ne, mUp_nj]
        · simp (disch := omega) only [mUp_ne, mUp_nj, mUp_eq]
        · simp (disch := omega) only [mUp_ne, mUp_nj, mUp_eq]
        · simp (disch := omega) only [mUp_ne, mUp_nj]; exact e7
        · simp (disch := omega) only [mUp_ne, mUp_nj, mUp_eq]; first | done | exact e8
        · intro i; simp (disch := omega) only [mUp_ne, mUp_at]
        · intro i; simp (disch := omega) only [mUp_ne, mUp_at]
        · intro i; simp (disch := omega) only [mUp_ne, mUp_at]; try exact ite_V hV
        · intro x hx; simp (disch := omega) only [mUp_ne]
        · intro i; simp (disch := omega) only [mUp_ne, mUp_at]
    · rw [if_neg ph] at fin
      by_cases pv : V = -6 ∨ t < V
      · simp only [if_pos pv, Int.add_zero] at fin
        simp (disch := first | omega | exact rfl) only [x37_0, x37_1, x37_2, x37_5, x37_6, x37_7, x37_10, x37_11, x37_12, x37_15, x37_16, x37_17, x37_20, x37_21, x37_23, x37_25, x37_26, x37_29, x37_32, x37_33, x37_36, x37_38, x37_39, x37_42, x37_44, x37_45, x37_46, x37_47, x37_50, x37_52, x37_53, x37_54, x37_57, x37_58, x37_60, x37_62, x37_64, x37_65, x37_68, x37_69, x37_70, x37_71, x37_74, x37_75, x37_76, x37_79, x37_80, x37_82, x37_83, x37_84, x37_87, x37_88, x37_91, x37_93, x37_95, x37_96, x37_99, x37_100, x37_103, x37_105, x37_106, x37_107, x37_110, x37_111, x37_112, x37_115, x37_116, x37_117, x37_120, x37_121, x37_124, x37_126, x37_127, x37_128, x37_129, x37_132, x37_134, x37_136, x37_138, x37_141, x37_142, x37_143, x37_144, x37_147, x37_148, x37_151, x37_153, x37_154, x37_156, x37_157, x37_158, x37_161, x37_162, x37_163, x37_166, x37_168, x37_169, x37_170, x37_173, x37_174, x37_175, x37_176, x37_179, x37_180, x37_183, x37_185, x37_186, x37_189, x37_190, x37_191, x37_193, x37_194, x37_197, x37_198, x37_199, x37_205, isF, isK, isH, mK, nl_i, nl_n, nl_o, nl_r, c1_i, c1_r, mPush, mRv, G0_1, true_and, and_true, and_self, implies_true, List.length_nil, List.length_cons, Nat.reduceAdd, Nat.reduceLeDiff, Nat.zero_le, beq_self_eq_true, Nat.reduceBEq, decide_true, Bool.and_self, reduceCtorEq, ne_eq, not_true_eq_false, not_false_eq_true, false_implies, true_implies, Nat.reduceLT, Nat.reduceEqDiff, or_true, true_or, or_false, false_or, or_self, Int.reduceEq, Int.reduceNe, Int.reduceLT, Int.reduceLE, Int.reduceAdd, Int.reduceSub, Int.reduceMul, Int.reduceNeg, Int.reduceToNat, if_true, if_false, Classical.not_not, Int.cast_ofNat_Int, qc0, qc1, qc2, qc3, qc4, qc5, qc6, qc7, qc8, qc9, qc10, qc11, qc12, qc13, qc14, qc15, qc16, qc17, qc18, qc19, qc20, qb0, qb1, qb2, qb3, qb4, qb5, qb6, qb7, qb8, m1, m2, m3, m4, m5, m6, m7, Int.add_zero, Int.toNat_natCast, eN, e0, e1, e5, e6, e7, e8, s0, s1, s2, ct5 hc hs hH0 hh, eg, eT, pm, pm2, hr, hr1, hr7, hr0, n5, n6, eI, ph, ct143, eF, mUp_ne, mUp_nj, mUp_eq, ct38 hc hb, hV, if_pos pv]
        rw [x37_202]
        refine hQ2 _ _ _ rfl rfl (fin _ ?_ ?_ ?_ ?_ ?_ ?_ ?_ ?_) ?_ ?_
        · simp (disch := omega) only [mUp_ne, mUp_nj]
        · simp (disch := omega) only [mUp_ne, mUp_nj, mUp_eq]
        · simp (disch := omega) only [mUp_ne, mUp_nj, mUp_eq]
        · simp (disch := omega) only [mUp_ne, mUp_nj]; exact e7
        · simp (disch := omega) only [mUp_ne, mUp_nj, mUp_eq]; first | done | exact e8
        · intro i; simp (disch := omega) only [mUp_ne, mUp_at]
        · intro i; simp (disch := omega) only [mUp_ne, mUp_at]
        · intro i; simp (disch := omega) only [mUp_ne, mUp_at]; try exact ite_V hV
        · intro x hx; simp (disch := omega) only [mUp_ne]
        · intro i; simp (disch := omega) only [mUp_ne, mUp_at]
      · simp only [if_neg pv, Int.add_zero] at fin
        simp (disch := first | omega | exact rfl) only [x37_0, x37_1, x37_2, x37_5, x37_6, x37_7, x37_10, x37_11, x37_12, x37_15, x37_16, x37_17, x37_20, x37_21, x37_23, x37_25, x37_26, x37_29, x37_32, x37_33, x37_36, x37_38, x37_39, x37_42, x37_44, x37_45, x37_46, x37_47, x37_50, x37_52, x37_53, x37_54, x37_57, x37_58, x37_60, x37_62, x37_64, x37_65, x37_68, x37_69, x37_70, x37_71, x37_74, x37_75, x37_76, x37_79, x37_80, x37_82, x37_83, x37_84, x37_87, x37_88, x37_91, x37_93, x37_95, x37_96, x37_99, x37_100, x37_103, x37_105, x37_106, x37_107, x37_110, x37_111, x37_112, x37_115, x37_116, x37_117, x37_120, x37_121, x37_124, x37_126, x37_127, x37_128, x37_129, x37_132, x37_134, x37_136, x37_138, x37_141, x37_142, x37_143, x37_144, x37_147, x37_148, x37_151, x37_153, x37_154, x37_156, x37_157, x37_158, x37_161, x37_162, x37_163, x37_166, x37_168, x37_169, x37_170, x37_173, x37_174, x37_175, x37_176, x37_179, x37_180, x37_183, x37_185, x37_186, x37_189, x37_190, x37_191, x37_193, x37_194, x37_197, x37_198, x37_199, x37_205, isF, isK, isH, mK, nl_i, nl_n, nl_o, nl_r, c1_i, c1_r, mPush, mRv, G0_1, true_and, and_true, and_self, implies_true, List.length_nil, List.length_cons, Nat.reduceAdd, Nat.reduceLeDiff, Nat.zero_le, beq_self_eq_true, Nat.reduceBEq, decide_true, Bool.and_self, reduceCtorEq, ne_eq, not_true_eq_false, not_false_eq_true, false_implies, true_implies, Nat.reduceLT, Nat.reduceEqDiff, or_true, true_or, or_false, false_or, or_self, Int.reduceEq, Int.reduceNe, Int.reduceLT, Int.reduceLE, Int.reduceAdd, Int.reduceSub, Int.reduceMul, Int.reduceNeg, Int.reduceToNat, if_true, if_false, Classical.not_not, Int.cast_ofNat_Int, qc0, qc1, qc2, qc3, qc4, qc5, qc6, qc7, qc8, qc9, qc10, qc11, qc12, qc13, qc14, qc15, qc16, qc17, qc18, qc19, qc20, qb0, qb1, qb2, qb3, qb4, qb5, qb6, qb7, qb8, m1, m2, m3, m4, m5, m6, m7, Int.add_zero, Int.toNat_natCast, eN, e0, e1, e5, e6, e7, e8, s0, s1, s2, ct5 hc hs hH0 hh, eg, eT, pm, pm2, hr, hr1, hr7, hr0, n5, n6, eI, ph, ct143, eF, mUp_ne, mUp_nj, mUp_eq, ct38 hc hb, hV, if_neg pv]
        rw [x37_202]
        refine hQ2 _ _ _ rfl rfl (fin _ ?_ ?_ ?_ ?_ ?_ ?_ ?_ ?_) ?_ ?_
        · simp (disch := omega) only [mUp_ne, mUp_nj]
        · simp (disch := omega) only [mUp_ne, mUp_nj, mUp_eq]
        · simp (disch := omega) only [mUp_ne, mUp_nj, mUp_eq]
        · simp (disch := omega) only [mUp_ne, mUp_nj]; exact e7
        · simp (disch := omega) only [mUp_ne, mUp_nj, mUp_eq]; first | done | exact e8
        · intro i; simp (disch := omega) only [mUp_ne, mUp_at]
        · intro i; simp (disch := omega) only [mUp_ne, mUp_at]
        · intro i; simp (disch := omega) only [mUp_ne, mUp_at]; try exact ite_V hV
        · intro x hx; simp (disch := omega) only [mUp_ne]
        · intro i; simp (disch := omega) only [mUp_ne, mUp_at]
end PLAY2
