section GOES2
variable {E : ME} {Q : Option MV → MG → MU → Prop} {μ : MU} {S : Row}
/-- what the going of show k of film f leaves as it was -/
def MF (μ μ' : MU) (k f : Nat) : Prop := (∀ x, ¬ (184 ≤ x ∧ x ≤ 191) → μ' x = μ x) ∧ (∀ i, ¬ i = k → μ' 184 i = μ 184 i ∧ μ' 185 i = μ 185 i) ∧ (∀ i, ¬ (6 * k ≤ i ∧ i < 6 * k + 6) → μ' 186 i = μ 186 i ∧ μ' 187 i = μ 187 i) ∧ (∀ i, ¬ i = f → μ' 188 i = μ 188 i) ∧ (∀ i, ¬ (6 * f ≤ i ∧ i < 6 * f + 6) → μ' 189 i = μ 189 i ∧ μ' 190 i = μ 190 i ∧ μ' 191 i = μ 191 i)
theorem MF_trans {a b c : MU} {k f : Nat} (h1 : MF a b k f) (h2 : MF b c k f) : MF a c k f :=
  ⟨fun x hx => (h2.1 x hx).trans (h1.1 x hx), fun i hi => ⟨(h2.2.1 i hi).1.trans (h1.2.1 i hi).1, (h2.2.1 i hi).2.trans (h1.2.1 i hi).2⟩, fun i hi => ⟨(h2.2.2.1 i hi).1.trans (h1.2.2.1 i hi).1, (h2.2.2.1 i hi).2.trans (h1.2.2.1 i hi).2⟩, fun i hi => (h2.2.2.2.1 i hi).trans (h1.2.2.2.1 i hi), fun i hi => ⟨(h2.2.2.2.2 i hi).1.trans (h1.2.2.2.2 i hi).1, (h2.2.2.2.2 i hi).2.1.trans (h1.2.2.2.2 i hi).2.1, (h2.2.2.2.2 i hi).2.2.trans (h1.2.2.2.2 i hi).2.2⟩⟩
theorem ct87 (hS : RS μ S) (hw : wfR S) {k f r : Nat} {h t : Int} {P : MU} (hk : k < 21) (hf : f < 5) (hf2 : (f : Int) < S 5) (hr : r < 6) (hF : S (68 + 4 * k) = f) (hH : S (69 + 4 * k) = h) (ht : S (70 + 4 * k) = t) (hh : isH h) (ht2 : 0 ≤ t ∧ t ≤ 1439) (hM : RM μ f P) (hP : qP P) (hR : qR t r P) (h54 : 0 ≤ P 5 4 ∧ P 5 4 ≤ 200) (hw1 : μ 184 k = P 5 1) (hw2 : μ 185 k = P 5 2)
    (hQ : ∀ μ' : MU, MF μ μ' k f → (∀ i, ¬ i = 6 * k + r → μ' 186 i = μ 186 i ∧ μ' 187 i = μ 187 i) → RM μ' f (rGo S f h t r P) → μ' 184 k = rGo S f h t r P 5 1 → μ' 185 k = rGo S f h t r P 5 2 → μ' 186 (6 * k + r) = rGo S f h t r P 3 r → (¬ rGo S f h t r P 3 r = -6 → μ' 187 (6 * k + r) = rGo S f h t r P 4 r) → Q (some (.inl (rGo S f h t r P 5 0))) G0 μ') :
    Wp E 87 0 [some (.inr (.inr (.inl 176))), some (.inl k), some (.inl r), some (.inl (P 5 0)), none, none, none, none, none, none, none] [] G0 μ Q := by
  obtain ⟨⟨a1, a2⟩, ⟨b1, b2⟩, c1, ⟨d1, d2⟩⟩ := id hR
  clear c1
  have w1 := hw.1.2.1
  have hd : 0 ≤ P 5 0 ∧ P 5 0 ≤ 2219 := by omega
  refine g87a hS hw hk hf hr hF hH hh hM hP hd ?_
  by_cases pm : P 5 0 + S 1 < rTh S h r P
  · have eR : rFr S h r P = rTh S h r P := if_pos (by omega)
    have eG : rGo S f h t r P = rMis r P := if_pos pm
    rw [eG] at hQ
    rw [eR]
    have s1 : μ 177 1 = S 1 := hS.1 1 (by omega)
    have mA : mWr (P 5 0 + S 1) = P 5 0 + S 1 := mWr_of (by omega) (by omega)
    have pm2 : ¬ rTh S h r P ≤ P 5 0 + S 1 := by omega
    have ej : 6 * (k : Int) + (r : Int) = ((6 * k + r : Nat) : Int) := by omega
    have ej2 : ((6 * k + r : Nat) : Int) < 126 := by omega
    have ej3 : (0 : Int) ≤ ((6 * k + r : Nat) : Int) := by omega
    have ek : (0 : Int) ≤ k := by omega
    have ek2 : (k : Int) < 21 := by omega
    simp (disch := first | omega | exact rfl) only [x87_0, x87_1, x87_2, x87_3, x87_6, x87_8, x87_10, x87_12, x87_13, x87_14, x87_15, x87_17, x87_18, x87_19, x87_20, x87_23, x87_25, x87_26, x87_29, x87_31, x87_32, x87_33, x87_34, x87_37, x87_39, x87_40, x87_42, x87_45, x87_46, x87_48, x87_50, x87_51, x87_54, x87_56, x87_59, x87_60, x87_62, x87_64, x87_65, x87_66, x87_69, x87_70, x87_71, x87_72, x87_75, x87_76, x87_79, x87_80, x87_81, x87_82, x87_83, x87_84, x87_85, x87_86, x87_87, x87_88, x87_91, x87_93, x87_94, x87_95, x87_96, x87_97, x87_99, x87_100, x87_101, x87_103, x87_105, x87_106, x87_107, x87_108, x87_111, x87_113, x87_115, x87_118, x87_119, x87_122, x87_124, x87_125, x87_128, x87_129, x87_130, x87_131, x87_134, x87_136, x87_137, x87_138, x87_141, x87_142, x87_145, x87_146, x87_148, x87_149, x87_152, x87_154, x87_155, x87_158, x87_160, x87_161, x87_164, x87_166, x87_169, x87_170, x87_173, x87_174, x87_175, x87_176, x87_179, x87_180, x87_181, x87_182, x87_184, x87_185, x87_186, x87_187, x87_188, x87_189, x87_192, x87_194, x87_195, x87_196, x87_197, x87_200, x87_202, x87_203, x87_205, x87_208, x87_209, x87_212, x87_213, x87_214, x87_215, x87_216, x87_219, x87_221, x87_223, x87_224, x87_225, x87_228, x87_230, x87_232, x87_233, x87_236, x87_237, x87_238, x87_239, x87_241, x87_244, x87_245, x87_248, x87_249, x87_250, x87_253, x87_254, x87_255, x87_256, x87_257, x87_260, x87_262, x87_263, x87_264, x87_265, x87_266, x87_268, x87_269, x87_270, x87_273, x87_275, x87_276, x87_277, x87_278, x87_279, x87_280, x87_283, x87_285, x87_286, x87_287, x87_289, x87_290, x87_293, x87_294, x87_295, x87_296, isF, isK, isH, mK, nl_i, nl_n, nl_o, nl_r, c1_i, c1_r, mPush, mRv, G0_1, true_and, and_true, and_self, implies_true, List.length_nil, List.length_cons, Nat.reduceAdd, Nat.reduceLeDiff, Nat.zero_le, beq_self_eq_true, Nat.reduceBEq, decide_true, Bool.and_self, reduceCtorEq, ne_eq, not_true_eq_false, not_false_eq_true, false_implies, true_implies, Nat.reduceLT, Nat.reduceEqDiff, or_true, true_or, or_false, false_or, or_self, Int.reduceEq, Int.reduceNe, Int.reduceLT, Int.reduceLE, Int.reduceAdd, Int.reduceSub, Int.reduceMul, Int.reduceNeg, Int.reduceToNat, if_true, if_false, Classical.not_not, Int.cast_ofNat_Int, kd176, kd177, kd178, kd179, kd180, kd181, kd182, kd183, kd184, kd185, kd186, kd187, kd188, kd189, kd190, kd191, kd192, kd193, kd194, rf176_1, rf176_2, rf176_4, rf176_5, rf176_6, rf176_8, rf176_9, rf176_10, rf176_11, rf176_12, rf176_13, rf176_14, rf176_16, rf176_17, rf176_18, rf176_19, rf176_20, rf176_23, mWr_of, Int.toNat_natCast, s1, mA, pm, pm2, ej, ej2, ej3, ek, ek2, hw2]
    refine hQ _ ⟨?_, ?_, ?_, ?_, ?_⟩ ?_ ⟨fun i hi => ?_, ?_⟩ ?_ ?_ ?_ ?_
    · intro x hx
      rw [mUp_ne (by omega), mUp_ne (by omega)]
    · intro i hi
      rw [mUp_ne (by omega), mUp_ne (by omega), mUp_ne (by omega), mUp_nj hi]; exact ⟨rfl, rfl⟩
    · intro i hi
      rw [mUp_nj (by omega), mUp_ne (by omega), mUp_ne (by omega), mUp_ne (by omega)]; exact ⟨rfl, rfl⟩
    · intro i hi
      rw [mUp_ne (by omega), mUp_ne (by omega)]
    · intro i hi
      rw [mUp_ne (by omega), mUp_ne (by omega), mUp_ne (by omega), mUp_ne (by omega), mUp_ne (by omega), mUp_ne (by omega)]; exact ⟨rfl, rfl, rfl⟩
    · intro i hi
      rw [mUp_nj (by omega), mUp_ne (by omega), mUp_ne (by omega), mUp_ne (by omega)]; exact ⟨rfl, rfl⟩
    · rw [mUp_ne (by omega), mUp_ne (by omega), mUp_ne (by omega), mUp_ne (by omega), mUp_ne (by omega), mUp_ne (by omega)]
      exact hM.1 i hi
    · rw [mUp_ne (by omega), mUp_ne (by omega)]; exact hM.2
    · rw [mUp_ne (by omega), mUp_ne (by omega)]; exact hw1
    · rw [mUp_ne (by omega), mUp_eq]; rfl
    · rw [mUp_eq]
      show _ = if r = r then -6 else P 3 r
      rw [if_pos rfl]
    · intro z
      exact absurd (show (if r = r then -6 else P 3 r) = -6 from if_pos rfl) z
  · have hT := (hw.2.2.1 f hf hf2).2.2.2 r hr
    have f1 : P 5 0 ≤ rFr S h r P ∧ rFr S h r P ≤ P 5 0 + S 1 := by
      unfold rFr
      by_cases q : P 5 0 < rTh S h r P
      · rw [if_pos q]; omega
      · rw [if_neg q]; omega
    have eG : rGo S f h t r P = rHit S f h t r P := if_neg pm
    rw [eG] at hQ
    refine g87c hS hw hk hf hr ht hM hP hT hd f1.2 ?_
    have hmd : rMd S f t r P = 0 ∨ (rMd S f t r P = 1 ∧ P 2 r = 0) := by
      unfold rMd
      by_cases q : (0 < S (26 + 9 * f + r) ∧ P 2 r = 0) ∧ S (26 + 9 * f + r) - 1 ≤ t
      · rw [if_pos q]; exact Or.inr ⟨rfl, q.1.2⟩
      · rw [if_neg q]; exact Or.inl rfl
    obtain ⟨m0, m1, m2⟩ := hM.1 r hr
    rw [g87d hS hw hk hf hr (hP r hr).2.2 hmd hd f1 (by omega) (by omega) m0 m2 hw1 hM.2]
    have eFn : rFr S h r P + S 0 + (if rMd S f t r P = 1 then S 2 else 0) = rFn S f h t r P := rfl
    rw [eFn]
    refine hQ _ ⟨?_, ?_, ?_, ?_, ?_⟩ ?_ ⟨fun i hi => ⟨?_, ?_, ?_⟩, ?_⟩ ?_ ?_ ?_ ?_
    · intro x hx
      simp (disch := omega) only [mUp_ne]
    · intro i hi
      simp (disch := omega) only [mUp_ne, mUp_nj, and_self]
    · intro i hi
      simp (disch := omega) only [mUp_ne, mUp_nj, and_self]
    · intro i hi
      simp (disch := omega) only [mUp_ne, mUp_nj]
    · intro i hi
      simp (disch := omega) only [mUp_ne, mUp_nj, and_self]
    · intro i hi
      simp (disch := omega) only [mUp_ne, mUp_nj, and_self]
    · simp (disch := omega) only [mUp_ne, mUp_at]
      show _ = if i = r then h else P 0 i
      by_cases q : i = r
      · rw [if_pos (by omega), if_pos q]
      · rw [if_neg (by omega), if_neg q]; exact (hM.1 i hi).1
    · simp (disch := omega) only [mUp_ne, mUp_at]
      show _ = if i = r then rFn S f h t r P else P 1 i
      by_cases q : i = r
      · rw [if_pos (by omega), if_pos q]
      · rw [if_neg (by omega), if_neg q]; exact (hM.1 i hi).2.1
    · simp (disch := omega) only [mUp_ne, mUp_at]
      show _ = if i = r then (if rMd S f t r P = 1 then 1 else P 2 i) else P 2 i
      by_cases q : i = r
      · rw [if_pos (by omega), if_pos q, q]
      · rw [if_neg (by omega), if_neg q]; exact (hM.1 i hi).2.2
    · simp (disch := omega) only [mUp_ne, mUp_eq]; rfl
    · simp (disch := omega) only [mUp_ne, mUp_eq]; rfl
    · simp (disch := omega) only [mUp_ne]; exact hw2
    · simp (disch := omega) only [mUp_ne, mUp_eq]
      show _ = if r = r then rFr S h r P else P 3 r
      rw [if_pos rfl]
    · intro _
      simp (disch := omega) only [mUp_ne, mUp_eq]
      show _ = if r = r then rFn S f h t r P else P 4 r
      rw [if_pos rfl]
end GOES2
