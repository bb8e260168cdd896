section GOES3
variable {E : ME} {Q : Option MV → MG → MU → Prop} {S : Row}
theorem rGo_4 {f r i : Nat} {h t : Int} {P : MU} (hi : ¬ i = r) : rGo S f h t r P 4 i = P 4 i := by
  unfold rGo
  by_cases p : P 5 0 + S 1 < rTh S h r P
  · rw [if_pos p]; rfl
  · rw [if_neg p]
    show (if i = r then rFn S f h t r P else P 4 i) = P 4 i
    rw [if_neg hi]
theorem RS_fr {μ μ' : MU} (h : RS μ S) (h1 : μ' 177 = μ 177) (h2 : μ' 176 15 = μ 176 15) : RS μ' S := by
  unfold RS
  rw [h1, h2]; exact h
theorem zq88 (hw : wfR S) {k f n : Nat} {h t : Int} {P : MU} (hk : k < 21) (hf : f < 5) (hf2 : (f : Int) < S 5) (hF : S (68 + 4 * k) = f) (hH : S (69 + 4 * k) = h) (ht : S (70 + 4 * k) = t) (hh : isH h) (ht2 : 0 ≤ t ∧ t ≤ 1439) (hn : S (23 + 9 * f) = n) (hP : qP P) (h54 : 0 ≤ P 5 4 ∧ P 5 4 ≤ 190) {μ0 : MU} (hS : RS μ0 S)
    (hQ : ∀ μ : MU, MF μ0 μ k f → RM μ f (rRun S f h t n (sBeg t P)) → μ 184 k = rRun S f h t n (sBeg t P) 5 1 → μ 185 k = rRun S f h t n (sBeg t P) 5 2 → (∀ i, i < n → μ 186 (6 * k + i) = rRun S f h t n (sBeg t P) 3 i ∧ (¬ rRun S f h t n (sBeg t P) 3 i = -6 → μ 187 (6 * k + i) = rRun S f h t n (sBeg t P) 4 i)) → Q none G0 (mUp μ 183 k (rRun S f h t n (sBeg t P) 5 0))) :
    ∀ (m r : Nat), r + m = n → ∀ μ : MU, MF μ0 μ k f → RM μ f (rRun S f h t r (sBeg t P)) → μ 184 k = rRun S f h t r (sBeg t P) 5 1 → μ 185 k = rRun S f h t r (sBeg t P) 5 2 → (∀ i, i < r → μ 186 (6 * k + i) = rRun S f h t r (sBeg t P) 3 i ∧ (¬ rRun S f h t r (sBeg t P) 3 i = -6 → μ 187 (6 * k + i) = rRun S f h t r (sBeg t P) 4 i)) →
    Wp E 88 23 [some (.inr (.inr (.inl 176))), some (.inl k), some (.inl (rRun S f h t r (sBeg t P) 5 0)), some (.inl r)] [] G0 μ Q := by
  intro m
  have hrn := (hw.2.2.1 f hf hf2).1
  induction m with
  | zero =>
    intro r hr μ h1 h2 h3 h4 h5
    have er : r = n := by omega
    subst er
    have e177 : μ 177 = μ0 177 := h1.1 177 (by omega)
    have eF : μ 177 (68 + 4 * k + 0) = f := by rw [e177, hS.1 _ (by omega)]; exact hF
    have eN : μ 177 (23 + 9 * f + 0) = r := by rw [e177, hS.1 _ (by omega)]; exact hn
    have ek : (0 : Int) ≤ k := by omega
    have ek2 : (k : Int) < 21 := by omega
    simp (disch := first | omega | exact rfl) only [x88_0, x88_1, x88_2, x88_3, x88_6, x88_7, x88_8, x88_11, x88_12, x88_13, x88_14, x88_15, x88_18, x88_19, x88_20, x88_21, x88_22, x88_23, x88_24, x88_25, x88_26, x88_27, x88_28, x88_31, x88_32, x88_35, x88_45, x88_46, x88_52, x88_53, x88_56, x88_57, x88_58, x88_59, isF, isK, isH, mK, nl_i, nl_n, nl_o, nl_r, c1_i, c1_r, mPush, mRv, G0_1, true_and, and_true, and_self, implies_true, List.length_nil, List.length_cons, Nat.reduceAdd, Nat.reduceLeDiff, Nat.zero_le, beq_self_eq_true, Nat.reduceBEq, decide_true, Bool.and_self, reduceCtorEq, ne_eq, not_true_eq_false, not_false_eq_true, false_implies, true_implies, Nat.reduceLT, Nat.reduceEqDiff, or_true, true_or, or_false, false_or, or_self, Int.reduceEq, Int.reduceNe, Int.reduceLT, Int.reduceLE, Int.reduceAdd, Int.reduceSub, Int.reduceMul, Int.reduceNeg, Int.reduceToNat, if_true, if_false, Classical.not_not, Int.cast_ofNat_Int, kd176, kd177, kd178, kd179, kd180, kd181, kd182, kd183, kd184, kd185, kd186, kd187, kd188, kd189, kd190, kd191, kd192, kd193, kd194, rf176_1, rf176_2, rf176_4, rf176_5, rf176_6, rf176_8, rf176_9, rf176_10, rf176_11, rf176_12, rf176_13, rf176_14, rf176_16, rf176_17, rf176_18, rf176_19, rf176_20, rf176_23, mWr_of, Int.toNat_natCast, ct79, ct78, eF, eN, Int.lt_irrefl, Int.le_refl, ek, ek2]
    exact hQ μ h1 h2 h3 h4 h5
  | succ m ih =>
    intro r hr μ h1 h2 h3 h4 h5
    have e177 : μ 177 = μ0 177 := h1.1 177 (by omega)
    have e176 : μ 176 = μ0 176 := h1.1 176 (by omega)
    have eF : μ 177 (68 + 4 * k + 0) = f := by rw [e177, hS.1 _ (by omega)]; exact hF
    have eN : μ 177 (23 + 9 * f + 0) = n := by rw [e177, hS.1 _ (by omega)]; exact hn
    have er : ¬ (n : Int) ≤ r := by omega
    have er2 : (r : Int) < n := by omega
    have eJ : (r : Int) + 1 = ((r + 1 : Nat) : Int) := by omega
    simp (disch := first | omega | exact rfl) only [x88_0, x88_1, x88_2, x88_3, x88_6, x88_7, x88_8, x88_11, x88_12, x88_13, x88_14, x88_15, x88_18, x88_19, x88_20, x88_21, x88_22, x88_23, x88_24, x88_25, x88_26, x88_27, x88_28, x88_31, x88_32, x88_35, x88_38, x88_39, x88_40, x88_41, x88_42, x88_52, x88_53, x88_56, x88_57, x88_58, x88_59, isF, isK, isH, mK, nl_i, nl_n, nl_o, nl_r, c1_i, c1_r, mPush, mRv, G0_1, true_and, and_true, and_self, implies_true, List.length_nil, List.length_cons, Nat.reduceAdd, Nat.reduceLeDiff, Nat.zero_le, beq_self_eq_true, Nat.reduceBEq, decide_true, Bool.and_self, reduceCtorEq, ne_eq, not_true_eq_false, not_false_eq_true, false_implies, true_implies, Nat.reduceLT, Nat.reduceEqDiff, or_true, true_or, or_false, false_or, or_self, Int.reduceEq, Int.reduceNe, Int.reduceLT, Int.reduceLE, Int.reduceAdd, Int.reduceSub, Int.reduceMul, Int.reduceNeg, Int.reduceToNat, if_true, if_false, Classical.not_not, Int.cast_ofNat_Int, kd176, kd177, kd178, kd179, kd180, kd181, kd182, kd183, kd184, kd185, kd186, kd187, kd188, kd189, kd190, kd191, kd192, kd193, kd194, rf176_1, rf176_2, rf176_4, rf176_5, rf176_6, rf176_8, rf176_9, rf176_10, rf176_11, rf176_12, rf176_13, rf176_14, rf176_16, rf176_17, rf176_18, rf176_19, rf176_20, rf176_23, mWr_of, Int.toNat_natCast, ct79, ct78, eF, eN, er, er2]
    have q := rRun_q hw (f := f) hh ht2 hP r (by omega)
    have q2 := q.2.2.2.2
    have q3 := rRun_54 (S := S) (f := f) (h := h) (t := t) (P := P) r
    refine ct87 (RS_fr hS e177 (by rw [e176])) hw hk hf hf2 (by omega) hF hH ht hh ht2 h2 q.1 q.2 (by omega) h3 h4 ?_
    intro μ1 k1 k2 k3 k4 k5 k6 k7
    simp (disch := first | omega | exact rfl) only [x88_45, x88_46, isF, isK, isH, mK, nl_i, nl_n, nl_o, nl_r, c1_i, c1_r, mPush, mRv, G0_1, true_and, and_true, and_self, implies_true, List.length_nil, List.length_cons, Nat.reduceAdd, Nat.reduceLeDiff, Nat.zero_le, beq_self_eq_true, Nat.reduceBEq, decide_true, Bool.and_self, reduceCtorEq, ne_eq, not_true_eq_false, not_false_eq_true, false_implies, true_implies, Nat.reduceLT, Nat.reduceEqDiff, or_true, true_or, or_false, false_or, or_self, Int.reduceEq, Int.reduceNe, Int.reduceLT, Int.reduceLE, Int.reduceAdd, Int.reduceSub, Int.reduceMul, Int.reduceNeg, Int.reduceToNat, if_true, if_false, Classical.not_not, Int.cast_ofNat_Int, mWr_of]
    rw [x88_49, eJ]
    refine ih (r + 1) (by omega) μ1 (MF_trans h1 k1) k3 k4 k5 ?_
    intro i hi
    by_cases e : i = r
    · subst e; exact ⟨k6, k7⟩
    · have e2 : ¬ 6 * k + i = 6 * k + r := by omega
      obtain ⟨z1, z2⟩ := k2 _ e2
      obtain ⟨z3, z4⟩ := h5 i (by omega)
      show μ1 186 (6 * k + i) = rGo S f h t r (rRun S f h t r (sBeg t P)) 3 i ∧ (¬ rGo S f h t r (rRun S f h t r (sBeg t P)) 3 i = -6 → μ1 187 (6 * k + i) = rGo S f h t r (rRun S f h t r (sBeg t P)) 4 i)
      rw [rGo_3 e, rGo_4 e, z1, z2]
      exact ⟨z3, z4⟩
/-- what the going through of show k of film f leaves as it was -/
def MF2 (μ μ' : MU) (k f : Nat) : Prop := (∀ x, ¬ (183 ≤ x ∧ x ≤ 191) → μ' x = μ x) ∧ (∀ i, ¬ i = k → μ' 183 i = μ 183 i ∧ μ' 184 i = μ 184 i ∧ μ' 185 i = μ 185 i) ∧ (∀ i, ¬ (6 * k ≤ i ∧ i < 6 * k + 6) → μ' 186 i = μ 186 i ∧ μ' 187 i = μ 187 i) ∧ (∀ i, ¬ i = f → μ' 188 i = μ 188 i) ∧ (∀ i, ¬ (6 * f ≤ i ∧ i < 6 * f + 6) → μ' 189 i = μ 189 i ∧ μ' 190 i = μ 190 i ∧ μ' 191 i = μ 191 i)
theorem ct88 (hw : wfR S) {k f : Nat} {P : MU} (hk : k < 21) (hk2 : (k : Int) < S 6) (hf : f < 5) (hf2 : (f : Int) < S 5) (hF : S (68 + 4 * k) = f) (hP : qP P) (h54 : 0 ≤ P 5 4 ∧ P 5 4 ≤ 190) {μ : MU} (hS : RS μ S) (hM : RM μ f P)
    (hQ : ∀ μ' : MU, MF2 μ μ' k f → RM μ' f (sGo S f k P) → μ' 183 k = sGo S f k P 5 0 → μ' 184 k = sGo S f k P 5 1 → μ' 185 k = sGo S f k P 5 2 → (∀ i : Nat, (i : Int) < S (23 + 9 * f) → μ' 186 (6 * k + i) = sGo S f k P 3 i ∧ (¬ sGo S f k P 3 i = -6 → μ' 187 (6 * k + i) = sGo S f k P 4 i)) → Q none G0 μ') :
    Wp E 88 0 [some (.inr (.inr (.inl 176))), some (.inl k), none, none] [] G0 μ Q := by
  have hrn := (hw.2.2.1 f hf hf2).1
  obtain ⟨n, hn⟩ := Int.eq_ofNat_of_zero_le (a := S (23 + 9 * f)) (by omega)
  have hs := hw.2.2.2 k hk hk2
  have eT : μ 177 (68 + 4 * k + 2) = S (70 + 4 * k) := by
    rw [hS.1 _ (by omega)]; congr 1; omega
  have ek : (0 : Int) ≤ k := by omega
  have ek2 : (k : Int) < 21 := by omega
  unfold sGo at hQ
  rw [hn, Int.toNat_natCast] at hQ
  simp (disch := first | omega | exact rfl) only [x88_0, x88_1, x88_2, x88_3, x88_6, x88_7, x88_8, x88_11, x88_12, x88_13, x88_14, x88_15, x88_18, x88_19, x88_20, x88_21, x88_22, isF, isK, isH, mK, nl_i, nl_n, nl_o, nl_r, c1_i, c1_r, mPush, mRv, G0_1, true_and, and_true, and_self, implies_true, List.length_nil, List.length_cons, Nat.reduceAdd, Nat.reduceLeDiff, Nat.zero_le, beq_self_eq_true, Nat.reduceBEq, decide_true, Bool.and_self, reduceCtorEq, ne_eq, not_true_eq_false, not_false_eq_true, false_implies, true_implies, Nat.reduceLT, Nat.reduceEqDiff, or_true, true_or, or_false, false_or, or_self, Int.reduceEq, Int.reduceNe, Int.reduceLT, Int.reduceLE, Int.reduceAdd, Int.reduceSub, Int.reduceMul, Int.reduceNeg, Int.reduceToNat, if_true, if_false, Classical.not_not, Int.cast_ofNat_Int, kd176, kd177, kd178, kd179, kd180, kd181, kd182, kd183, kd184, kd185, kd186, kd187, kd188, kd189, kd190, kd191, kd192, kd193, kd194, rf176_1, rf176_2, rf176_4, rf176_5, rf176_6, rf176_8, rf176_9, rf176_10, rf176_11, rf176_12, rf176_13, rf176_14, rf176_16, rf176_17, rf176_18, rf176_19, rf176_20, rf176_23, Int.toNat_natCast, ct79, eT, ek, ek2]
  refine zq88 (μ0 := mUp (mUp μ 184 k 0) 185 k 0) hw hk hf hf2 hF rfl rfl hs.2.1 hs.2.2.1 hn hP h54 (RS_fr hS ?_ ?_) ?_ n 0 (by omega) _ ⟨fun _ _ => rfl, fun _ _ => ⟨rfl, rfl⟩, fun _ _ => ⟨rfl, rfl⟩, fun _ _ => rfl, fun _ _ => ⟨rfl, rfl, rfl⟩⟩ ⟨fun i hi => ?_, ?_⟩ ?_ ?_ (fun i hi => by omega)
  · rw [mUp_ne (by omega), mUp_ne (by omega)]
  · rw [mUp_ne (by omega), mUp_ne (by omega)]
  · intro μ1 k1 k2 k3 k4 k5
    refine hQ _ ⟨?_, ?_, ?_, ?_, ?_⟩ ?_ ?_ ?_ ?_ ?_
    · intro x hx
      rw [mUp_ne (by omega), k1.1 x (by omega), mUp_ne (by omega), mUp_ne (by omega)]
    · intro i hi
      rw [mUp_nj hi, mUp_ne (by omega), mUp_ne (by omega), (k1.2.1 i hi).1, (k1.2.1 i hi).2, k1.1 183 (by omega), mUp_ne (by omega), mUp_ne (by omega), mUp_ne (by omega), mUp_nj hi, mUp_nj hi, mUp_ne (by omega)]
      exact ⟨rfl, rfl, rfl⟩
    · intro i hi
      have z := k1.2.2.1 i hi
      rw [mUp_ne (by omega), mUp_ne (by omega), z.1, z.2, mUp_ne (by omega), mUp_ne (by omega), mUp_ne (by omega), mUp_ne (by omega)]
      exact ⟨rfl, rfl⟩
    · intro i hi
      rw [mUp_ne (by omega), k1.2.2.2.1 i hi, mUp_ne (by omega), mUp_ne (by omega)]
    · intro i hi
      have z := k1.2.2.2.2 i hi
      rw [mUp_ne (by omega), mUp_ne (by omega), mUp_ne (by omega), z.1, z.2.1, z.2.2]
      simp (disch := omega) only [mUp_ne, and_self]
    · unfold RM
      rw [mUp_ne (by omega), mUp_ne (by omega), mUp_ne (by omega), mUp_ne (by omega)]
      exact k2
    · rw [mUp_eq]
    · rw [mUp_ne (by omega)]; exact k3
    · rw [mUp_ne (by omega)]; exact k4
    · intro i hi
      rw [mUp_ne (by omega), mUp_ne (by omega)]
      exact k5 i (by omega)
  · simp (disch := omega) only [mUp_ne]
    exact hM.1 i hi
  · simp (disch := omega) only [mUp_ne]; exact hM.2
  · rw [mUp_ne (by omega), mUp_eq]; rfl
  · rw [mUp_eq]; rfl
end GOES3
