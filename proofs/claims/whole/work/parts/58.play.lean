section PLAY3
variable {E : ME} {Q : Option MV → MG → MU → Prop} {b c : Nat} {S : Row}
theorem rGo_3 {f r i : Nat} {h t : Int} {P : MU} (hi : ¬ i = r) : rGo S f h t r P 3 i = P 3 i := by
  unfold rGo
  by_cases p : P 5 0 + S 1 < rTh S h r P
  · rw [if_pos p]
    show (if i = r then -6 else P 3 i) = P 3 i
    rw [if_neg hi]
  · rw [if_neg p]
    show (if i = r then rFr S h r P else P 3 i) = P 3 i
    rw [if_neg hi]
theorem zq37l (hc : c ∈ gCs) (hb : b ∈ gRs) (hw : wfR S) {f n : Nat} {h t : Int} {P0 : MU} (hf : f < 5) (hf2 : (f : Int) < S 5) (hh : isH h) (ht : 0 ≤ t ∧ t ≤ 1439) (hn : S (23 + 9 * f) = n) (hP : qP P0) {μ0 : MU} (hs : cRel μ0 c S)
    (hQ : ∀ μ' : MU, (∀ x, ¬ (b ≤ x ∧ x ≤ b + 4) → μ' x = μ0 x) → RC μ' b S f (rRun S f h t n (sBeg t P0)) → RQ μ' b (rRun S f h t n (sBeg t P0)) → (∀ i : Nat, i < n → μ' (b + 4) i = rRun S f h t n (sBeg t P0) 3 i) → Q none G0 μ') :
    ∀ (m r : Nat), r + m = n → ∀ (μ : MU) (o5 o6 : Option MV), mNl (some o5) = true → mNl (some o6) = true → (∀ x, ¬ (b ≤ x ∧ x ≤ b + 4) → μ x = μ0 x) → RC μ b S f (rRun S f h t r (sBeg t P0)) → RQ μ b (rRun S f h t r (sBeg t P0)) → (∀ i : Nat, i < r → μ (b + 4) i = rRun S f h t r (sBeg t P0) 3 i) →
    Wp E 37 23 [some (.inr (.inr (.inl b))), some (.inr (.inr (.inl c))), some (.inl h), some (.inl t), some (.inl r), o5, o6] [] G0 μ Q := by
  intro m
  induction m with
  | zero =>
    intro r hr μ o5 o6 n5 n6 h1 h2 h3 h4
    have er : r = n := by omega
    subst er
    obtain ⟨qb0, qb1, qb2, qb3, qb4, qb5, qb6, qb7, qb8⟩ := gR_ok b hb
    have eN : μ b 4 = r := by rw [h2.1]; exact hn
    simp (disch := first | omega | exact rfl) only [x37_23, x37_25, x37_26, x37_29, x37_205, isF, isK, isH, mK, nl_i, nl_n, nl_o, nl_r, c1_i, c1_r, mPush, mRv, G0_1, true_and, and_true, and_self, implies_true, List.length_nil, List.length_cons, Nat.reduceAdd, Nat.reduceLeDiff, Nat.zero_le, beq_self_eq_true, Nat.reduceBEq, decide_true, Bool.and_self, reduceCtorEq, ne_eq, not_true_eq_false, not_false_eq_true, false_implies, true_implies, Nat.reduceLT, Nat.reduceEqDiff, or_true, true_or, or_false, false_or, or_self, Int.reduceEq, Int.reduceNe, Int.reduceLT, Int.reduceLE, Int.reduceAdd, Int.reduceSub, Int.reduceMul, Int.reduceNeg, Int.reduceToNat, if_true, if_false, Classical.not_not, Int.cast_ofNat_Int, qb0, qb1, qb2, qb3, qb4, qb5, qb6, qb7, qb8, eN, Int.lt_irrefl, Int.le_refl]
    exact hQ μ h1 h2 h3 h4
  | succ m ih =>
    intro r hr μ o5 o6 n5 n6 h1 h2 h3 h4
    have hrn := (hw.2.2.1 f hf hf2).1
    have q := rRun_q hw (f := f) hh ht hP r (by omega)
    have hcb := gCR c hc b hb
    have hs' : cRel μ c S := cRel_fr (fun x p1 p2 => h1 x (by omega)) hs
    refine zq37 hc hb hs' hw hf hf2 hh ht (by omega) h2 h3 q.1 q.2 n5 n6 ?_
    intro μ' o5' o6' n5' n6' k1 k2 k3 k4
    refine ih (r + 1) (by omega) μ' o5' o6' n5' n6' (fun x hx => by rw [k1 x hx, h1 x hx]) k2 k3 ?_
    intro i hi
    rw [k4 i]
    show _ = rGo S f h t r (rRun S f h t r (sBeg t P0)) 3 i
    by_cases e : i = r
    · rw [if_pos e, e]
    · rw [if_neg e, h4 i (by omega), rGo_3 e]
theorem ct37 (hc : c ∈ gCs) (hb : b ∈ gRs) (hw : wfR S) {f : Nat} {h t : Int} {P : MU} (hf : f < 5) (hf2 : (f : Int) < S 5) (hh : isH h) (ht : 0 ≤ t ∧ t ≤ 1439) (hP : qP P) {μ : MU} (hs : cRel μ c S) (hRC : RC μ b S f P)
    (hQ : ∀ μ' : MU, (∀ x, ¬ (b ≤ x ∧ x ≤ b + 4) → μ' x = μ x) → RC μ' b S f (rRun S f h t (S (23 + 9 * f)).toNat (sBeg t P)) → RQ μ' b (rRun S f h t (S (23 + 9 * f)).toNat (sBeg t P)) → (∀ i : Nat, i < (S (23 + 9 * f)).toNat → μ' (b + 4) i = rRun S f h t (S (23 + 9 * f)).toNat (sBeg t P) 3 i) → Q none G0 μ') :
    Wp E 37 0 [some (.inr (.inr (.inl b))), some (.inr (.inr (.inl c))), some (.inl h), some (.inl t), none, none, none] [] G0 μ Q := by
  obtain ⟨qb0, qb1, qb2, qb3, qb4, qb5, qb6, qb7, qb8⟩ := gR_ok b hb
  have hrn := (hw.2.2.1 f hf hf2).1
  have hcb := gCR c hc b hb
  obtain ⟨n, hn⟩ := Int.eq_ofNat_of_zero_le (a := S (23 + 9 * f)) (by omega)
  rw [hn, Int.toNat_natCast] at hQ
  simp (disch := first | omega | exact rfl) only [x37_0, x37_1, x37_2, x37_5, x37_6, x37_7, x37_10, x37_11, x37_12, x37_15, x37_16, x37_17, x37_20, x37_21, isF, isK, isH, mK, nl_i, nl_n, nl_o, nl_r, c1_i, c1_r, mPush, mRv, G0_1, true_and, and_true, and_self, implies_true, List.length_nil, List.length_cons, Nat.reduceAdd, Nat.reduceLeDiff, Nat.zero_le, beq_self_eq_true, Nat.reduceBEq, decide_true, Bool.and_self, reduceCtorEq, ne_eq, not_true_eq_false, not_false_eq_true, false_implies, true_implies, Nat.reduceLT, Nat.reduceEqDiff, or_true, true_or, or_false, false_or, or_self, Int.reduceEq, Int.reduceNe, Int.reduceLT, Int.reduceLE, Int.reduceAdd, Int.reduceSub, Int.reduceMul, Int.reduceNeg, Int.reduceToNat, if_true, if_false, Classical.not_not, Int.cast_ofNat_Int, qb0, qb1, qb2, qb3, qb4, qb5, qb6, qb7, qb8]
  have g : ∀ x, ¬ x = b → (mUp (mUp (mUp (mUp μ b 5 t) b 6 0) b 7 0) b 8 0) x = μ x := fun x hx => by simp (disch := omega) only [mUp_ne]
  refine zq37l (μ0 := μ) hc hb hw hf hf2 hh ht hn hP hs hQ n 0 (by omega) _ _ _ rfl rfl (fun x hx => g x (by omega)) ⟨?_, fun i hi => ?_⟩ ⟨?_, ?_, ?_, ?_⟩ (fun i hi => by omega)
  · simp (disch := omega) only [mUp_nj]; exact hRC.1
  · rw [g _ (by omega), g _ (by omega), g _ (by omega)]; exact hRC.2 i hi
  · simp (disch := omega) only [mUp_nj, mUp_eq]; rfl
  · simp (disch := omega) only [mUp_nj, mUp_eq]; rfl
  · simp (disch := omega) only [mUp_nj, mUp_eq]; rfl
  · simp (disch := omega) only [mUp_nj, mUp_eq]; rfl
end PLAY3
