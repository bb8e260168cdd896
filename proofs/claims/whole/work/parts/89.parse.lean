section RDO2
variable {E : ME} {Q : Option MV → MG → MU → Prop} {T : Nat → Int} {L : Nat}
def RG (μ μ' : MU) : Prop := (∀ x, ¬ x = 176 → ¬ x = 194 → μ' x = μ x) ∧ (∀ i, ¬ i = 21 → ¬ i = 22 → ¬ i = 24 → μ' 176 i = μ 176 i)
theorem RG_tr {a b c : MU} (h1 : RG a b) (h2 : RG b c) : RG a c := ⟨fun x z1 z2 => (h2.1 x z1 z2).trans (h1.1 x z1 z2), fun i z1 z2 z3 => (h2.2 i z1 z2 z3).trans (h1.2 i z1 z2 z3)⟩
def OT (μ : MU) (T : Nat → Int) (L K p : Nat) : Prop := μ 194 (5 * K) = T p ∧ ∀ j, j < (oV T L p).length → μ 194 (5 * K + 1 + j) = (oV T L p).getD j 0
/-- the memory behind the letter -/
def LM (μ : MU) (p K : Nat) (w c : Int) : MU := mUp (mUp (mUp μ 176 22 w) 176 21 (p + w)) 194 (5 * K) c
theorem LM_X {μ : MU} {p K : Nat} {w c : Int} : RX μ (LM μ p K w c) := ⟨fun x z1 z2 => by unfold LM; rw [mUp_ne z2, mUp_ne z1, mUp_ne z1], fun i z1 z2 => by unfold LM; rw [mUp_ne (by omega), mUp_nj z1, mUp_nj z2]⟩
theorem LM_P {μ : MU} {p K : Nat} {c : Int} {s s' : Int × Nat} (hP : RDp μ T L s) {w : Int} (h1 : w = s'.1) (h2 : (p : Int) + w = s'.2) : RDp (LM μ p K w c) T L s' := by
  unfold LM; exact RDp_s (RDp_up hP h1 h2)
theorem LM_c {μ : MU} {p K : Nat} {w c : Int} : LM μ p K w c 194 (5 * K) = c ∧ ∀ i, ¬ i = 5 * K → LM μ p K w c 194 i = μ 194 i := by
  unfold LM
  exact ⟨mUp_eq, fun i hi => by rw [mUp_nj hi, mUp_ne (by omega), mUp_ne (by omega)]⟩
theorem gRH (hL : L ≤ 80) {μ : MU} {p K : Nat} (hp : p ≤ L) (hP : RDp μ T L (1, p)) (hK : K ≤ 40) (h24 : μ 176 24 = K) {c : Int} (hc : sgn T L p = c)
    (h1 : isL c → ∀ o3 : Option MV, Wp E 133 (if c = 45 then 102 else 117) [some (.inr (.inr (.inl 176))), some (.inl ((5 * K : Nat) : Int)), some (.inl c), o3] [] G0 (LM μ p K 1 c) Q) (h0 : ¬ isL c → ∀ o3 : Option MV, Wp E 133 117 [some (.inr (.inr (.inl 176))), some (.inl ((5 * K : Nat) : Int)), some (.inl c), o3] [] G0 (LM μ p K 0 c) Q) :
    Wp E 133 0 [some (.inr (.inr (.inl 176))), none, none, none] [] G0 μ Q := by
  have e5 : 5 * (K : Int) = ((5 * K : Nat) : Int) := by omega
  have e6 : (0 : Int) ≤ ((5 * K : Nat) : Int) := by omega
  have e7 : ((5 * K : Nat) : Int) < 240 := by omega
  have a3 := hP.2.2.1
  have a4 := hP.2.2.2
  have ok0 : mOk 2 0 = true := rfl
  have ok1 : mOk 2 1 = true := rfl
  have e21 : ∀ w, (mUp μ 176 22 w) 176 21 = p := fun w => by rw [mUp_nj (by omega)]; exact a3
  have hsg := ct129 (E := E) hL hP (Q := Q)
  have hs2 : sgn T L ((1 : Int), p).2 = c := hc
  by_cases c1 : c = 102
  · have h := h1 (Or.inl c1) (some (.inl 1))
    rw [if_neg (by omega)] at h
    subst c1
    unfold LM at h
    simp (disch := first | omega | exact rfl) only [x133_0, x133_1, x133_2, x133_5, x133_6, x133_7, x133_8, x133_11, x133_12, x133_13, x133_15, x133_18, x133_19, x133_21, x133_24, x133_25, x133_27, x133_30, x133_31, x133_33, x133_36, x133_37, x133_39, x133_42, x133_43, x133_46, x133_47, x133_48, x133_49, x133_50, x133_53, x133_56, x133_57, x133_60, x133_61, x133_64, x133_65, x133_68, x133_69, x133_70, x133_73, x133_74, x133_77, x133_80, x133_81, x133_84, x133_85, x133_86, x133_89, x133_90, x133_93, x133_94, x133_95, x133_96, x133_97, x133_99, isF, isK, isH, mK, nl_i, nl_n, nl_o, nl_r, c1_i, c1_r, mPush, mRv, G0_1, true_and, and_true, and_self, implies_true, List.length_nil, List.length_cons, Nat.reduceAdd, Nat.reduceLeDiff, Nat.zero_le, beq_self_eq_true, Nat.reduceBEq, decide_true, Bool.and_self, reduceCtorEq, ne_eq, not_true_eq_false, not_false_eq_true, false_implies, true_implies, Nat.reduceLT, Nat.reduceEqDiff, or_true, true_or, or_false, false_or, or_self, Int.reduceEq, Int.reduceNe, Int.reduceLT, Int.reduceLE, Int.reduceAdd, Int.reduceSub, Int.reduceMul, Int.reduceNeg, Int.reduceToNat, if_true, if_false, Classical.not_not, Int.cast_ofNat_Int, kd176, kd177, kd178, kd179, kd180, kd181, kd182, kd183, kd184, kd185, kd186, kd187, kd188, kd189, kd190, kd191, kd192, kd193, kd194, rf176_1, rf176_2, rf176_4, rf176_5, rf176_6, rf176_8, rf176_9, rf176_10, rf176_11, rf176_12, rf176_13, rf176_14, rf176_16, rf176_17, rf176_18, rf176_19, rf176_20, rf176_23, h24, mWr_of, e5, ct129 hL hP, hs2, a4, e21, ok1, mUp_eq, e6, e7, Int.toNat_natCast]
    exact h
  by_cases c2 : c = 115
  · have h := h1 (Or.inr (Or.inl c2)) (some (.inl 1))
    rw [if_neg (by omega)] at h
    subst c2
    unfold LM at h
    simp (disch := first | omega | exact rfl) only [x133_0, x133_1, x133_2, x133_5, x133_6, x133_7, x133_8, x133_11, x133_12, x133_13, x133_15, x133_18, x133_19, x133_21, x133_24, x133_25, x133_27, x133_30, x133_31, x133_33, x133_36, x133_37, x133_39, x133_42, x133_43, x133_46, x133_47, x133_48, x133_49, x133_50, x133_53, x133_56, x133_57, x133_60, x133_61, x133_64, x133_65, x133_68, x133_69, x133_70, x133_73, x133_74, x133_77, x133_80, x133_81, x133_84, x133_85, x133_86, x133_89, x133_90, x133_93, x133_94, x133_95, x133_96, x133_97, x133_99, isF, isK, isH, mK, nl_i, nl_n, nl_o, nl_r, c1_i, c1_r, mPush, mRv, G0_1, true_and, and_true, and_self, implies_true, List.length_nil, List.length_cons, Nat.reduceAdd, Nat.reduceLeDiff, Nat.zero_le, beq_self_eq_true, Nat.reduceBEq, decide_true, Bool.and_self, reduceCtorEq, ne_eq, not_true_eq_false, not_false_eq_true, false_implies, true_implies, Nat.reduceLT, Nat.reduceEqDiff, or_true, true_or, or_false, false_or, or_self, Int.reduceEq, Int.reduceNe, Int.reduceLT, Int.reduceLE, Int.reduceAdd, Int.reduceSub, Int.reduceMul, Int.reduceNeg, Int.reduceToNat, if_true, if_false, Classical.not_not, Int.cast_ofNat_Int, kd176, kd177, kd178, kd179, kd180, kd181, kd182, kd183, kd184, kd185, kd186, kd187, kd188, kd189, kd190, kd191, kd192, kd193, kd194, rf176_1, rf176_2, rf176_4, rf176_5, rf176_6, rf176_8, rf176_9, rf176_10, rf176_11, rf176_12, rf176_13, rf176_14, rf176_16, rf176_17, rf176_18, rf176_19, rf176_20, rf176_23, h24, mWr_of, e5, ct129 hL hP, hs2, a4, e21, ok1, mUp_eq, e6, e7, Int.toNat_natCast]
    exact h
  by_cases c3 : c = 119
  · have h := h1 (Or.inr (Or.inr (Or.inl c3))) (some (.inl 1))
    rw [if_neg (by omega)] at h
    subst c3
    unfold LM at h
    simp (disch := first | omega | exact rfl) only [x133_0, x133_1, x133_2, x133_5, x133_6, x133_7, x133_8, x133_11, x133_12, x133_13, x133_15, x133_18, x133_19, x133_21, x133_24, x133_25, x133_27, x133_30, x133_31, x133_33, x133_36, x133_37, x133_39, x133_42, x133_43, x133_46, x133_47, x133_48, x133_49, x133_50, x133_53, x133_56, x133_57, x133_60, x133_61, x133_64, x133_65, x133_68, x133_69, x133_70, x133_73, x133_74, x133_77, x133_80, x133_81, x133_84, x133_85, x133_86, x133_89, x133_90, x133_93, x133_94, x133_95, x133_96, x133_97, x133_99, isF, isK, isH, mK, nl_i, nl_n, nl_o, nl_r, c1_i, c1_r, mPush, mRv, G0_1, true_and, and_true, and_self, implies_true, List.length_nil, List.length_cons, Nat.reduceAdd, Nat.reduceLeDiff, Nat.zero_le, beq_self_eq_true, Nat.reduceBEq, decide_true, Bool.and_self, reduceCtorEq, ne_eq, not_true_eq_false, not_false_eq_true, false_implies, true_implies, Nat.reduceLT, Nat.reduceEqDiff, or_true, true_or, or_false, false_or, or_self, Int.reduceEq, Int.reduceNe, Int.reduceLT, Int.reduceLE, Int.reduceAdd, Int.reduceSub, Int.reduceMul, Int.reduceNeg, Int.reduceToNat, if_true, if_false, Classical.not_not, Int.cast_ofNat_Int, kd176, kd177, kd178, kd179, kd180, kd181, kd182, kd183, kd184, kd185, kd186, kd187, kd188, kd189, kd190, kd191, kd192, kd193, kd194, rf176_1, rf176_2, rf176_4, rf176_5, rf176_6, rf176_8, rf176_9, rf176_10, rf176_11, rf176_12, rf176_13, rf176_14, rf176_16, rf176_17, rf176_18, rf176_19, rf176_20, rf176_23, h24, mWr_of, e5, ct129 hL hP, hs2, a4, e21, ok1, mUp_eq, e6, e7, Int.toNat_natCast]
    exact h
  by_cases c4 : c = 116
  · have h := h1 (Or.inr (Or.inr (Or.inr (Or.inl c4)))) (some (.inl 1))
    rw [if_neg (by omega)] at h
    subst c4
    unfold LM at h
    simp (disch := first | omega | exact rfl) only [x133_0, x133_1, x133_2, x133_5, x133_6, x133_7, x133_8, x133_11, x133_12, x133_13, x133_15, x133_18, x133_19, x133_21, x133_24, x133_25, x133_27, x133_30, x133_31, x133_33, x133_36, x133_37, x133_39, x133_42, x133_43, x133_46, x133_47, x133_48, x133_49, x133_50, x133_53, x133_56, x133_57, x133_60, x133_61, x133_64, x133_65, x133_68, x133_69, x133_70, x133_73, x133_74, x133_77, x133_80, x133_81, x133_84, x133_85, x133_86, x133_89, x133_90, x133_93, x133_94, x133_95, x133_96, x133_97, x133_99, isF, isK, isH, mK, nl_i, nl_n, nl_o, nl_r, c1_i, c1_r, mPush, mRv, G0_1, true_and, and_true, and_self, implies_true, List.length_nil, List.length_cons, Nat.reduceAdd, Nat.reduceLeDiff, Nat.zero_le, beq_self_eq_true, Nat.reduceBEq, decide_true, Bool.and_self, reduceCtorEq, ne_eq, not_true_eq_false, not_false_eq_true, false_implies, true_implies, Nat.reduceLT, Nat.reduceEqDiff, or_true, true_or, or_false, false_or, or_self, Int.reduceEq, Int.reduceNe, Int.reduceLT, Int.reduceLE, Int.reduceAdd, Int.reduceSub, Int.reduceMul, Int.reduceNeg, Int.reduceToNat, if_true, if_false, Classical.not_not, Int.cast_ofNat_Int, kd176, kd177, kd178, kd179, kd180, kd181, kd182, kd183, kd184, kd185, kd186, kd187, kd188, kd189, kd190, kd191, kd192, kd193, kd194, rf176_1, rf176_2, rf176_4, rf176_5, rf176_6, rf176_8, rf176_9, rf176_10, rf176_11, rf176_12, rf176_13, rf176_14, rf176_16, rf176_17, rf176_18, rf176_19, rf176_20, rf176_23, h24, mWr_of, e5, ct129 hL hP, hs2, a4, e21, ok1, mUp_eq, e6, e7, Int.toNat_natCast]
    exact h
  by_cases c5 : c = 45
  · have h := h1 (Or.inr (Or.inr (Or.inr (Or.inr c5)))) (some (.inl 1))
    rw [if_pos c5] at h
    subst c5
    unfold LM at h
    simp (disch := first | omega | exact rfl) only [x133_0, x133_1, x133_2, x133_5, x133_6, x133_7, x133_8, x133_11, x133_12, x133_13, x133_15, x133_18, x133_19, x133_21, x133_24, x133_25, x133_27, x133_30, x133_31, x133_33, x133_36, x133_37, x133_39, x133_42, x133_43, x133_46, x133_47, x133_48, x133_49, x133_50, x133_53, x133_56, x133_57, x133_60, x133_61, x133_64, x133_65, x133_68, x133_69, x133_70, x133_73, x133_74, x133_77, x133_80, x133_81, x133_84, x133_85, x133_86, x133_89, x133_90, x133_93, x133_94, x133_95, x133_96, x133_97, x133_99, isF, isK, isH, mK, nl_i, nl_n, nl_o, nl_r, c1_i, c1_r, mPush, mRv, G0_1, true_and, and_true, and_self, implies_true, List.length_nil, List.length_cons, Nat.reduceAdd, Nat.reduceLeDiff, Nat.zero_le, beq_self_eq_true, Nat.reduceBEq, decide_true, Bool.and_self, reduceCtorEq, ne_eq, not_true_eq_false, not_false_eq_true, false_implies, true_implies, Nat.reduceLT, Nat.reduceEqDiff, or_true, true_or, or_false, false_or, or_self, Int.reduceEq, Int.reduceNe, Int.reduceLT, Int.reduceLE, Int.reduceAdd, Int.reduceSub, Int.reduceMul, Int.reduceNeg, Int.reduceToNat, if_true, if_false, Classical.not_not, Int.cast_ofNat_Int, kd176, kd177, kd178, kd179, kd180, kd181, kd182, kd183, kd184, kd185, kd186, kd187, kd188, kd189, kd190, kd191, kd192, kd193, kd194, rf176_1, rf176_2, rf176_4, rf176_5, rf176_6, rf176_8, rf176_9, rf176_10, rf176_11, rf176_12, rf176_13, rf176_14, rf176_16, rf176_17, rf176_18, rf176_19, rf176_20, rf176_23, h24, mWr_of, e5, ct129 hL hP, hs2, a4, e21, ok1, mUp_eq, e6, e7, Int.toNat_natCast]
    exact h
  have h := h0 (fun z => z.elim c1 (fun z => z.elim c2 (fun z => z.elim c3 (fun z => z.elim c4 c5)))) (some (.inl 0))
  unfold LM at h
  simp (disch := first | omega | exact rfl) only [x133_0, x133_1, x133_2, x133_5, x133_6, x133_7, x133_8, x133_11, x133_12, x133_13, x133_15, x133_18, x133_19, x133_21, x133_24, x133_25, x133_27, x133_30, x133_31, x133_33, x133_36, x133_37, x133_39, x133_42, x133_43, x133_46, x133_47, x133_48, x133_49, x133_50, x133_53, x133_56, x133_57, x133_60, x133_61, x133_64, x133_65, x133_68, x133_69, x133_70, x133_73, x133_74, x133_77, x133_80, x133_81, x133_84, x133_85, x133_86, x133_89, x133_90, x133_93, x133_94, x133_95, x133_96, x133_97, x133_99, isF, isK, isH, mK, nl_i, nl_n, nl_o, nl_r, c1_i, c1_r, mPush, mRv, G0_1, true_and, and_true, and_self, implies_true, List.length_nil, List.length_cons, Nat.reduceAdd, Nat.reduceLeDiff, Nat.zero_le, beq_self_eq_true, Nat.reduceBEq, decide_true, Bool.and_self, reduceCtorEq, ne_eq, not_true_eq_false, not_false_eq_true, false_implies, true_implies, Nat.reduceLT, Nat.reduceEqDiff, or_true, true_or, or_false, false_or, or_self, Int.reduceEq, Int.reduceNe, Int.reduceLT, Int.reduceLE, Int.reduceAdd, Int.reduceSub, Int.reduceMul, Int.reduceNeg, Int.reduceToNat, if_true, if_false, Classical.not_not, Int.cast_ofNat_Int, kd176, kd177, kd178, kd179, kd180, kd181, kd182, kd183, kd184, kd185, kd186, kd187, kd188, kd189, kd190, kd191, kd192, kd193, kd194, rf176_1, rf176_2, rf176_4, rf176_5, rf176_6, rf176_8, rf176_9, rf176_10, rf176_11, rf176_12, rf176_13, rf176_14, rf176_16, rf176_17, rf176_18, rf176_19, rf176_20, rf176_23, h24, mWr_of, e5, ct129 hL hP, hs2, a4, e21, ok0, mUp_eq, e6, e7, Int.toNat_natCast, c1, c2, c3, c4, c5]
  exact h
theorem ct133 (hL : L ≤ 80) (hT : ∀ i, i < L → 33 ≤ T i ∧ T i ≤ 126) {μ0 : MU} {p K : Nat} (hp : p ≤ L) (hP : RDp μ0 T L (1, p)) (hK : K ≤ 40) (h24 : μ0 176 24 = K)
    (hQ : ∀ μ' : MU, RG μ0 μ' → RDp μ' T L (oS T L p) → μ' 176 24 = K + (oS T L p).1 → (∀ i, i < 5 * K → μ' 194 i = μ0 194 i) → ((oS T L p).1 = 1 → OT μ' T L K p) → Q none G0 μ') :
    Wp E 133 0 [some (.inr (.inr (.inl 176))), none, none, none] [] G0 μ0 Q := by
  have fin : ∀ μ' : MU, RX μ0 μ' → RDp μ' T L (oS T L p) → (∀ i, i < 5 * K → μ' 194 i = μ0 194 i) → ((oS T L p).1 = 1 → OT μ' T L K p) → Q none G0 (mUp μ' 176 24 (K + (oS T L p).1)) := by
    intro μ' k1 k2 k3 k4
    refine hQ _ ⟨fun x z1 z2 => by rw [mUp_ne z1]; exact k1.1 x z1 z2, fun i z1 z2 z3 => by rw [mUp_nj z3]; exact k1.2 i z1 z2⟩ ⟨by rw [mUp_nj (by omega)]; exact k2.1, fun i hi => by rw [mUp_ne (by omega)]; exact k2.2.1 i hi, by rw [mUp_nj (by omega)]; exact k2.2.2.1, by rw [mUp_nj (by omega)]; exact k2.2.2.2⟩ mUp_eq (fun i hi => by rw [mUp_ne (by omega)]; exact k3 i hi) (fun z => ?_)
    have := k4 z
    unfold OT at this ⊢
    rw [mUp_ne (by omega)]; exact this
  refine gRH hL hp hP hK h24 rfl (fun hl o3 => ?_) (fun hl o3 => ?_)
  · have hpL : p < L := by
      by_cases q : p < L
      · exact q
      · have e : sgn T L p = 0 := if_neg q
        rw [e] at hl
        rcases hl with z | z | z | z | z <;> omega
    have es : sgn T L p = T p := if_pos hpL
    rw [es] at hl
    rw [es]
    have eo : oS T L p = stl T L (mk_txt (shx (T p))) (1, p + 1) := if_pos ⟨hpL, hl⟩
    have ev : oV T L p = vls T L (mk_txt (shx (T p))) (p + 1) := rfl
    have hw0 : ((1 : Int), p + 1).1 = 0 ∨ ((1 : Int), p + 1).1 = 1 := Or.inr rfl
    have hp0 : ((1 : Int), p + 1).2 ≤ L := hpL
    have hX0 : RX μ0 (LM μ0 p K 1 (T p)) := LM_X
    have hP0 : RDp (LM μ0 p K 1 (T p)) T L (1, p + 1) := LM_P hP rfl (by show (p : Int) + 1 = ((p + 1 : Nat) : Int); omega)
    obtain ⟨hc0, hc1⟩ := LM_c (μ := μ0) (p := p) (K := K) (w := 1) (c := T p)
    generalize LM μ0 p K 1 (T p) = μa at *
    have B1 := fun c => stp_b (T := T) (L := L) (c := c) hp0 hw0
    have B2 := fun c d => stp_b (T := T) (L := L) (c := d) (B1 c).1.2 (B1 c).2
    have B3 := fun c d e => stp_b (T := T) (L := L) (c := e) (B2 c d).1.2 (B2 c d).2
    have B4 := fun c d e f => stp_b (T := T) (L := L) (c := f) (B3 c d e).1.2 (B3 c d e).2
    have B5 := fun c d e f g => stp_b (T := T) (L := L) (c := g) (B4 c d e f).1.2 (B4 c d e f).2
    have B6 := fun c d e f g h => stp_b (T := T) (L := L) (c := h) (B5 c d e f g).1.2 (B5 c d e f g).2
    rcases hl with z | z | z | z | z
    · have e0 : oS T L p = stp T L 110 (stp T L 37 (stp T L 100 (stp T L 64 (stp T L 100 (1, p + 1))))) := by rw [eo, z]; rfl
      have e1 : oV T L p = [pVl T L 100 (p + 1), pVl T L 100 (pNx T L 64 (pNx T L 100 (p + 1))), pVl T L 110 (pNx T L 37 (pNx T L 100 (pNx T L 64 (pNx T L 100 (p + 1)))))] := by rw [ev, z]; rfl
      rw [z] at hc0 ⊢
      rw [if_neg (by omega)]
      refine gRA hL hT hw0 hp0 hX0 hP0 hK (fun μ1 ⟨x1, y1, n1, v1⟩ => ?_)
      refine gW1 hL (B1 100).2 (B1 100).1.2 x1 y1 (d := 64) (by omega) (by decide) (fun μ2 ⟨x2, y2, n2⟩ => ?_)
      refine gRB hL hT (B2 100 64).2 (B2 100 64).1.2 x2 y2 hK (fun μ3 ⟨x3, y3, n3, v3⟩ => ?_)
      refine gW2 hL (B3 100 64 100).2 (B3 100 64 100).1.2 x3 y3 (d := 37) (by decide) (fun μ4 ⟨x4, y4, n4⟩ => ?_)
      refine gRC hL hT (B4 100 64 100 37).2 (B4 100 64 100 37).1.2 x4 y4 hK (fun μ5 ⟨x5, y5, n5, v5⟩ => ?_)
      simp (disch := first | omega | exact rfl) only [x133_204, x133_205, x133_207, isF, isK, isH, mK, nl_i, nl_n, nl_o, nl_r, c1_i, c1_r, mPush, mRv, G0_1, true_and, and_true, and_self, implies_true, List.length_nil, List.length_cons, Nat.reduceAdd, Nat.reduceLeDiff, Nat.zero_le, beq_self_eq_true, Nat.reduceBEq, decide_true, Bool.and_self, reduceCtorEq, ne_eq, not_true_eq_false, not_false_eq_true, false_implies, true_implies, Nat.reduceLT, Nat.reduceEqDiff, or_true, true_or, or_false, false_or, or_self, Int.reduceEq, Int.reduceNe, Int.reduceLT, Int.reduceLE, Int.reduceAdd, Int.reduceSub, Int.reduceMul, Int.reduceNeg, Int.reduceToNat, if_true, if_false, Classical.not_not, Int.cast_ofNat_Int]
      refine gRE (B5 100 64 100 37 110).2 x5 y5 hK h24 ?_
      rw [← e0] at y5 ⊢
      refine fin μ5 x5 y5 (fun i hi => by rw [n5 i (by omega), n4, n3 i (by omega), n2, n1 i (by omega), hc1 i (by omega)]) (fun w => ⟨by rw [n5 _ (by omega), n4, n3 _ (by omega), n2, n1 _ (by omega), hc0, z], fun j hj => ?_⟩)
      rw [e0] at w
      have w5 := stp_1 w
      have w4 := stp_1 w5.1
      have w3 := stp_1 w4.1
      have w2 := stp_1 w3.1
      have w1 := stp_1 w2.1
      rw [e1] at hj ⊢
      have hj3 : j = 0 ∨ j = 1 ∨ j = 2 := by simp only [List.length_cons, List.length_nil] at hj; omega
      rcases hj3 with q | q | q <;> subst q
      · show μ5 194 (5 * K + 1) = pVl T L 100 (p + 1)
        rw [n5 _ (by omega), n4, n3 _ (by omega), n2, v1 w2.1]
      · show μ5 194 (5 * K + 2) = pVl T L 100 (pNx T L 64 (pNx T L 100 (p + 1)))
        rw [n5 _ (by omega), n4, v3 w4.1, w2.2, w1.2]
      · show μ5 194 (5 * K + 3) = pVl T L 110 (pNx T L 37 (pNx T L 100 (pNx T L 64 (pNx T L 100 (p + 1)))))
        rw [v5 w, w4.2, w3.2, w2.2, w1.2]
    · have e0 : oS T L p = stp T L 110 (stp T L 42 (stp T L 110 (stp T L 58 (stp T L 100 (stp T L 64 (stp T L 100 (1, p + 1))))))) := by rw [eo, z]; rfl
      have e1 : oV T L p = [pVl T L 100 (p + 1), pVl T L 100 (pNx T L 64 (pNx T L 100 (p + 1))), pVl T L 110 (pNx T L 58 (pNx T L 100 (pNx T L 64 (pNx T L 100 (p + 1))))), pVl T L 110 (pNx T L 42 (pNx T L 110 (pNx T L 58 (pNx T L 100 (pNx T L 64 (pNx T L 100 (p + 1)))))))] := by rw [ev, z]; rfl
      rw [z] at hc0 ⊢
      rw [if_neg (by omega)]
      refine gRA hL hT hw0 hp0 hX0 hP0 hK (fun μ1 ⟨x1, y1, n1, v1⟩ => ?_)
      refine gW1 hL (B1 100).2 (B1 100).1.2 x1 y1 (d := 64) (by omega) (by decide) (fun μ2 ⟨x2, y2, n2⟩ => ?_)
      refine gRB hL hT (B2 100 64).2 (B2 100 64).1.2 x2 y2 hK (fun μ3 ⟨x3, y3, n3, v3⟩ => ?_)
      refine gW2 hL (B3 100 64 100).2 (B3 100 64 100).1.2 x3 y3 (d := 58) (by decide) (fun μ4 ⟨x4, y4, n4⟩ => ?_)
      refine gRC hL hT (B4 100 64 100 58).2 (B4 100 64 100 58).1.2 x4 y4 hK (fun μ5 ⟨x5, y5, n5, v5⟩ => ?_)
      refine gW3 hL (B5 100 64 100 58 110).2 (B5 100 64 100 58 110).1.2 x5 y5 (fun μ6 ⟨x6, y6, n6⟩ => ?_)
      refine gRF hL hT (B6 100 64 100 58 110 42).2 (B6 100 64 100 58 110 42).1.2 x6 y6 hK (fun μ7 ⟨x7, y7, n7, v7⟩ => ?_)
      have B7 := stp_b (T := T) (L := L) (c := 110) (B6 100 64 100 58 110 42).1.2 (B6 100 64 100 58 110 42).2
      refine gRE B7.2 x7 y7 hK h24 ?_
      rw [← e0] at y7 ⊢
      refine fin μ7 x7 y7 (fun i hi => by rw [n7 i (by omega), n6, n5 i (by omega), n4, n3 i (by omega), n2, n1 i (by omega), hc1 i (by omega)]) (fun w => ⟨by rw [n7 _ (by omega), n6, n5 _ (by omega), n4, n3 _ (by omega), n2, n1 _ (by omega), hc0, z], fun j hj => ?_⟩)
      rw [e0] at w
      have w7 := stp_1 w
      have w6 := stp_1 w7.1
      have w5 := stp_1 w6.1
      have w4 := stp_1 w5.1
      have w3 := stp_1 w4.1
      have w2 := stp_1 w3.1
      have w1 := stp_1 w2.1
      rw [e1] at hj ⊢
      have hj3 : j = 0 ∨ j = 1 ∨ j = 2 ∨ j = 3 := by simp only [List.length_cons, List.length_nil] at hj; omega
      rcases hj3 with q | q | q | q <;> subst q
      · show μ7 194 (5 * K + 1) = pVl T L 100 (p + 1)
        rw [n7 _ (by omega), n6, n5 _ (by omega), n4, n3 _ (by omega), n2, v1 w2.1]
      · show μ7 194 (5 * K + 2) = pVl T L 100 (pNx T L 64 (pNx T L 100 (p + 1)))
        rw [n7 _ (by omega), n6, n5 _ (by omega), n4, v3 w4.1, w2.2, w1.2]
      · show μ7 194 (5 * K + 3) = pVl T L 110 (pNx T L 58 (pNx T L 100 (pNx T L 64 (pNx T L 100 (p + 1)))))
        rw [n7 _ (by omega), n6, v5 w6.1, w4.2, w3.2, w2.2, w1.2]
      · show μ7 194 (5 * K + 4) = pVl T L 110 (pNx T L 42 (pNx T L 110 (pNx T L 58 (pNx T L 100 (pNx T L 64 (pNx T L 100 (p + 1)))))))
        rw [v7 w, w6.2, w5.2, w4.2, w3.2, w2.2, w1.2]
    · have e0 : oS T L p = stp T L 110 (stp T L 61 (stp T L 100 (stp T L 100 (1, p + 1)))) := by rw [eo, z]; rfl
      have e1 : oV T L p = [pVl T L 100 (p + 1), pVl T L 100 (pNx T L 100 (p + 1)), pVl T L 110 (pNx T L 61 (pNx T L 100 (pNx T L 100 (p + 1))))] := by rw [ev, z]; rfl
      rw [z] at hc0 ⊢
      rw [if_neg (by omega)]
      refine gRA hL hT hw0 hp0 hX0 hP0 hK (fun μ1 ⟨x1, y1, n1, v1⟩ => ?_)
      simp (disch := first | omega | exact rfl) only [x133_129, x133_130, x133_132, isF, isK, isH, mK, nl_i, nl_n, nl_o, nl_r, c1_i, c1_r, mPush, mRv, G0_1, true_and, and_true, and_self, implies_true, List.length_nil, List.length_cons, Nat.reduceAdd, Nat.reduceLeDiff, Nat.zero_le, beq_self_eq_true, Nat.reduceBEq, decide_true, Bool.and_self, reduceCtorEq, ne_eq, not_true_eq_false, not_false_eq_true, false_implies, true_implies, Nat.reduceLT, Nat.reduceEqDiff, or_true, true_or, or_false, false_or, or_self, Int.reduceEq, Int.reduceNe, Int.reduceLT, Int.reduceLE, Int.reduceAdd, Int.reduceSub, Int.reduceMul, Int.reduceNeg, Int.reduceToNat, if_true, if_false, Classical.not_not, Int.cast_ofNat_Int]
      refine gRB hL hT (B1 100).2 (B1 100).1.2 x1 y1 hK (fun μ3 ⟨x3, y3, n3, v3⟩ => ?_)
      refine gW2 hL (B2 100 100).2 (B2 100 100).1.2 x3 y3 (d := 61) (by decide) (fun μ4 ⟨x4, y4, n4⟩ => ?_)
      refine gRC hL hT (B3 100 100 61).2 (B3 100 100 61).1.2 x4 y4 hK (fun μ5 ⟨x5, y5, n5, v5⟩ => ?_)
      simp (disch := first | omega | exact rfl) only [x133_204, x133_205, x133_207, isF, isK, isH, mK, nl_i, nl_n, nl_o, nl_r, c1_i, c1_r, mPush, mRv, G0_1, true_and, and_true, and_self, implies_true, List.length_nil, List.length_cons, Nat.reduceAdd, Nat.reduceLeDiff, Nat.zero_le, beq_self_eq_true, Nat.reduceBEq, decide_true, Bool.and_self, reduceCtorEq, ne_eq, not_true_eq_false, not_false_eq_true, false_implies, true_implies, Nat.reduceLT, Nat.reduceEqDiff, or_true, true_or, or_false, false_or, or_self, Int.reduceEq, Int.reduceNe, Int.reduceLT, Int.reduceLE, Int.reduceAdd, Int.reduceSub, Int.reduceMul, Int.reduceNeg, Int.reduceToNat, if_true, if_false, Classical.not_not, Int.cast_ofNat_Int]
      refine gRE (B4 100 100 61 110).2 x5 y5 hK h24 ?_
      rw [← e0] at y5 ⊢
      refine fin μ5 x5 y5 (fun i hi => by rw [n5 i (by omega), n4, n3 i (by omega), n1 i (by omega), hc1 i (by omega)]) (fun w => ⟨by rw [n5 _ (by omega), n4, n3 _ (by omega), n1 _ (by omega), hc0, z], fun j hj => ?_⟩)
      rw [e0] at w
      have w5 := stp_1 w
      have w4 := stp_1 w5.1
      have w3 := stp_1 w4.1
      have w1 := stp_1 w3.1
      rw [e1] at hj ⊢
      have hj3 : j = 0 ∨ j = 1 ∨ j = 2 := by simp only [List.length_cons, List.length_nil] at hj; omega
      rcases hj3 with q | q | q <;> subst q
      · show μ5 194 (5 * K + 1) = pVl T L 100 (p + 1)
        rw [n5 _ (by omega), n4, n3 _ (by omega), v1 w3.1]
      · show μ5 194 (5 * K + 2) = pVl T L 100 (pNx T L 100 (p + 1))
        rw [n5 _ (by omega), n4, v3 w4.1, w1.2]
      · show μ5 194 (5 * K + 3) = pVl T L 110 (pNx T L 61 (pNx T L 100 (pNx T L 100 (p + 1))))
        rw [v5 w, w4.2, w3.2, w1.2]
    · have e0 : oS T L p = stp T L 110 (stp T L 58 (stp T L 100 (stp T L 47 (stp T L 100 (1, p + 1))))) := by rw [eo, z]; rfl
      have e1 : oV T L p = [pVl T L 100 (p + 1), pVl T L 100 (pNx T L 47 (pNx T L 100 (p + 1))), pVl T L 110 (pNx T L 58 (pNx T L 100 (pNx T L 47 (pNx T L 100 (p + 1)))))] := by rw [ev, z]; rfl
      rw [z] at hc0 ⊢
      rw [if_neg (by omega)]
      refine gRA hL hT hw0 hp0 hX0 hP0 hK (fun μ1 ⟨x1, y1, n1, v1⟩ => ?_)
      refine gW1 hL (B1 100).2 (B1 100).1.2 x1 y1 (d := 47) (by omega) (by decide) (fun μ2 ⟨x2, y2, n2⟩ => ?_)
      refine gRB hL hT (B2 100 47).2 (B2 100 47).1.2 x2 y2 hK (fun μ3 ⟨x3, y3, n3, v3⟩ => ?_)
      refine gW2 hL (B3 100 47 100).2 (B3 100 47 100).1.2 x3 y3 (d := 58) (by decide) (fun μ4 ⟨x4, y4, n4⟩ => ?_)
      refine gRC hL hT (B4 100 47 100 58).2 (B4 100 47 100 58).1.2 x4 y4 hK (fun μ5 ⟨x5, y5, n5, v5⟩ => ?_)
      simp (disch := first | omega | exact rfl) only [x133_204, x133_205, x133_207, isF, isK, isH, mK, nl_i, nl_n, nl_o, nl_r, c1_i, c1_r, mPush, mRv, G0_1, true_and, and_true, and_self, implies_true, List.length_nil, List.length_cons, Nat.reduceAdd, Nat.reduceLeDiff, Nat.zero_le, beq_self_eq_true, Nat.reduceBEq, decide_true, Bool.and_self, reduceCtorEq, ne_eq, not_true_eq_false, not_false_eq_true, false_implies, true_implies, Nat.reduceLT, Nat.reduceEqDiff, or_true, true_or, or_false, false_or, or_self, Int.reduceEq, Int.reduceNe, Int.reduceLT, Int.reduceLE, Int.reduceAdd, Int.reduceSub, Int.reduceMul, Int.reduceNeg, Int.reduceToNat, if_true, if_false, Classical.not_not, Int.cast_ofNat_Int]
      refine gRE (B5 100 47 100 58 110).2 x5 y5 hK h24 ?_
      rw [← e0] at y5 ⊢
      refine fin μ5 x5 y5 (fun i hi => by rw [n5 i (by omega), n4, n3 i (by omega), n2, n1 i (by omega), hc1 i (by omega)]) (fun w => ⟨by rw [n5 _ (by omega), n4, n3 _ (by omega), n2, n1 _ (by omega), hc0, z], fun j hj => ?_⟩)
      rw [e0] at w
      have w5 := stp_1 w
      have w4 := stp_1 w5.1
      have w3 := stp_1 w4.1
      have w2 := stp_1 w3.1
      have w1 := stp_1 w2.1
      rw [e1] at hj ⊢
      have hj3 : j = 0 ∨ j = 1 ∨ j = 2 := by simp only [List.length_cons, List.length_nil] at hj; omega
      rcases hj3 with q | q | q <;> subst q
      · show μ5 194 (5 * K + 1) = pVl T L 100 (p + 1)
        rw [n5 _ (by omega), n4, n3 _ (by omega), n2, v1 w2.1]
      · show μ5 194 (5 * K + 2) = pVl T L 100 (pNx T L 47 (pNx T L 100 (p + 1)))
        rw [n5 _ (by omega), n4, v3 w4.1, w2.2, w1.2]
      · show μ5 194 (5 * K + 3) = pVl T L 110 (pNx T L 58 (pNx T L 100 (pNx T L 47 (pNx T L 100 (p + 1)))))
        rw [v5 w, w4.2, w3.2, w2.2, w1.2]
    · have e0 : oS T L p = stp T L 110 (1, p + 1) := by rw [eo, z]; rfl
      have e1 : oV T L p = [pVl T L 110 (p + 1)] := by rw [ev, z]; rfl
      rw [z] at hc0 ⊢
      rw [if_pos rfl]
      refine gRD hL hT hw0 hp0 hX0 hP0 hK (fun μ1 ⟨x1, y1, n1, v1⟩ => ?_)
      simp (disch := first | omega | exact rfl) only [x133_204, x133_205, x133_207, isF, isK, isH, mK, nl_i, nl_n, nl_o, nl_r, c1_i, c1_r, mPush, mRv, G0_1, true_and, and_true, and_self, implies_true, List.length_nil, List.length_cons, Nat.reduceAdd, Nat.reduceLeDiff, Nat.zero_le, beq_self_eq_true, Nat.reduceBEq, decide_true, Bool.and_self, reduceCtorEq, ne_eq, not_true_eq_false, not_false_eq_true, false_implies, true_implies, Nat.reduceLT, Nat.reduceEqDiff, or_true, true_or, or_false, false_or, or_self, Int.reduceEq, Int.reduceNe, Int.reduceLT, Int.reduceLE, Int.reduceAdd, Int.reduceSub, Int.reduceMul, Int.reduceNeg, Int.reduceToNat, if_true, if_false, Classical.not_not, Int.cast_ofNat_Int]
      refine gRE (B1 110).2 x1 y1 hK h24 ?_
      rw [← e0] at y1 ⊢
      refine fin μ1 x1 y1 (fun i hi => by rw [n1 i (by omega), hc1 i (by omega)]) (fun w => ⟨by rw [n1 _ (by omega), hc0, z], fun j hj => ?_⟩)
      rw [e0] at w
      rw [e1] at hj ⊢
      have hj3 : j = 0 := by simp only [List.length_cons, List.length_nil] at hj; omega
      subst hj3
      show μ1 194 (5 * K + 1) = pVl T L 110 (p + 1)
      exact v1 w
  · have eo : oS T L p = (0, p) := by
      unfold oS
      refine if_neg (fun z => hl ?_)
      have es : sgn T L p = T p := if_pos z.1
      rw [es]; exact z.2
    have hw0 : ((0 : Int), p).1 = 0 ∨ ((0 : Int), p).1 = 1 := Or.inl rfl
    have hp0 : ((0 : Int), p).2 ≤ L := hp
    have hX0 : RX μ0 (LM μ0 p K 0 (sgn T L p)) := LM_X
    have hP0 : RDp (LM μ0 p K 0 (sgn T L p)) T L (0, p) := LM_P hP rfl (by show (p : Int) + 0 = (p : Int); omega)
    obtain ⟨hc0, hc1⟩ := LM_c (μ := μ0) (p := p) (K := K) (w := 0) (c := sgn T L p)
    generalize LM μ0 p K 0 (sgn T L p) = μa at *
    generalize sgn T L p = c at *
    have c1 : ¬ c = 119 := fun z => hl (Or.inr (Or.inr (Or.inl z)))
    have c2 : ¬ c = 116 := fun z => hl (Or.inr (Or.inr (Or.inr (Or.inl z))))
    have c3 : ¬ c = 102 := fun z => hl (Or.inl z)
    have c4 : ¬ c = 115 := fun z => hl (Or.inr (Or.inl z))
    refine gRA hL hT hw0 hp0 hX0 hP0 hK (fun μ1 ⟨x1, y1, n1, v1⟩ => ?_)
    rw [stp_0] at y1
    refine gW1 hL hw0 hp0 x1 y1 (d := 64) c1 (by rw [if_neg c2]) (fun μ2 ⟨x2, y2, n2⟩ => ?_)
    rw [stp_0] at y2
    refine gRB hL hT hw0 hp0 x2 y2 hK (fun μ3 ⟨x3, y3, n3, v3⟩ => ?_)
    rw [stp_0] at y3
    refine gW2 hL hw0 hp0 x3 y3 (d := 58) (by rw [if_neg c3, if_neg c1]) (fun μ4 ⟨x4, y4, n4⟩ => ?_)
    rw [stp_0] at y4
    refine gRC hL hT hw0 hp0 x4 y4 hK (fun μ5 ⟨x5, y5, n5, v5⟩ => ?_)
    rw [stp_0] at y5
    simp (disch := first | omega | exact rfl) only [x133_204, x133_205, x133_207, isF, isK, isH, mK, nl_i, nl_n, nl_o, nl_r, c1_i, c1_r, mPush, mRv, G0_1, true_and, and_true, and_self, implies_true, List.length_nil, List.length_cons, Nat.reduceAdd, Nat.reduceLeDiff, Nat.zero_le, beq_self_eq_true, Nat.reduceBEq, decide_true, Bool.and_self, reduceCtorEq, ne_eq, not_true_eq_false, not_false_eq_true, false_implies, true_implies, Nat.reduceLT, Nat.reduceEqDiff, or_true, true_or, or_false, false_or, or_self, Int.reduceEq, Int.reduceNe, Int.reduceLT, Int.reduceLE, Int.reduceAdd, Int.reduceSub, Int.reduceMul, Int.reduceNeg, Int.reduceToNat, if_true, if_false, Classical.not_not, Int.cast_ofNat_Int, c4]
    refine gRE hw0 x5 y5 hK h24 ?_
    rw [← eo] at y5 ⊢
    refine fin μ5 x5 y5 (fun i hi => by rw [n5 i (by omega), n4, n3 i (by omega), n2, n1 i (by omega), hc1 i (by omega)]) (fun w => ?_)
    rw [eo] at w
    exact absurd (show (0 : Int) = 1 from w) (by omega)
end RDO2
