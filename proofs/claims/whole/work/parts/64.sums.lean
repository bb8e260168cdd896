section SUMS
variable {E : ME} {Q : Option MV → MG → MU → Prop} {S : Row}
def MZ (μ : MU) (S : Row) (N : Nat) : Prop := RS μ S ∧ (∀ k, k < N → μ 182 k = ord (sT S) N k) ∧ (∀ f : Nat, (f : Int) < S 5 → RM μ f (fSt S (ord (sT S) N) f N)) ∧ ∀ j, j < N → RZ μ S (ord (sT S) N) j
theorem ct89 {μ : MU} {z : Int} (hS : RS (mUp μ 176 15 z) S) (hw : wfR S) {N : Nat} (hN : S 6 = N) (hQ : ∀ μ' : MU, (∀ x, ¬ x = 176 → ¬ (182 ≤ x ∧ x ≤ 191) → μ' x = μ x) → (∀ i, ¬ i = 15 → μ' 176 i = μ 176 i) → μ' 176 15 = z → MZ μ' S N → Q none G0 μ') :
    Wp E 89 0 [some (.inr (.inr (.inl 176))), some (.inl z), none, none] [] G0 μ Q := by
  have hF2 := hw.1.2.2.2.2.2.1
  obtain ⟨F, hF⟩ := Int.eq_ofNat_of_zero_le hF2.1
  simp (disch := first | omega | exact rfl) only [x89_0, x89_1, x89_2, x89_5, x89_6, isF, isK, isH, mK, nl_i, nl_n, nl_o, nl_r, c1_i, c1_r, mPush, mRv, G0_1, true_and, and_true, and_self, implies_true, List.length_nil, List.length_cons, Nat.reduceAdd, Nat.reduceLeDiff, Nat.zero_le, beq_self_eq_true, Nat.reduceBEq, decide_true, Bool.and_self, reduceCtorEq, ne_eq, not_true_eq_false, not_false_eq_true, false_implies, true_implies, Nat.reduceLT, Nat.reduceEqDiff, or_true, true_or, or_false, false_or, or_self, Int.reduceEq, Int.reduceNe, Int.reduceLT, Int.reduceLE, Int.reduceAdd, Int.reduceSub, Int.reduceMul, Int.reduceNeg, Int.reduceToNat, if_true, if_false, Classical.not_not, Int.cast_ofNat_Int, kd176, kd177, kd178, kd179, kd180, kd181, kd182, kd183, kd184, kd185, kd186, kd187, kd188, kd189, kd190, kd191, kd192, kd193, kd194, rf176_1, rf176_2, rf176_4, rf176_5, rf176_6, rf176_8, rf176_9, rf176_10, rf176_11, rf176_12, rf176_13, rf176_14, rf176_16, rf176_17, rf176_18, rf176_19, rf176_20, rf176_23]
  refine zq89b hS hF (by omega) (fun μ1 o3 n3 k1 => ?_) F 0 (by omega) _ _ rfl ⟨fun _ _ => rfl, fun g hg => by omega⟩
  simp (disch := first | omega | exact rfl) only [x89_85, x89_86, isF, isK, isH, mK, nl_i, nl_n, nl_o, nl_r, c1_i, c1_r, mPush, mRv, G0_1, true_and, and_true, and_self, implies_true, List.length_nil, List.length_cons, Nat.reduceAdd, Nat.reduceLeDiff, Nat.zero_le, beq_self_eq_true, Nat.reduceBEq, decide_true, Bool.and_self, reduceCtorEq, ne_eq, not_true_eq_false, not_false_eq_true, false_implies, true_implies, Nat.reduceLT, Nat.reduceEqDiff, or_true, true_or, or_false, false_or, or_self, Int.reduceEq, Int.reduceNe, Int.reduceLT, Int.reduceLE, Int.reduceAdd, Int.reduceSub, Int.reduceMul, Int.reduceNeg, Int.reduceToNat, if_true, if_false, Classical.not_not, Int.cast_ofNat_Int, n3]
  have hS1 : RS μ1 S := RS_fr hS (k1.1 177 (by omega)) (by rw [k1.1 176 (by omega)])
  refine zq89c hS1 hw hN (fun μ2 k2 => ?_) N 0 (by omega) _ ⟨fun _ _ => rfl, fun s hs => by omega⟩
  simp (disch := first | omega | exact rfl) only [x89_115, x89_116, isF, isK, isH, mK, nl_i, nl_n, nl_o, nl_r, c1_i, c1_r, mPush, mRv, G0_1, true_and, and_true, and_self, implies_true, List.length_nil, List.length_cons, Nat.reduceAdd, Nat.reduceLeDiff, Nat.zero_le, beq_self_eq_true, Nat.reduceBEq, decide_true, Bool.and_self, reduceCtorEq, ne_eq, not_true_eq_false, not_false_eq_true, false_implies, true_implies, Nat.reduceLT, Nat.reduceEqDiff, or_true, true_or, or_false, false_or, or_self, Int.reduceEq, Int.reduceNe, Int.reduceLT, Int.reduceLE, Int.reduceAdd, Int.reduceSub, Int.reduceMul, Int.reduceNeg, Int.reduceToNat, if_true, if_false, Classical.not_not, Int.cast_ofNat_Int, n3]
  have hS2 : RS μ2 S := RS_fr hS1 (k2.1 177 (by omega)) (by rw [k2.1 176 (by omega)])
  have hO := isO_ord (T := sT S) N
  have ho : ∀ k, k < N → μ2 182 k = ord (sT S) N k := by
    intro k hk
    have z1 := hO.1 k hk
    have z2 := k2.2 _ z1.1
    rw [z1.2] at z2; exact z2
  refine zq89d hS2 hw hN hO ho (fun μ3 k3 => ?_) N 0 (by omega) _ ⟨fun _ _ => rfl, fun f hf => ?_, fun j hj => by omega⟩
  · refine hQ μ3 ?_ ?_ ?_ ⟨?_, ?_, k3.2.1, k3.2.2⟩
    · intro x hx hx2
      rw [k3.1 x (by omega), k2.1 x (by omega), k1.1 x (by omega), mUp_ne hx]
    · intro i hi
      rw [k3.1 176 (by omega), k2.1 176 (by omega), k1.1 176 (by omega), mUp_nj hi]
    · rw [k3.1 176 (by omega), k2.1 176 (by omega), k1.1 176 (by omega), mUp_eq]
    · exact RS_fr hS2 (k3.1 177 (by omega)) (by rw [k3.1 176 (by omega)])
    · intro k hk
      rw [k3.1 182 (by omega)]; exact ho k hk
  · obtain ⟨z1, z2⟩ := k1.2 f (by omega)
    refine ⟨fun r hr => ?_, ?_⟩
    · rw [k2.1 189 (by omega), k2.1 190 (by omega), k2.1 191 (by omega)]; exact z1 r hr
    · rw [k2.1 188 (by omega)]; exact z2
def onK (v : Int) : Nat → Int
  | 0 => 0
  | k + 1 => mWr (onK v k + mIand (mIshr v k) 1)
/-- how many reels are in a set of them -/
def on (v : Int) : Int := onK v 6
theorem on_b : ∀ m : Fin 64, 0 ≤ on (m : Nat) ∧ on (m : Nat) ≤ 6 := by decide +kernel
theorem on_bd {v : Int} (h : 0 ≤ v ∧ v < 64) : 0 ≤ on v ∧ on v ≤ 6 := by
  obtain ⟨m, hm⟩ := Int.eq_ofNat_of_zero_le h.1
  subst hm
  exact on_b ⟨m, by omega⟩
theorem ct90 {g : MG} {μ : MU} {v : Int} : Wp E 90 0 [some (.inl v), none, none] [] g μ Q = Q (some (.inl (on v))) g μ := by
  simp (disch := first | omega | exact rfl) only [x90_0, x90_1, x90_2, x90_3, x90_4, x90_5, x90_7, x90_10, x90_11, x90_12, x90_13, x90_14, x90_15, x90_16, x90_17, x90_18, x90_24, x90_25, isF, isK, isH, mK, nl_i, nl_n, nl_o, nl_r, c1_i, c1_r, mPush, mRv, G0_1, true_and, and_true, and_self, implies_true, List.length_nil, List.length_cons, Nat.reduceAdd, Nat.reduceLeDiff, Nat.zero_le, beq_self_eq_true, Nat.reduceBEq, decide_true, Bool.and_self, reduceCtorEq, ne_eq, not_true_eq_false, not_false_eq_true, false_implies, true_implies, Nat.reduceLT, Nat.reduceEqDiff, or_true, true_or, or_false, false_or, or_self, Int.reduceEq, Int.reduceNe, Int.reduceLT, Int.reduceLE, Int.reduceAdd, Int.reduceSub, Int.reduceMul, Int.reduceNeg, Int.reduceToNat, if_true, if_false, Classical.not_not, Int.cast_ofNat_Int, mWr_of]
  iterate 6 (rw [x90_21]; simp (disch := first | omega | exact rfl) only [x90_0, x90_1, x90_2, x90_3, x90_4, x90_5, x90_7, x90_10, x90_11, x90_12, x90_13, x90_14, x90_15, x90_16, x90_17, x90_18, x90_24, x90_25, isF, isK, isH, mK, nl_i, nl_n, nl_o, nl_r, c1_i, c1_r, mPush, mRv, G0_1, true_and, and_true, and_self, implies_true, List.length_nil, List.length_cons, Nat.reduceAdd, Nat.reduceLeDiff, Nat.zero_le, beq_self_eq_true, Nat.reduceBEq, decide_true, Bool.and_self, reduceCtorEq, ne_eq, not_true_eq_false, not_false_eq_true, false_implies, true_implies, Nat.reduceLT, Nat.reduceEqDiff, or_true, true_or, or_false, false_or, or_self, Int.reduceEq, Int.reduceNe, Int.reduceLT, Int.reduceLE, Int.reduceAdd, Int.reduceSub, Int.reduceMul, Int.reduceNeg, Int.reduceToNat, if_true, if_false, Classical.not_not, Int.cast_ofNat_Int, mWr_of])
  rfl
def bc1 (m : Int) : Int := mWr (m - mIand (mIushr m 1) 1431655765)
def bc2 (m : Int) : Int := mWr (mIand m 858993459 + mIand (mIushr m 2) 858993459)
def bc3 (m : Int) : Int := mIand (mWr (m + mIushr m 4)) 252645135
def bc4 (m : Int) : Int := mWr (m + mIushr m 8)
def bc5 (m : Int) : Int := mWr (m + mIushr m 16)
def bc (m : Int) : Int := mIand (bc5 (bc4 (bc3 (bc2 (bc1 m))))) 63
theorem bc_on : ∀ m : Fin 64, bc (m : Nat) = on (m : Nat) := by decide +kernel
theorem on_p : ∀ n : Fin 7, ∀ m : Fin 64, (m : Nat) < 2 ^ (n : Nat) → on (m : Nat) ≤ (n : Nat) := by decide +kernel
theorem on_pd {v : Int} {n : Nat} (hn : n < 7) (h : 0 ≤ v ∧ v < 2 ^ n) : (0 ≤ v ∧ v < 64) ∧ 0 ≤ on v ∧ on v ≤ n := by
  obtain ⟨m, hm⟩ := Int.eq_ofNat_of_zero_le h.1
  subst hm
  have h2 : m < 2 ^ n := by have := h.2; exact_mod_cast this
  have h3 : 2 ^ n ≤ 2 ^ 6 := Nat.pow_le_pow_right (by omega) (by omega)
  have h4 := on_b ⟨m, by omega⟩
  exact ⟨by omega, h4.1, on_p ⟨n, hn⟩ ⟨m, by omega⟩ h2⟩
theorem ct142 {g : MG} {μ : MU} {v : Int} (h : 0 ≤ v ∧ v < 64) : Wp E 142 0 [some (.inl v)] [] g μ Q = Q (some (.inl (on v))) g μ := by
  obtain ⟨m, hm⟩ := Int.eq_ofNat_of_zero_le h.1
  subst hm
  simp (disch := first | omega | exact rfl) only [x142_0, x142_1, x142_2, x142_3, x142_4, x142_7, x142_8, x142_9, x142_10, x142_11, x142_14, x142_15, x142_16, x142_17, x142_18, x142_21, x142_22, x142_23, x142_24, x142_25, x142_26, x142_27, x142_28, x142_29, x142_32, x142_33, x142_34, x142_35, x142_36, x142_38, x142_39, x142_40, x142_41, x142_42, x142_43, x142_45, x142_46, x142_47, x142_48, x142_49, x142_51, x142_52, isF, isK, isH, mK, nl_i, nl_n, nl_o, nl_r, c1_i, c1_r, mPush, mRv, G0_1, true_and, and_true, and_self, implies_true, List.length_nil, List.length_cons, Nat.reduceAdd, Nat.reduceLeDiff, Nat.zero_le, beq_self_eq_true, Nat.reduceBEq, decide_true, Bool.and_self, reduceCtorEq, ne_eq, not_true_eq_false, not_false_eq_true, false_implies, true_implies, Nat.reduceLT, Nat.reduceEqDiff, or_true, true_or, or_false, false_or, or_self, Int.reduceEq, Int.reduceNe, Int.reduceLT, Int.reduceLE, Int.reduceAdd, Int.reduceSub, Int.reduceMul, Int.reduceNeg, Int.reduceToNat, if_true, if_false, Classical.not_not, Int.cast_ofNat_Int]
  show Q (some (.inl (bc (m : Int)))) g μ = _
  rw [show bc ((m : Nat) : Int) = on (m : Nat) from bc_on ⟨m, by omega⟩]
def fmF (S : Row) (k : Nat) : Nat := (S (68 + 4 * k)).toNat
def tkn (S : Row) (k : Nat) : Int := S (71 + 4 * k) * S 4
def gbk (S : Row) (k : Nat) (v : Int) : Int := (tkn S k * on v).tdiv (S (23 + 9 * fmF S k))
def kpt (S : Row) (k : Nat) (v : Int) : Int := tkn S k - gbk S k v
def rnt (S : Row) (k : Nat) (v : Int) : Int := (kpt S k v * S (25 + 9 * fmF S k)).tdiv 100
/-- v is a set of reels of the film of the show k -/
def okM (S : Row) (k : Nat) (v : Int) : Prop := 0 ≤ v ∧ v < 2 ^ (S (23 + 9 * fmF S k)).toNat
theorem nb_tk (hw : wfR S) {k : Nat} (hk : k < 21) (hk2 : (k : Int) < S 6) : 0 ≤ tkn S k ∧ tkn S k ≤ 98901 := by
  have h1 := (hw.2.2.2 k hk hk2).2.2.2
  have h2 := hw.1.2.2.2.2.1
  exact ⟨Int.mul_nonneg h1.1 h2.1, Int.mul_le_mul (c := 999) (d := 99) h1.2 h2.2 h2.1 (by omega)⟩
theorem fmF_lt (hw : wfR S) {k : Nat} (hk : k < 21) (hk2 : (k : Int) < S 6) : fmF S k < 5 ∧ (fmF S k : Int) < S 5 ∧ S (68 + 4 * k) = fmF S k := by
  have h1 := (hw.2.2.2 k hk hk2).1
  have h2 := hw.1.2.2.2.2.2.1
  unfold fmF
  omega
theorem nb_gb (hw : wfR S) {k : Nat} {v : Int} (hk : k < 21) (hk2 : (k : Int) < S 6) (hv : okM S k v) : (0 ≤ tkn S k * on v ∧ tkn S k * on v ≤ 593406) ∧ 0 ≤ gbk S k v ∧ gbk S k v ≤ tkn S k := by
  have h1 := nb_tk hw hk hk2
  obtain ⟨f1, f2, f3⟩ := fmF_lt hw hk hk2
  have h2 := (hw.2.2.1 _ f1 f2).1
  obtain ⟨_, h3, h4⟩ := on_pd (by omega) hv
  have a1 : 0 ≤ tkn S k * on v := Int.mul_nonneg h1.1 h3
  have a2 : tkn S k * on v ≤ 98901 * 6 := Int.mul_le_mul h1.2 (by omega) h3 (by omega)
  have a3 : tkn S k * on v ≤ tkn S k * S (23 + 9 * fmF S k) := Int.mul_le_mul_of_nonneg_left (by omega) h1.1
  refine ⟨⟨a1, a2⟩, ?_⟩
  unfold gbk
  rw [Int.tdiv_eq_ediv_of_nonneg a1]
  exact ⟨Int.ediv_nonneg a1 (by omega), Int.ediv_le_of_le_mul (by omega) a3⟩
theorem nb_rn (hw : wfR S) {k : Nat} {v : Int} (hk : k < 21) (hk2 : (k : Int) < S 6) (hv : okM S k v) : (0 ≤ kpt S k v ∧ kpt S k v ≤ 98901) ∧ (0 ≤ kpt S k v * S (25 + 9 * fmF S k) ∧ kpt S k v * S (25 + 9 * fmF S k) ≤ 9890100) ∧ 0 ≤ rnt S k v ∧ rnt S k v ≤ 98901 := by
  have h1 := nb_tk hw hk hk2
  have h2 := (nb_gb hw hk hk2 hv).2
  obtain ⟨f1, f2, f3⟩ := fmF_lt hw hk hk2
  have h3 := (hw.2.2.1 _ f1 f2).2.2.1
  have a0 : 0 ≤ kpt S k v ∧ kpt S k v ≤ 98901 := by unfold kpt; omega
  have a1 : 0 ≤ kpt S k v * S (25 + 9 * fmF S k) := Int.mul_nonneg a0.1 h3.1
  have a2 : kpt S k v * S (25 + 9 * fmF S k) ≤ 98901 * 100 := Int.mul_le_mul a0.2 h3.2 h3.1 (by omega)
  refine ⟨a0, ⟨a1, a2⟩, ?_⟩
  unfold rnt
  rw [Int.tdiv_eq_ediv_of_nonneg a1]
  omega
theorem mw_tk (hw : wfR S) {k : Nat} (hk : k < 21) (hk2 : (k : Int) < S 6) : mWr (S (71 + 4 * k) * S 4) = tkn S k := by
  have := nb_tk hw hk hk2
  exact mWr_of (by unfold tkn at this; omega) (by unfold tkn at this; omega)
theorem mw_on (hw : wfR S) {k : Nat} {v : Int} (hk : k < 21) (hk2 : (k : Int) < S 6) (hv : okM S k v) : mWr (tkn S k * on v) = tkn S k * on v := by
  have := (nb_gb hw hk hk2 hv).1
  exact mWr_of (by omega) (by omega)
theorem mw_gb (hw : wfR S) {k : Nat} {v : Int} (hk : k < 21) (hk2 : (k : Int) < S 6) (hv : okM S k v) : mWr ((tkn S k * on v).tdiv (S (23 + 9 * fmF S k))) = gbk S k v := by
  have h1 := (nb_gb hw hk hk2 hv).2
  have h2 := nb_tk hw hk hk2
  exact mWr_of (by unfold gbk at h1; omega) (by unfold gbk at h1; omega)
theorem mw_kp (hw : wfR S) {k : Nat} {v : Int} (hk : k < 21) (hk2 : (k : Int) < S 6) (hv : okM S k v) : mWr (tkn S k - gbk S k v) = kpt S k v := by
  have h1 := (nb_rn hw hk hk2 hv).1
  exact mWr_of (by unfold kpt at h1; omega) (by unfold kpt at h1; omega)
theorem mw_kr (hw : wfR S) {k : Nat} {v : Int} (hk : k < 21) (hk2 : (k : Int) < S 6) (hv : okM S k v) : mWr (kpt S k v * S (25 + 9 * fmF S k)) = kpt S k v * S (25 + 9 * fmF S k) := by
  have h1 := (nb_rn hw hk hk2 hv).2.1
  exact mWr_of (by omega) (by omega)
theorem mw_rn (hw : wfR S) {k : Nat} {v : Int} (hk : k < 21) (hk2 : (k : Int) < S 6) (hv : okM S k v) : mWr ((kpt S k v * S (25 + 9 * fmF S k)).tdiv 100) = rnt S k v := by
  have h1 := (nb_rn hw hk hk2 hv).2.2
  exact mWr_of (by unfold rnt at h1; omega) (by unfold rnt at h1; omega)
theorem ct91 {μ : MU} (hS : RS μ S) (hw : wfR S) {k : Nat} (hk : k < 21) (hk2 : (k : Int) < S 6) : Wp E 91 0 [some (.inr (.inr (.inl 176))), some (.inl k)] [] G0 μ Q = Q (some (.inl (tkn S k))) G0 μ := by
  have e1 : μ 177 (68 + 4 * k + 3) = S (71 + 4 * k) := by rw [hS.1 _ (by omega)]; congr 1; omega
  have e2 : μ 177 4 = S 4 := hS.1 4 (by omega)
  have ek : (0 : Int) ≤ k := by omega
  have ek2 : (k : Int) < 21 := by omega
  simp (disch := first | omega | exact rfl) only [x91_0, x91_1, x91_2, x91_3, x91_6, x91_7, x91_10, x91_11, x91_12, x91_13, isF, isK, isH, mK, nl_i, nl_n, nl_o, nl_r, c1_i, c1_r, mPush, mRv, G0_1, true_and, and_true, and_self, implies_true, List.length_nil, List.length_cons, Nat.reduceAdd, Nat.reduceLeDiff, Nat.zero_le, beq_self_eq_true, Nat.reduceBEq, decide_true, Bool.and_self, reduceCtorEq, ne_eq, not_true_eq_false, not_false_eq_true, false_implies, true_implies, Nat.reduceLT, Nat.reduceEqDiff, or_true, true_or, or_false, false_or, or_self, Int.reduceEq, Int.reduceNe, Int.reduceLT, Int.reduceLE, Int.reduceAdd, Int.reduceSub, Int.reduceMul, Int.reduceNeg, Int.reduceToNat, if_true, if_false, Classical.not_not, Int.cast_ofNat_Int, kd176, kd177, kd178, kd179, kd180, kd181, kd182, kd183, kd184, kd185, kd186, kd187, kd188, kd189, kd190, kd191, kd192, kd193, kd194, rf176_1, rf176_2, rf176_4, rf176_5, rf176_6, rf176_8, rf176_9, rf176_10, rf176_11, rf176_12, rf176_13, rf176_14, rf176_16, rf176_17, rf176_18, rf176_19, rf176_20, rf176_23, Int.toNat_natCast, ct79, e1, e2, ek, ek2, mw_tk hw hk hk2]
theorem ct92 {μ : MU} (hS : RS μ S) (hw : wfR S) {k : Nat} (hk : k < 21) (hk2 : (k : Int) < S 6) (hv : okM S k (μ 185 k)) : Wp E 92 0 [some (.inr (.inr (.inl 176))), some (.inl k)] [] G0 μ Q = Q (some (.inl (gbk S k (μ 185 k)))) G0 μ := by
  obtain ⟨f1, f2, f3⟩ := fmF_lt hw hk hk2
  have e1 : μ 177 (68 + 4 * k + 0) = fmF S k := by rw [hS.1 _ (by omega)]; exact f3
  have e2 : μ 177 (23 + 9 * fmF S k + 0) = S (23 + 9 * fmF S k) := hS.1 _ (by omega)
  have h2 := (hw.2.2.1 _ f1 f2).1
  have e3 : ¬ S (23 + 9 * fmF S k) = 0 := by omega
  have ek : (0 : Int) ≤ k := by omega
  have ek2 : (k : Int) < 21 := by omega
  simp (disch := first | omega | exact rfl) only [x92_0, x92_1, x92_2, x92_5, x92_6, x92_9, x92_10, x92_11, x92_14, x92_15, x92_16, x92_17, x92_18, x92_19, x92_22, x92_23, x92_26, x92_27, isF, isK, isH, mK, nl_i, nl_n, nl_o, nl_r, c1_i, c1_r, mPush, mRv, G0_1, true_and, and_true, and_self, implies_true, List.length_nil, List.length_cons, Nat.reduceAdd, Nat.reduceLeDiff, Nat.zero_le, beq_self_eq_true, Nat.reduceBEq, decide_true, Bool.and_self, reduceCtorEq, ne_eq, not_true_eq_false, not_false_eq_true, false_implies, true_implies, Nat.reduceLT, Nat.reduceEqDiff, or_true, true_or, or_false, false_or, or_self, Int.reduceEq, Int.reduceNe, Int.reduceLT, Int.reduceLE, Int.reduceAdd, Int.reduceSub, Int.reduceMul, Int.reduceNeg, Int.reduceToNat, if_true, if_false, Classical.not_not, Int.cast_ofNat_Int, kd176, kd177, kd178, kd179, kd180, kd181, kd182, kd183, kd184, kd185, kd186, kd187, kd188, kd189, kd190, kd191, kd192, kd193, kd194, rf176_1, rf176_2, rf176_4, rf176_5, rf176_6, rf176_8, rf176_9, rf176_10, rf176_11, rf176_12, rf176_13, rf176_14, rf176_16, rf176_17, rf176_18, rf176_19, rf176_20, rf176_23, Int.toNat_natCast, ct91 hS hw hk hk2, ct90, ct79, ct78, e1, e2, e3, ek, ek2, mw_on hw hk hk2 hv, mw_gb hw hk hk2 hv]
theorem ct93 {μ : MU} (hS : RS μ S) (hw : wfR S) {k : Nat} (hk : k < 21) (hk2 : (k : Int) < S 6) (hv : okM S k (μ 185 k)) : Wp E 93 0 [some (.inr (.inr (.inl 176))), some (.inl k)] [] G0 μ Q = Q (some (.inl (kpt S k (μ 185 k)))) G0 μ := by
  simp (disch := first | omega | exact rfl) only [x93_0, x93_1, x93_2, x93_5, x93_6, x93_7, x93_10, x93_11, isF, isK, isH, mK, nl_i, nl_n, nl_o, nl_r, c1_i, c1_r, mPush, mRv, G0_1, true_and, and_true, and_self, implies_true, List.length_nil, List.length_cons, Nat.reduceAdd, Nat.reduceLeDiff, Nat.zero_le, beq_self_eq_true, Nat.reduceBEq, decide_true, Bool.and_self, reduceCtorEq, ne_eq, not_true_eq_false, not_false_eq_true, false_implies, true_implies, Nat.reduceLT, Nat.reduceEqDiff, or_true, true_or, or_false, false_or, or_self, Int.reduceEq, Int.reduceNe, Int.reduceLT, Int.reduceLE, Int.reduceAdd, Int.reduceSub, Int.reduceMul, Int.reduceNeg, Int.reduceToNat, if_true, if_false, Classical.not_not, Int.cast_ofNat_Int, kd176, kd177, kd178, kd179, kd180, kd181, kd182, kd183, kd184, kd185, kd186, kd187, kd188, kd189, kd190, kd191, kd192, kd193, kd194, rf176_1, rf176_2, rf176_4, rf176_5, rf176_6, rf176_8, rf176_9, rf176_10, rf176_11, rf176_12, rf176_13, rf176_14, rf176_16, rf176_17, rf176_18, rf176_19, rf176_20, rf176_23, ct91 hS hw hk hk2, ct92 hS hw hk hk2 hv, mw_kp hw hk hk2 hv]
theorem ct94 {μ : MU} (hS : RS μ S) (hw : wfR S) {k : Nat} (hk : k < 21) (hk2 : (k : Int) < S 6) (hv : okM S k (μ 185 k)) : Wp E 94 0 [some (.inr (.inr (.inl 176))), some (.inl k)] [] G0 μ Q = Q (some (.inl (rnt S k (μ 185 k)))) G0 μ := by
  obtain ⟨f1, f2, f3⟩ := fmF_lt hw hk hk2
  have e1 : μ 177 (68 + 4 * k + 0) = fmF S k := by rw [hS.1 _ (by omega)]; exact f3
  have e2 : μ 177 (23 + 9 * fmF S k + 2) = S (25 + 9 * fmF S k) := by rw [hS.1 _ (by omega)]; congr 1; omega
  have ek : (0 : Int) ≤ k := by omega
  have ek2 : (k : Int) < 21 := by omega
  simp (disch := first | omega | exact rfl) only [x94_0, x94_1, x94_2, x94_5, x94_6, x94_7, x94_8, x94_9, x94_12, x94_13, x94_16, x94_17, x94_19, x94_20, isF, isK, isH, mK, nl_i, nl_n, nl_o, nl_r, c1_i, c1_r, mPush, mRv, G0_1, true_and, and_true, and_self, implies_true, List.length_nil, List.length_cons, Nat.reduceAdd, Nat.reduceLeDiff, Nat.zero_le, beq_self_eq_true, Nat.reduceBEq, decide_true, Bool.and_self, reduceCtorEq, ne_eq, not_true_eq_false, not_false_eq_true, false_implies, true_implies, Nat.reduceLT, Nat.reduceEqDiff, or_true, true_or, or_false, false_or, or_self, Int.reduceEq, Int.reduceNe, Int.reduceLT, Int.reduceLE, Int.reduceAdd, Int.reduceSub, Int.reduceMul, Int.reduceNeg, Int.reduceToNat, if_true, if_false, Classical.not_not, Int.cast_ofNat_Int, kd176, kd177, kd178, kd179, kd180, kd181, kd182, kd183, kd184, kd185, kd186, kd187, kd188, kd189, kd190, kd191, kd192, kd193, kd194, rf176_1, rf176_2, rf176_4, rf176_5, rf176_6, rf176_8, rf176_9, rf176_10, rf176_11, rf176_12, rf176_13, rf176_14, rf176_16, rf176_17, rf176_18, rf176_19, rf176_20, rf176_23, Int.toNat_natCast, ct93 hS hw hk hk2 hv, ct79, ct78, e1, e2, ek, ek2, mw_kr hw hk hk2 hv, mw_rn hw hk hk2 hv]
end SUMS
