/-! THE RUN IN NUMBERS: how a reel is shown (P 0 house, P 1 free, P 2 mended, P 3 shown at, P 4 free then; P 5: 0 end, 1 waited, 2 missed, 3 carried, 4 all carried) -/
def rGap (S : Row) (h a : Int) : Int := if a = h then 0 else S (7 + (4 * a.toNat + h.toNat))
def rTh (S : Row) (h : Int) (r : Nat) (P : MU) : Int := P 1 r + rGap S h (P 0 r)
def rFr (S : Row) (h : Int) (r : Nat) (P : MU) : Int := if P 5 0 < rTh S h r P then rTh S h r P else P 5 0
def rMd (S : Row) (f : Nat) (t : Int) (r : Nat) (P : MU) : Int := if (0 < S (26 + 9 * f + r) ∧ P 2 r = 0) ∧ S (26 + 9 * f + r) - 1 ≤ t then 1 else 0
def rFn (S : Row) (f : Nat) (h t : Int) (r : Nat) (P : MU) : Int := rFr S h r P + S 0 + (if rMd S f t r P = 1 then S 2 else 0)
def rHit (S : Row) (f : Nat) (h t : Int) (r : Nat) (P : MU) : MU := fun x i =>
  if x = 0 then (if i = r then h else P 0 i)
  else if x = 1 then (if i = r then rFn S f h t r P else P 1 i)
  else if x = 2 then (if i = r then (if rMd S f t r P = 1 then 1 else P 2 i) else P 2 i)
  else if x = 3 then (if i = r then rFr S h r P else P 3 i)
  else if x = 4 then (if i = r then rFn S f h t r P else P 4 i)
  else if x = 5 then (if i = 0 then rFr S h r P + S 0 else if i = 1 then P 5 1 + (rFr S h r P - P 5 0) else if i = 3 then P 5 3 + (if P 0 r = h then 0 else 1) else if i = 4 then P 5 4 + (if P 0 r = h then 0 else 1) else P 5 i)
  else P x i
def rMis (r : Nat) (P : MU) : MU := fun x i =>
  if x = 3 then (if i = r then -6 else P 3 i)
  else if x = 5 then (if i = 2 then mIor (P 5 2) (mIshl 1 r) else P 5 i)
  else P x i
def rGo (S : Row) (f : Nat) (h t : Int) (r : Nat) (P : MU) : MU := if P 5 0 + S 1 < rTh S h r P then rMis r P else rHit S f h t r P
def rRun (S : Row) (f : Nat) (h t : Int) : Nat → MU → MU
  | 0, P => P
  | r + 1, P => rGo S f h t r (rRun S f h t r P)
def sBeg (t : Int) (P : MU) : MU := fun x i => if x = 5 then (if i = 0 then t else if i = 4 then P 5 4 else 0) else P x i
def sGo (S : Row) (f k : Nat) (P : MU) : MU := rRun S f (S (69 + 4 * k)) (S (70 + 4 * k)) (S (23 + 9 * f)).toNat (sBeg (S (70 + 4 * k)) P)
def fBeg (S : Row) (f : Nat) : MU := fun x _ => if x = 0 then S (24 + 9 * f) else 0
def fSt (S : Row) (o : Nat → Nat) (f : Nat) : Nat → MU
  | 0 => fBeg S f
  | k + 1 => if S (68 + 4 * o k) = f then sGo S f (o k) (fSt S o f k) else fSt S o f k
def wfR (S : Row) : Prop :=
  ((1 ≤ S 0 ∧ S 0 ≤ 60) ∧ (0 ≤ S 1 ∧ S 1 ≤ 60) ∧ (0 ≤ S 2 ∧ S 2 ≤ 60) ∧ (0 ≤ S 3 ∧ S 3 ≤ 9) ∧ (0 ≤ S 4 ∧ S 4 ≤ 99) ∧ (0 ≤ S 5 ∧ S 5 ≤ 5) ∧ (0 ≤ S 6 ∧ S 6 ≤ 21)) ∧
  (∀ a b : Nat, a < 4 → b < 4 → (a = b → S (7 + (4 * a + b)) = 0) ∧ (0 ≤ S (7 + (4 * a + b)) ∧ S (7 + (4 * a + b)) ≤ 198)) ∧
  (∀ f : Nat, f < 5 → (f : Int) < S 5 → (1 ≤ S (23 + 9 * f) ∧ S (23 + 9 * f) ≤ 6) ∧ (0 ≤ S (24 + 9 * f) ∧ S (24 + 9 * f) ≤ 3) ∧ (0 ≤ S (25 + 9 * f) ∧ S (25 + 9 * f) ≤ 100) ∧ ∀ r : Nat, r < 6 → (0 ≤ S (26 + 9 * f + r) ∧ S (26 + 9 * f + r) ≤ 1440)) ∧
  (∀ k : Nat, k < 21 → (k : Int) < S 6 → (0 ≤ S (68 + 4 * k) ∧ S (68 + 4 * k) < S 5) ∧ (0 ≤ S (69 + 4 * k) ∧ S (69 + 4 * k) ≤ 3) ∧ (0 ≤ S (70 + 4 * k) ∧ S (70 + 4 * k) ≤ 1439) ∧ (0 ≤ S (71 + 4 * k) ∧ S (71 + 4 * k) ≤ 999))
theorem wf_wfR {s : Row} (h : wf s) : wfR s := by
  obtain ⟨h1, h2, h3, h4⟩ := h
  refine ⟨⟨h1.1, h1.2.1, h1.2.2.1, h1.2.2.2.1, h1.2.2.2.2.1, h1.2.2.2.2.2.1, h1.2.2.2.2.2.2.1, by have := h1.2.2.2.2.2.2.2; omega⟩, ?_, ?_, ?_⟩
  · intro a b ha hb
    have := h2 a b ha hb
    exact ⟨this.1, this.2.1, by have := this.2.2; omega⟩
  · intro f hf hf2
    obtain ⟨p1, p2, p3, p4⟩ := h3 f hf hf2
    exact ⟨p1, p2, p3, fun r hr => (p4 r hr).1⟩
  · intro k hk hk2
    have := h1.2.2.2.2.2.2.2
    exact h4 k (by omega) hk2
def qP (P : MU) : Prop := ∀ r : Nat, r < 6 → (0 ≤ P 0 r ∧ P 0 r ≤ 3) ∧ (0 ≤ P 1 r ∧ P 1 r ≤ 2219) ∧ (P 2 r = 0 ∨ P 2 r = 1)
def qR (t : Int) (r : Nat) (P : MU) : Prop := (t ≤ P 5 0 ∧ P 5 0 ≤ t + 120 * r) ∧ (0 ≤ P 5 1 ∧ P 5 1 ≤ 60 * r) ∧ (0 ≤ P 5 2 ∧ P 5 2 < 2 ^ r) ∧ (0 ≤ P 5 3 ∧ P 5 3 ≤ r)
theorem msk : ∀ r : Fin 6, ∀ m : Fin 64, (m : Nat) < 2 ^ (r : Nat) → 0 ≤ mIor (m : Nat) (mIshl 1 (r : Nat)) ∧ mIor (m : Nat) (mIshl 1 (r : Nat)) < 2 ^ ((r : Nat) + 1) := by decide +kernel
theorem msk2 {r : Nat} (hr : r < 6) {v : Int} (h : 0 ≤ v ∧ v < 2 ^ r) : 0 ≤ mIor v (mIshl 1 r) ∧ mIor v (mIshl 1 r) < 2 ^ (r + 1) := by
  obtain ⟨m, hm⟩ := Int.eq_ofNat_of_zero_le h.1
  subst hm
  have h2 : m < 2 ^ r := by have := h.2; exact_mod_cast this
  have h3 : 2 ^ r ≤ 2 ^ 6 := Nat.pow_le_pow_right (by omega) (by omega)
  exact msk ⟨r, hr⟩ ⟨m, by omega⟩ h2
theorem rGap_b {S : Row} (hw : wfR S) {h a : Int} (hh : isH h) (ha : 0 ≤ a ∧ a ≤ 3) : 0 ≤ rGap S h a ∧ rGap S h a ≤ 198 := by
  unfold isH at hh
  have := (hw.2.1 a.toNat h.toNat (by omega) (by omega)).2
  unfold rGap
  by_cases p : a = h
  · rw [if_pos p]; omega
  · rw [if_neg p]; exact this
theorem rGo_q {S : Row} (hw : wfR S) {f r : Nat} {h t : Int} {P : MU} (hh : isH h) (ht : 0 ≤ t ∧ t ≤ 1439) (hr : r < 6) (hP : qP P) (hR : qR t r P) : qP (rGo S f h t r P) ∧ qR t (r + 1) (rGo S f h t r P) := by
  have g := rGap_b hw hh (hP r hr).1
  have g1 := (hP r hr).2.1
  obtain ⟨⟨a1, a2⟩, ⟨b1, b2⟩, c1, ⟨d1, d2⟩⟩ := hR
  obtain ⟨⟨⟨w1, w2⟩, ⟨w3, w4⟩, ⟨w5, w6⟩, _⟩, _⟩ := hw
  unfold rGo
  by_cases p : P 5 0 + S 1 < rTh S h r P
  · rw [if_pos p]
    refine ⟨hP, ⟨a1, ?_⟩, ⟨b1, ?_⟩, msk2 hr c1, ⟨d1, ?_⟩⟩
    · show P 5 0 ≤ _; omega
    · show P 5 1 ≤ _; omega
    · show P 5 3 ≤ _; omega
  · rw [if_neg p]
    have f1 : P 5 0 ≤ rFr S h r P ∧ rFr S h r P ≤ P 5 0 + S 1 := by
      unfold rFr
      by_cases q : P 5 0 < rTh S h r P
      · rw [if_pos q]; omega
      · rw [if_neg q]; omega
    have f2 : rFr S h r P ≤ rFn S f h t r P ∧ rFn S f h t r P ≤ rFr S h r P + 120 := by
      unfold rFn
      by_cases q : rMd S f t r P = 1
      · rw [if_pos q]; omega
      · rw [if_neg q]; omega
    have f3 : 0 ≤ (if P 0 r = h then 0 else 1 : Int) ∧ (if P 0 r = h then 0 else 1 : Int) ≤ 1 := by
      by_cases q : P 0 r = h
      · rw [if_pos q]; omega
      · rw [if_neg q]; omega
    refine ⟨?_, ?_⟩
    · intro i hi
      obtain ⟨p1, p2, p3⟩ := hP i hi
      refine ⟨?_, ?_, ?_⟩
      · show 0 ≤ (if i = r then h else P 0 i) ∧ (if i = r then h else P 0 i) ≤ 3
        by_cases q : i = r
        · rw [if_pos q]; exact hh
        · rw [if_neg q]; exact p1
      · show 0 ≤ (if i = r then rFn S f h t r P else P 1 i) ∧ (if i = r then rFn S f h t r P else P 1 i) ≤ 2219
        by_cases q : i = r
        · rw [if_pos q]; omega
        · rw [if_neg q]; exact p2
      · show (if i = r then (if rMd S f t r P = 1 then 1 else P 2 i) else P 2 i) = 0 ∨ (if i = r then (if rMd S f t r P = 1 then 1 else P 2 i) else P 2 i) = 1
        by_cases q : i = r
        · rw [if_pos q]
          by_cases q2 : rMd S f t r P = 1
          · rw [if_pos q2]; exact Or.inr rfl
          · rw [if_neg q2]; exact p3
        · rw [if_neg q]; exact p3
    · refine ⟨⟨?_, ?_⟩, ⟨?_, ?_⟩, ?_, ⟨?_, ?_⟩⟩
      · show t ≤ rFr S h r P + S 0; omega
      · show rFr S h r P + S 0 ≤ _; omega
      · show 0 ≤ P 5 1 + (rFr S h r P - P 5 0); omega
      · show P 5 1 + (rFr S h r P - P 5 0) ≤ _; omega
      · show 0 ≤ P 5 2 ∧ P 5 2 < 2 ^ (r + 1)
        have e : (2 : Int) ^ (r + 1) = 2 ^ r * 2 := Int.pow_succ _ _
        rw [e]; omega
      · show 0 ≤ P 5 3 + (if P 0 r = h then 0 else 1); omega
      · show P 5 3 + (if P 0 r = h then 0 else 1) ≤ _; omega
theorem rRun_q {S : Row} (hw : wfR S) {f : Nat} {h t : Int} {P : MU} (hh : isH h) (ht : 0 ≤ t ∧ t ≤ 1439) (hP : qP P) : ∀ r : Nat, r ≤ 6 → qP (rRun S f h t r (sBeg t P)) ∧ qR t r (rRun S f h t r (sBeg t P)) := by
  intro r
  induction r with
  | zero =>
    intro _
    refine ⟨hP, ?_⟩
    show (t ≤ t ∧ t ≤ t + 120 * (0 : Nat)) ∧ ((0 : Int) ≤ 0 ∧ (0 : Int) ≤ 60 * (0 : Nat)) ∧ ((0 : Int) ≤ 0 ∧ (0 : Int) < 2 ^ 0) ∧ ((0 : Int) ≤ 0 ∧ (0 : Int) ≤ (0 : Nat))
    omega
  | succ r ih =>
    intro hr
    obtain ⟨i1, i2⟩ := ih (by omega)
    exact rGo_q hw hh ht (by omega) i1 i2
theorem rRun_54 {S : Row} {f : Nat} {h t : Int} {P : MU} : ∀ r : Nat, (rRun S f h t r (sBeg t P)) 5 4 = P 5 4 + (rRun S f h t r (sBeg t P)) 5 3 := by
  intro r
  induction r with
  | zero => show P 5 4 = P 5 4 + 0; omega
  | succ r ih =>
    show rGo S f h t r (rRun S f h t r (sBeg t P)) 5 4 = P 5 4 + rGo S f h t r (rRun S f h t r (sBeg t P)) 5 3
    generalize rRun S f h t r (sBeg t P) = R at ih
    unfold rGo
    by_cases p : R 5 0 + S 1 < rTh S h r R
    · rw [if_pos p]; exact ih
    · rw [if_neg p]
      show R 5 4 + (if R 0 r = h then 0 else 1) = P 5 4 + (R 5 3 + (if R 0 r = h then 0 else 1))
      omega
theorem fSt_q {S : Row} (hw : wfR S) {o : Nat → Nat} {N : Nat} (hN : (N : Int) ≤ S 6) (ho : ∀ k, k < N → o k < N) {f : Nat} (hf : f < 5) (hf2 : (f : Int) < S 5) : ∀ k : Nat, k ≤ N → qP (fSt S o f k) ∧ (0 ≤ fSt S o f k 5 4 ∧ fSt S o f k 5 4 ≤ 6 * k) := by
  intro k
  have h6 := hw.1.2.2.2.2.2.2
  induction k with
  | zero =>
    intro _
    have h1 := (hw.2.2.1 f hf hf2).2.1
    refine ⟨fun r _ => ⟨h1, ?_, Or.inl rfl⟩, ?_⟩
    · show (0 : Int) ≤ 0 ∧ (0 : Int) ≤ 2219; omega
    · show (0 : Int) ≤ 0 ∧ (0 : Int) ≤ 6 * (0 : Nat); omega
  | succ k ih =>
    intro hk
    obtain ⟨i1, i2⟩ := ih (by omega)
    have hok := ho k (by omega)
    have hs := hw.2.2.2 (o k) (by omega) (by omega)
    have hr := (hw.2.2.1 f hf hf2).1
    simp only [fSt]
    by_cases p : S (68 + 4 * o k) = f
    · rw [if_pos p]
      unfold sGo
      have q := rRun_q hw (f := f) hs.2.1 hs.2.2.1 i1 (S (23 + 9 * f)).toNat (by omega)
      refine ⟨q.1, ?_⟩
      rw [rRun_54]
      have q2 := q.2.2.2.2
      omega
    · rw [if_neg p]; exact ⟨i1, by omega⟩
