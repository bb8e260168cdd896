/-! A SHOW MORE: the run with it, and the run without it -/
section FRE
variable {S S' : Row}
theorem rRun_c (hw : wfR S) (hA : ∀ i, i < 68 → ¬ i = 6 → S' i = S i) {f : Nat} {h t : Int} {P : MU} (hf : f < 5) (hh : isH h) (ht : 0 ≤ t ∧ t ≤ 1439) (hP : qP P) : ∀ j : Nat, j ≤ 6 → rRun S' f h t j (sBeg t P) = rRun S f h t j (sBeg t P) := by
  intro j
  induction j with
  | zero => intro _; rfl
  | succ j ih =>
    intro hj
    simp only [rRun]
    rw [ih (by omega)]
    have q := (rRun_q hw (f := f) hh ht hP j (by omega)).1
    generalize rRun S f h t j (sBeg t P) = R at q
    have p0 := (q j (by omega)).1
    unfold isH at hh
    have eG : rGap S' h (R 0 j) = rGap S h (R 0 j) := by
      unfold rGap
      rw [hA _ (by omega) (by omega)]
    have eT : rTh S' h j R = rTh S h j R := by unfold rTh; rw [eG]
    have eF : rFr S' h j R = rFr S h j R := by unfold rFr; rw [eT]
    have eM : rMd S' f t j R = rMd S f t j R := by unfold rMd; rw [hA _ (by omega) (by omega)]
    have eN : rFn S' f h t j R = rFn S f h t j R := by unfold rFn; rw [eF, eM, hA 0 (by omega) (by omega), hA 2 (by omega) (by omega)]
    have eH : rHit S' f h t j R = rHit S f h t j R := by unfold rHit; rw [eN, eM, eF, hA 0 (by omega) (by omega)]
    unfold rGo
    rw [hA 1 (by omega) (by omega), eT, eH]
theorem sGo_c (hw : wfR S) (hA : ∀ i, i < 68 → ¬ i = 6 → S' i = S i) {f k : Nat} {P : MU} (hf : f < 5) (hf2 : (f : Int) < S 5) (hk : k < 21) (hk2 : (k : Int) < S 6) (h1 : S' (69 + 4 * k) = S (69 + 4 * k)) (h2 : S' (70 + 4 * k) = S (70 + 4 * k)) (hP : qP P) : sGo S' f k P = sGo S f k P := by
  have hs := hw.2.2.2 k hk hk2
  have hr := (hw.2.2.1 f hf hf2).1
  unfold sGo
  rw [h1, h2, hA (23 + 9 * f) (by omega) (by omega)]
  exact rRun_c hw hA hf hs.2.1 hs.2.2.1 hP _ (by omega)
theorem sGo_q (hw : wfR S) {f k : Nat} {P : MU} (hf : f < 5) (hf2 : (f : Int) < S 5) (hk : k < 21) (hk2 : (k : Int) < S 6) (hP : qP P) : qP (sGo S f k P) ∧ 0 ≤ sGo S f k P 5 2 ∧ sGo S f k P 5 2 < 64 := by
  have hs := hw.2.2.2 k hk hk2
  have hr := (hw.2.2.1 f hf hf2).1
  have q := rRun_q hw (f := f) hs.2.1 hs.2.2.1 hP (S (23 + 9 * f)).toNat (by omega)
  unfold sGo
  have q2 := q.2.2.2.1
  have q3 := on_pd (n := (S (23 + 9 * f)).toNat) (by omega) q2
  exact ⟨q.1, q3.1.1, q3.1.2⟩
/-- the states of the film f behind a show more at the place p -/
def xSt (S : Row) (o : Nat → Nat) (f p : Nat) (X : MU) : Nat → MU
  | 0 => X
  | j + 1 => if S (68 + 4 * o (p + j)) = f then sGo S f (o (p + j)) (xSt S o f p X j) else xSt S o f p X j
theorem fSt_lo (hw : wfR S) (hA : ∀ i, i < 68 → ¬ i = 6 → S' i = S i) {N : Nat} (hN : S 6 = N) (hB : ∀ i, 68 ≤ i → i < 68 + 4 * N → S' i = S i) {o o' : Nat → Nat} (hO : ∀ k, k < N → o k < N) {p : Nat} (hp : p ≤ N) (ho : ∀ k, k < p → o' k = o k) {g : Nat} (hg : g < 5) (hg2 : (g : Int) < S 5) : ∀ k, k ≤ p → fSt S' o' g k = fSt S o g k := by
  have h6 := hw.1.2.2.2.2.2.2
  intro k
  induction k with
  | zero =>
    intro _
    simp only [fSt]
    unfold fBeg
    rw [hA (24 + 9 * g) (by omega) (by omega)]
  | succ k ih =>
    intro hk
    have hok := hO k (by omega)
    have q := (fSt_q hw (o := o) (N := N) (by omega) hO hg hg2 k (by omega)).1
    simp only [fSt]
    rw [ho k (by omega), ih (by omega), hB (68 + 4 * o k) (by omega) (by omega), sGo_c hw hA hg hg2 (by omega) (by omega) (hB _ (by omega) (by omega)) (hB _ (by omega) (by omega)) q]
theorem fSt_ne (hw : wfR S) (hA : ∀ i, i < 68 → ¬ i = 6 → S' i = S i) {N : Nat} (hN : S 6 = N) (hB : ∀ i, 68 ≤ i → i < 68 + 4 * N → S' i = S i) {o o' : Nat → Nat} (hO : ∀ k, k < N → o k < N) {p : Nat} (hp : p ≤ N) (ho : ∀ k, k < p → o' k = o k) (hop : o' p = N) (hoq : ∀ k, p ≤ k → k < N → o' (k + 1) = o k) {g : Nat} (hg : g < 5) (hg2 : (g : Int) < S 5) (hgN : ¬ S' (68 + 4 * N) = g) : ∀ j, p + j ≤ N → fSt S' o' g (p + j + 1) = fSt S o g (p + j) := by
  have h6 := hw.1.2.2.2.2.2.2
  intro j
  induction j with
  | zero =>
    intro _
    show (if S' (68 + 4 * o' p) = g then sGo S' g (o' p) (fSt S' o' g p) else fSt S' o' g p) = fSt S o g p
    rw [hop, if_neg hgN]
    exact fSt_lo hw hA hN hB hO hp ho hg hg2 p (Nat.le_refl _)
  | succ j ih =>
    intro hj
    have hok := hO (p + j) (by omega)
    have q := (fSt_q hw (o := o) (N := N) (by omega) hO hg hg2 (p + j) (by omega)).1
    show (if S' (68 + 4 * o' (p + j + 1)) = g then sGo S' g (o' (p + j + 1)) (fSt S' o' g (p + j + 1)) else fSt S' o' g (p + j + 1)) = (if S (68 + 4 * o (p + j)) = g then sGo S g (o (p + j)) (fSt S o g (p + j)) else fSt S o g (p + j))
    rw [hoq (p + j) (by omega) (by omega), ih (by omega), hB (68 + 4 * o (p + j)) (by omega) (by omega), sGo_c hw hA hg hg2 (by omega) (by omega) (hB _ (by omega) (by omega)) (hB _ (by omega) (by omega)) q]
theorem xSt_q (hw : wfR S) {N : Nat} (hN : S 6 = N) {o : Nat → Nat} (hO : ∀ k, k < N → o k < N) {f p : Nat} (hf : f < 5) (hf2 : (f : Int) < S 5) {X : MU} (hX : qP X) : ∀ j, p + j ≤ N → qP (xSt S o f p X j) := by
  have h6 := hw.1.2.2.2.2.2.2
  intro j
  induction j with
  | zero => intro _; exact hX
  | succ j ih =>
    intro hj
    have hok := hO (p + j) (by omega)
    simp only [xSt]
    by_cases q : S (68 + 4 * o (p + j)) = f
    · rw [if_pos q]; exact (sGo_q hw hf hf2 (by omega) (by omega) (ih (by omega))).1
    · rw [if_neg q]; exact ih (by omega)
theorem fSt_eq (hw : wfR S) (hA : ∀ i, i < 68 → ¬ i = 6 → S' i = S i) {N : Nat} (hN : S 6 = N) (hB : ∀ i, 68 ≤ i → i < 68 + 4 * N → S' i = S i) {o o' : Nat → Nat} (hO : ∀ k, k < N → o k < N) {p : Nat} (hp : p ≤ N) (ho : ∀ k, k < p → o' k = o k) (hop : o' p = N) (hoq : ∀ k, p ≤ k → k < N → o' (k + 1) = o k) {f : Nat} {h m : Int} (hf : f < 5) (hf2 : (f : Int) < S 5) (hh : isH h) (hm : 0 ≤ m ∧ m ≤ 1439) (h1 : S' (68 + 4 * N) = f) (h2 : S' (69 + 4 * N) = h) (h3 : S' (70 + 4 * N) = m) : ∀ j, p + j ≤ N → fSt S' o' f (p + j + 1) = xSt S o f p (rRun S f h m (S (23 + 9 * f)).toNat (sBeg m (fSt S o f p))) j := by
  have h6 := hw.1.2.2.2.2.2.2
  have hr := (hw.2.2.1 f hf hf2).1
  have qp := (fSt_q hw (o := o) (N := N) (by omega) hO hf hf2 p hp).1
  have qX := (rRun_q hw (f := f) hh hm qp (S (23 + 9 * f)).toNat (by omega)).1
  intro j
  induction j with
  | zero =>
    intro _
    show (if S' (68 + 4 * o' p) = f then sGo S' f (o' p) (fSt S' o' f p) else fSt S' o' f p) = rRun S f h m (S (23 + 9 * f)).toNat (sBeg m (fSt S o f p))
    rw [hop, if_pos h1, fSt_lo hw hA hN hB hO hp ho hf hf2 p (Nat.le_refl _)]
    unfold sGo
    rw [h2, h3, hA (23 + 9 * f) (by omega) (by omega)]
    exact rRun_c hw hA hf hh hm qp _ (by omega)
  | succ j ih =>
    intro hj
    have hok := hO (p + j) (by omega)
    have q := xSt_q hw hN hO (p := p) hf hf2 qX j (by omega)
    show (if S' (68 + 4 * o' (p + j + 1)) = f then sGo S' f (o' (p + j + 1)) (fSt S' o' f (p + j + 1)) else fSt S' o' f (p + j + 1)) = (if S (68 + 4 * o (p + j)) = f then sGo S f (o (p + j)) (xSt S o f p (rRun S f h m (S (23 + 9 * f)).toNat (sBeg m (fSt S o f p))) j) else xSt S o f p (rRun S f h m (S (23 + 9 * f)).toNat (sBeg m (fSt S o f p))) j)
    rw [hoq (p + j) (by omega) (by omega), ih (by omega), hB (68 + 4 * o (p + j)) (by omega) (by omega), sGo_c hw hA hf hf2 (by omega) (by omega) (hB _ (by omega) (by omega)) (hB _ (by omega) (by omega)) q]
/-- no show from the place k on is worse than it was -/
def nW (S : Row) (o : Nat → Nat) (f : Nat) : Nat → Nat → MU → Prop
  | 0, _, _ => True
  | n + 1, k, X => if S (68 + 4 * o k) = f then (sGo S f (o k) X 5 1 ≤ oP S o k 5 1 ∧ on (sGo S f (o k) X 5 2) ≤ on (oP S o k 5 2)) ∧ nW S o f n (k + 1) (sGo S f (o k) X) else nW S o f n (k + 1) X
theorem nW_x {o : Nat → Nat} {f p : Nat} {X : MU} : ∀ n j : Nat, nW S o f n (p + j) (xSt S o f p X j) ↔ ∀ i, j ≤ i → i < j + n → S (68 + 4 * o (p + i)) = f → xSt S o f p X (i + 1) 5 1 ≤ oP S o (p + i) 5 1 ∧ on (xSt S o f p X (i + 1) 5 2) ≤ on (oP S o (p + i) 5 2) := by
  intro n
  induction n with
  | zero => intro j; exact ⟨fun _ i h1 h2 => by omega, fun _ => trivial⟩
  | succ n ih =>
    intro j
    have ih2 := ih (j + 1)
    simp only [nW]
    by_cases q : S (68 + 4 * o (p + j)) = f
    · have e : xSt S o f p X (j + 1) = sGo S f (o (p + j)) (xSt S o f p X j) := if_pos q
      rw [if_pos q]
      rw [e] at ih2
      have e3 : p + (j + 1) = p + j + 1 := by omega
      rw [e3] at ih2
      constructor
      · intro z i h1 h2 h3
        by_cases y : i = j
        · subst y; rw [e]; exact z.1
        · exact ih2.mp z.2 i (by omega) (by omega) h3
      · intro z
        refine ⟨?_, ih2.mpr (fun i h1 h2 h3 => z i (by omega) (by omega) h3)⟩
        have := z j (Nat.le_refl _) (by omega) q
        rw [e] at this; exact this
    · have e : xSt S o f p X (j + 1) = xSt S o f p X j := if_neg q
      rw [if_neg q]
      rw [e] at ih2
      have e3 : p + (j + 1) = p + j + 1 := by omega
      rw [e3] at ih2
      constructor
      · intro z i h1 h2 h3
        by_cases y : i = j
        · subst y; exact absurd h3 q
        · exact ih2.mp z i (by omega) (by omega) h3
      · intro z
        exact ih2.mpr (fun i h1 h2 h3 => z i (by omega) (by omega) h3)
end FRE
