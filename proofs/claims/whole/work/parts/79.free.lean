theorem pIn_c {T T' : Nat → Int} {o o' : Nat → Nat} {q : Int} : ∀ b : Nat, (∀ k, k < b → T (o k) = T' (o' k)) → pIn T o q b = pIn T' o' q b := by
  intro b
  induction b with
  | zero => intro _; rfl
  | succ b ih =>
    intro h
    simp only [pIn]
    rw [ih (fun k hk => h k (by omega)), h b (by omega)]
theorem pIn_mono {T : Nat → Int} {o : Nat → Nat} {N : Nat} (hO : isO T o N) {q q' : Int} (h : q ≤ q') : pIn T o q N ≤ pIn T o q' N := by
  by_cases z : pIn T o q N ≤ pIn T o q' N
  · exact z
  · have h1 := isO_cut hO (q := q) (pIn T o q' N) (by omega)
    have h2 := pIn_le (T := T) (o := o) (q := q) N
    have h3 := pIn_hi (T := T) (o := o) (q := q') N (pIn T o q' N) (Nat.le_refl _) (by omega)
    omega
section FRE2
variable {S : Row}
def sx (S : Row) (f : Nat) (h m : Int) : Row := lShow S f h m 0
theorem sx_lo {f : Nat} {h m : Int} {N : Nat} (hN : S 6 = N) {i : Nat} (hi : i < 68 + 4 * N) (h6 : ¬ i = 6) : sx S f h m i = S i := by
  unfold sx lShow
  rw [hN, Int.toNat_natCast, if_neg h6, if_neg (by omega), if_neg (by omega), if_neg (by omega), if_neg (by omega)]
theorem sx_n {f : Nat} {h m : Int} {N : Nat} (hN : S 6 = N) : sx S f h m 6 = ((N + 1 : Nat) : Int) ∧ sx S f h m (68 + 4 * N) = f ∧ sx S f h m (69 + 4 * N) = h ∧ sx S f h m (70 + 4 * N) = m ∧ sx S f h m (71 + 4 * N) = 0 := by
  unfold sx lShow
  rw [hN, Int.toNat_natCast]
  refine ⟨?_, ?_, ?_, ?_, ?_⟩
  · rw [if_pos rfl]; omega
  · rw [if_neg (by omega), if_pos rfl]
  · rw [if_neg (by omega), if_neg (by omega), if_pos rfl]
  · rw [if_neg (by omega), if_neg (by omega), if_neg (by omega), if_pos rfl]
  · rw [if_neg (by omega), if_neg (by omega), if_neg (by omega), if_neg (by omega), if_pos rfl]
/-- the state behind the show more -/
def xN (S : Row) (o : Nat → Nat) (f : Nat) (h m : Int) (p : Nat) : MU := rRun S f h m (S (23 + 9 * f)).toNat (sBeg m (fSt S o f p))
def FRc (S : Row) (o : Nat → Nat) (N f : Nat) (h m : Int) (p : Nat) : Prop := xN S o f h m p 5 1 = 0 ∧ xN S o f h m p 5 2 = 0 ∧ nW S o f (N - p) p (xN S o f h m p)
def FRr (S S' : Row) (N : Nat) : Prop := sP S' (N + 1) N 5 1 = 0 ∧ sP S' (N + 1) N 5 2 = 0 ∧ ∀ i, i < N → sP S' (N + 1) i 5 1 ≤ sP S N i 5 1 ∧ on (sP S' (N + 1) i 5 2) ≤ on (sP S N i 5 2)
theorem FR_iff (hw : wfR S) {N : Nat} (hN : S 6 = N) (hN20 : N ≤ 20) {f : Nat} {h m : Int} (hf : f < 5) (hf2 : (f : Int) < S 5) (hh : isH h) (hm : 0 ≤ m ∧ m ≤ 1439) : FRr S (sx S f h m) N ↔ FRc S (ord (sT S) N) N f h m (pIn (sT S) (ord (sT S) N) m N) := by
  obtain ⟨x6, x68, x69, x70, x71⟩ := sx_n (S := S) (f := f) (h := h) (m := m) hN
  have xlo : ∀ i, i < 68 + 4 * N → ¬ i = 6 → sx S f h m i = S i := fun i h1 h2 => sx_lo hN h1 h2
  have hO := isO_ord (T := sT S) N
  have hO' := isO_ord (T := sT (sx S f h m)) (N + 1)
  have eT : ∀ s, s < N → sT (sx S f h m) s = sT S s := fun s hs => xlo _ (by omega) (by omega)
  have eo : ∀ k, k < N → ord (sT (sx S f h m)) N k = ord (sT S) N k := ord_T N eT
  have ep : pIn (sT (sx S f h m)) (ord (sT (sx S f h m)) N) (sT (sx S f h m) N) N = pIn (sT S) (ord (sT S) N) m N := by
    have e : sT (sx S f h m) N = m := x70
    rw [e]
    refine pIn_c N (fun k hk => ?_)
    rw [eo k hk, eT _ (hO.1 k hk).1]
  have hp := pIn_le (T := sT S) (o := ord (sT S) N) (q := m) N
  have hord : ord (sT (sx S f h m)) (N + 1) = ins (ord (sT (sx S f h m)) N) (pIn (sT S) (ord (sT S) N) m N) N := by
    show ins (ord (sT (sx S f h m)) N) (pIn (sT (sx S f h m)) (ord (sT (sx S f h m)) N) (sT (sx S f h m) N) N) N = _
    rw [ep]
  generalize pIn (sT S) (ord (sT S) N) m N = p at *
  have ho : ∀ k, k < p → ord (sT (sx S f h m)) (N + 1) k = ord (sT S) N k := by
    intro k hk
    rw [hord]; unfold ins
    rw [if_pos hk]; exact eo k (by omega)
  have hop : ord (sT (sx S f h m)) (N + 1) p = N := by
    rw [hord]; unfold ins
    rw [if_neg (by omega), if_pos rfl]
  have hoq : ∀ k, p ≤ k → k < N → ord (sT (sx S f h m)) (N + 1) (k + 1) = ord (sT S) N k := by
    intro k h1 h2
    rw [hord]; unfold ins
    rw [if_neg (by omega), if_neg (by omega), Nat.add_sub_cancel]; exact eo k h2
  have hOl : ∀ k, k < N → ord (sT S) N k < N := fun k hk => (hO.1 k hk).1
  have hA : ∀ i, i < 68 → ¬ i = 6 → sx S f h m i = S i := fun i h1 h2 => xlo i (by omega) h2
  have hB : ∀ i, 68 ≤ i → i < 68 + 4 * N → sx S f h m i = S i := fun i h1 h2 => xlo i h2 (by omega)
  have sPdef : ∀ i, sP (sx S f h m) (N + 1) i = oP (sx S f h m) (ord (sT (sx S f h m)) (N + 1)) (cnt (sT (sx S f h m)) i (N + 1)) := fun i => rfl
  have hnew : sP (sx S f h m) (N + 1) N = xN S (ord (sT S) N) f h m p := by
    have c := (hO'.1 p (by omega)).2
    rw [hop] at c
    rw [sPdef, c]
    unfold oP
    rw [hop, x68, Int.toNat_natCast]
    exact fSt_eq hw hA hN hB hOl hp ho hop hoq hf hf2 hh hm x68 x69 x70 0 (by omega)
  have hold : ∀ k, k < N → (k < p → sP (sx S f h m) (N + 1) (ord (sT S) N k) = sP S N (ord (sT S) N k)) ∧ (p ≤ k → (¬ S (68 + 4 * ord (sT S) N k) = f → sP (sx S f h m) (N + 1) (ord (sT S) N k) = sP S N (ord (sT S) N k)) ∧ (S (68 + 4 * ord (sT S) N k) = f → sP (sx S f h m) (N + 1) (ord (sT S) N k) = xSt S (ord (sT S) N) f p (xN S (ord (sT S) N) f h m p) (k - p + 1))) := by
    intro k hk
    have hok := hO.1 k hk
    obtain ⟨g1, g2, g3⟩ := fmF_lt hw (k := ord (sT S) N k) (by omega) (by omega)
    have e0 : sP S N (ord (sT S) N k) = fSt S (ord (sT S) N) (fmF S (ord (sT S) N k)) (k + 1) := by
      unfold sP; rw [hok.2]; rfl
    have e68 : sx S f h m (68 + 4 * ord (sT S) N k) = fmF S (ord (sT S) N k) := by rw [xlo _ (by omega) (by omega)]; exact g3
    refine ⟨fun z => ?_, fun z => ⟨fun y => ?_, fun y => ?_⟩⟩
    · have c := (hO'.1 k (by omega)).2
      rw [ho k z] at c
      rw [sPdef, c, e0]
      unfold oP
      rw [ho k z, e68, Int.toNat_natCast]
      exact fSt_lo hw hA hN hB hOl hp ho g1 g2 (k + 1) (by omega)
    · have c := (hO'.1 (k + 1) (by omega)).2
      rw [hoq k z hk] at c
      rw [sPdef, c, e0]
      unfold oP
      rw [hoq k z hk, e68, Int.toNat_natCast]
      have r := fSt_ne hw hA hN hB hOl hp ho hop hoq g1 g2 (by rw [x68]; omega) (k - p + 1) (by omega)
      have e1 : p + (k - p + 1) = k + 1 := by omega
      rw [e1] at r; exact r
    · have c := (hO'.1 (k + 1) (by omega)).2
      rw [hoq k z hk] at c
      rw [sPdef, c]
      unfold oP
      rw [hoq k z hk, xlo _ (by omega) (by omega), y, Int.toNat_natCast]
      have r := fSt_eq hw hA hN hB hOl hp ho hop hoq hf hf2 hh hm x68 x69 x70 (k - p + 1) (by omega)
      have e1 : p + (k - p + 1) = k + 1 := by omega
      rw [e1] at r; exact r
  have hnx := nW_x (S := S) (o := ord (sT S) N) (f := f) (p := p) (X := xN S (ord (sT S) N) f h m p) (N - p) 0
  have ex0 : xSt S (ord (sT S) N) f p (xN S (ord (sT S) N) f h m p) 0 = xN S (ord (sT S) N) f h m p := rfl
  rw [ex0, Nat.add_zero] at hnx
  unfold FRr FRc
  rw [hnew, hnx]
  refine and_congr_right (fun _ => and_congr_right (fun _ => ⟨fun z => ?_, fun z => ?_⟩))
  · intro i _ h2 h3
    have k := (hold (p + i) (by omega)).2 (by omega)
    have k2 := k.2 h3
    have hok := hO.1 (p + i) (by omega)
    have zz := z (ord (sT S) N (p + i)) hok.1
    rw [k2] at zz
    have e1 : p + i - p + 1 = i + 1 := by omega
    rw [e1] at zz
    have e2 : sP S N (ord (sT S) N (p + i)) = oP S (ord (sT S) N) (p + i) := by unfold sP; rw [hok.2]
    rw [e2] at zz
    exact zz
  · intro i hi
    have hoi := hO.2 i hi
    have k := hold (cnt (sT S) i N) hoi.1
    rw [hoi.2] at k
    by_cases y : cnt (sT S) i N < p
    · rw [k.1 y]; exact ⟨Int.le_refl _, Int.le_refl _⟩
    · by_cases x : S (68 + 4 * i) = f
      · have k2 := (k.2 (by omega)).2 x
        have e1 : p + (cnt (sT S) i N - p) = cnt (sT S) i N := by omega
        have zz := z (cnt (sT S) i N - p) (by omega) (by omega) (by rw [e1, hoi.2]; exact x)
        rw [e1] at zz
        rw [k2]
        exact zz
      · rw [(k.2 (by omega)).1 x]; exact ⟨Int.le_refl _, Int.le_refl _⟩
end FRE2
