/-! THE ORDER OF THE SHOWS: by insertion, and by counting those ahead -/
def pIn (T : Nat → Int) (o : Nat → Nat) (q : Int) : Nat → Nat
  | 0 => 0
  | b + 1 => if q < T (o b) then pIn T o q b else b + 1
def ins (o : Nat → Nat) (p m : Nat) : Nat → Nat := fun k => if k < p then o k else if k = p then m else o (k - 1)
def ord (T : Nat → Int) : Nat → (Nat → Nat)
  | 0 => fun _ => 0
  | m + 1 => ins (ord T m) (pIn T (ord T m) (T m) m) m
def cnt (T : Nat → Int) (s : Nat) : Nat → Nat
  | 0 => 0
  | m + 1 => cnt T s m + (if T m < T s ∨ (T m = T s ∧ m < s) then 1 else 0)
def num (g : Nat → Nat) (p : Nat) : Nat → Nat
  | 0 => 0
  | m + 1 => num g p m + (if g m < p then 1 else 0)
def nue (g : Nat → Nat) (p : Nat) : Nat → Nat
  | 0 => 0
  | m + 1 => nue g p m + (if g m = p then 1 else 0)
theorem num_s {g : Nat → Nat} {p : Nat} : ∀ m, num g (p + 1) m = num g p m + nue g p m := by
  intro m
  induction m with
  | zero => rfl
  | succ m ih =>
    simp only [num, nue]; rw [ih]
    by_cases a : g m < p
    · rw [if_pos a, if_pos (by omega), if_neg (by omega)]; omega
    · by_cases b : g m = p
      · rw [if_neg a, if_pos b, if_pos (by omega)]; omega
      · rw [if_neg a, if_neg b, if_neg (by omega)]; omega
theorem num_0 {g : Nat → Nat} : ∀ m, num g 0 m = 0 := by
  intro m
  induction m with
  | zero => rfl
  | succ m ih => simp only [num]; rw [ih, if_neg (by omega)]
theorem num_p {o g : Nat → Nat} {n : Nat} (hA : ∀ k, k < n → o k < n ∧ g (o k) = k) (hB : ∀ s, s < n → g s < n ∧ o (g s) = s) : ∀ p, p ≤ n → num g p n = p := by
  intro p
  induction p with
  | zero => intro _; exact num_0 n
  | succ p ih =>
    intro hp
    have e : ∀ j, j ≤ n → nue g p j = if o p < j then 1 else 0 := by
      intro j
      induction j with
      | zero => intro _; rw [if_neg (by omega)]; rfl
      | succ j ij =>
        intro hj
        simp only [nue]; rw [ij (by omega)]
        have a1 := hA p (by omega)
        have a2 := hB j (by omega)
        by_cases c : g j = p
        · have d : o p = j := by rw [← c]; exact a2.2
          rw [if_pos c, if_neg (by omega), if_pos (by omega)]
        · have d : ¬ o p = j := fun z => c (by rw [← z]; exact a1.2)
          rw [if_neg c]
          by_cases e : o p < j
          · rw [if_pos e, if_pos (by omega)]
          · rw [if_neg e, if_neg (by omega)]
    rw [num_s, ih (by omega), e n (by omega), if_pos (hA p (by omega)).1]
theorem cnt_mono {T : Nat → Int} {a b : Nat} (h : T a < T b) : ∀ m, cnt T a m ≤ cnt T b m := by
  intro m
  induction m with
  | zero => exact Nat.le_refl _
  | succ m ih =>
    simp only [cnt]
    by_cases c : T m < T a ∨ (T m = T a ∧ m < a)
    · rw [if_pos c, if_pos (by omega)]; omega
    · rw [if_neg c]; omega
theorem cnt_le {T : Nat → Int} {a : Nat} : ∀ m, cnt T a m ≤ m := by
  intro m
  induction m with
  | zero => exact Nat.le_refl _
  | succ m ih =>
    simp only [cnt]
    by_cases c : T m < T a ∨ (T m = T a ∧ m < a)
    · rw [if_pos c]; omega
    · rw [if_neg c]; omega
theorem pIn_le {T : Nat → Int} {o : Nat → Nat} {q : Int} : ∀ b, pIn T o q b ≤ b := by
  intro b
  induction b with
  | zero => exact Nat.le_refl _
  | succ b ih =>
    simp only [pIn]
    by_cases c : q < T (o b)
    · rw [if_pos c]; omega
    · rw [if_neg c]; exact Nat.le_refl _
theorem pIn_hi {T : Nat → Int} {o : Nat → Nat} {q : Int} : ∀ b k, pIn T o q b ≤ k → k < b → q < T (o k) := by
  intro b
  induction b with
  | zero => intro k _ h; omega
  | succ b ih =>
    intro k h1 h2
    simp only [pIn] at h1
    by_cases c : q < T (o b)
    · rw [if_pos c] at h1
      by_cases e : k = b
      · subst e; exact c
      · exact ih k h1 (by omega)
    · rw [if_neg c] at h1; omega
theorem pIn_lo {T : Nat → Int} {o : Nat → Nat} {q : Int} : ∀ b, 0 < pIn T o q b → T (o (pIn T o q b - 1)) ≤ q := by
  intro b
  induction b with
  | zero => intro h; simp only [pIn] at h; omega
  | succ b ih =>
    simp only [pIn]
    by_cases c : q < T (o b)
    · rw [if_pos c]; exact ih
    · rw [if_neg c]; intro _; show T (o (b + 1 - 1)) ≤ q; rw [Nat.add_sub_cancel]; omega
/-- an order of the first m shows -/
def isO (T : Nat → Int) (o : Nat → Nat) (m : Nat) : Prop := (∀ k, k < m → o k < m ∧ cnt T (o k) m = k) ∧ (∀ s, s < m → cnt T s m < m ∧ o (cnt T s m) = s)
theorem isO_sorted {T : Nat → Int} {o : Nat → Nat} {m : Nat} (h : isO T o m) {k k' : Nat} (hk : k < k') (hk' : k' < m) : T (o k) ≤ T (o k') := by
  have a1 := h.1 k (by omega)
  have a2 := h.1 k' hk'
  by_cases c : T (o k') < T (o k)
  · have := cnt_mono c m; omega
  · omega
theorem isO_cut {T : Nat → Int} {o : Nat → Nat} {m : Nat} (h : isO T o m) {q : Int} : ∀ k, k < pIn T o q m → T (o k) ≤ q := by
  intro k hk
  have a1 := pIn_lo (T := T) (o := o) (q := q) m (by omega)
  have a2 := pIn_le (T := T) (o := o) (q := q) m
  by_cases c : k = pIn T o q m - 1
  · rw [c]; exact a1
  · have := isO_sorted h (k := k) (k' := pIn T o q m - 1) (by omega) (by omega); omega
theorem cnt_num {T : Nat → Int} {o : Nat → Nat} {m : Nat} (h : isO T o m) : ∀ j, j ≤ m → cnt T m j = num (fun s => cnt T s m) (pIn T o (T m) m) j := by
  intro j
  induction j with
  | zero => intro _; rfl
  | succ j ih =>
    intro hj
    simp only [cnt, num]
    rw [ih (by omega)]
    have b := h.2 j (by omega)
    by_cases c : cnt T j m < pIn T o (T m) m
    · have d := isO_cut h (q := T m) _ c
      rw [b.2] at d
      rw [if_pos c, if_pos (by omega)]
    · have d := pIn_hi (T := T) (o := o) (q := T m) m (cnt T j m) (by omega) b.1
      rw [b.2] at d
      rw [if_neg c, if_neg (by omega)]
theorem cnt_new {T : Nat → Int} {o : Nat → Nat} {m : Nat} (h : isO T o m) : cnt T m m = pIn T o (T m) m := by
  rw [cnt_num h m (Nat.le_refl _)]
  exact num_p h.1 h.2 _ (pIn_le m)
theorem isO_ins {T : Nat → Int} {o : Nat → Nat} {m : Nat} (h : isO T o m) : isO T (ins o (pIn T o (T m) m) m) (m + 1) := by
  have hn := cnt_new h
  have hle := pIn_le (T := T) (o := o) (q := T m) m
  have hcut := isO_cut h (q := T m)
  have hhi := pIn_hi (T := T) (o := o) (q := T m) m
  generalize pIn T o (T m) m = p at hn hle hcut hhi
  refine ⟨fun k hk => ?_, fun s hs => ?_⟩
  · unfold ins
    by_cases c1 : k < p
    · rw [if_pos c1]
      have a := h.1 k (by omega)
      have b := hcut k c1
      simp only [cnt]
      rw [a.2, if_neg (by omega)]
      omega
    · rw [if_neg c1]
      by_cases c2 : k = p
      · rw [if_pos c2]
        simp only [cnt]
        rw [hn, if_neg (by omega)]
        omega
      · rw [if_neg c2]
        have a := h.1 (k - 1) (by omega)
        have b := hhi (k - 1) (by omega) (by omega)
        simp only [cnt]
        rw [a.2, if_pos (by omega)]
        omega
  · simp only [cnt]
    by_cases c1 : s = m
    · subst c1
      rw [hn, if_neg (by omega)]
      refine ⟨by omega, ?_⟩
      unfold ins
      rw [if_neg (by omega), if_pos (by omega)]
    · have a := h.2 s (by omega)
      by_cases c2 : cnt T s m < p
      · have b := hcut _ c2
        rw [a.2] at b
        rw [if_neg (by omega)]
        refine ⟨by omega, ?_⟩
        unfold ins
        rw [if_pos (by omega)]
        exact a.2
      · have b := hhi _ (by omega) a.1
        rw [a.2] at b
        rw [if_pos (by omega)]
        refine ⟨by omega, ?_⟩
        unfold ins
        rw [if_neg (by omega), if_neg (by omega), Nat.add_sub_cancel]
        exact a.2
theorem isO_ord {T : Nat → Int} : ∀ m, isO T (ord T m) m := by
  intro m
  induction m with
  | zero => exact ⟨fun k hk => by omega, fun k hk => by omega⟩
  | succ m ih => exact isO_ins ih
/-- two orders of the same shows are one -/
theorem isO_one {T : Nat → Int} {o o' : Nat → Nat} {m : Nat} (h : isO T o m) (h' : isO T o' m) : ∀ k, k < m → o k = o' k := by
  intro k hk
  have a := h.1 k hk
  have b := h'.2 (o k) a.1
  rw [a.2] at b
  exact b.2.symm
theorem ord_T {T T' : Nat → Int} : ∀ m, (∀ s, s < m → T s = T' s) → ∀ k, k < m → ord T m k = ord T' m k := by
  have hp : ∀ (o o' : Nat → Nat) (q : Int) (m : Nat), ∀ b, (∀ k, k < b → o k < m) → (∀ s, s < m → T s = T' s) → (∀ k, k < b → o k = o' k) → pIn T o q b = pIn T' o' q b := by
    intro o o' q m b
    induction b with
    | zero => intro _ _ _; rfl
    | succ b ih =>
      intro h1 h2 h3
      simp only [pIn]
      rw [ih (fun k hk => h1 k (by omega)) h2 (fun k hk => h3 k (by omega)), h2 _ (h1 b (by omega)), h3 b (by omega)]
  intro m
  induction m with
  | zero => intro _ k hk; omega
  | succ m ih =>
    intro h k hk
    have i := ih (fun s hs => h s (by omega))
    simp only [ord]
    rw [hp (ord T m) (ord T' m) (T m) m m (fun k hk => ((isO_ord m).1 k hk).1) (fun s hs => h s (by omega)) i, h m (by omega)]
    have hle := pIn_le (T := T') (o := ord T' m) (q := T' m) m
    generalize pIn T' (ord T' m) (T' m) m = p at hle
    unfold ins
    by_cases c1 : k < p
    · rw [if_pos c1, if_pos c1]; exact i k (by omega)
    · rw [if_neg c1, if_neg c1]
      by_cases c2 : k = p
      · rw [if_pos c2, if_pos c2]
      · rw [if_neg c2, if_neg c2]; exact i (k - 1) (by omega)
