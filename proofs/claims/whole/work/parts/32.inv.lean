/-! WHAT THE CLASS AND THE REFERENCE SHARE: a row s of 148 numbers, as the reference keeps it -/
abbrev Row : Type := Nat → Int
def wf (s : Row) : Prop :=
  ((1 ≤ s 0 ∧ s 0 ≤ 60) ∧ (0 ≤ s 1 ∧ s 1 ≤ 60) ∧ (0 ≤ s 2 ∧ s 2 ≤ 60) ∧ (0 ≤ s 3 ∧ s 3 ≤ 9) ∧ (0 ≤ s 4 ∧ s 4 ≤ 99) ∧ (0 ≤ s 5 ∧ s 5 ≤ 5) ∧ (0 ≤ s 6 ∧ s 6 ≤ 20)) ∧
  (∀ a b : Nat, a < 4 → b < 4 → (a = b → s (7 + (4 * a + b)) = 0) ∧ (0 ≤ s (7 + (4 * a + b)) ∧ s (7 + (4 * a + b)) ≤ 99)) ∧
  (∀ f : Nat, f < 5 → (f : Int) < s 5 → (1 ≤ s (23 + 9 * f) ∧ s (23 + 9 * f) ≤ 6) ∧ (0 ≤ s (24 + 9 * f) ∧ s (24 + 9 * f) ≤ 3) ∧ (0 ≤ s (25 + 9 * f) ∧ s (25 + 9 * f) ≤ 100) ∧ ∀ r : Nat, r < 6 → (0 ≤ s (26 + 9 * f + r) ∧ s (26 + 9 * f + r) ≤ 1440) ∧ (s (23 + 9 * f) ≤ r → s (26 + 9 * f + r) = 0)) ∧
  (∀ k : Nat, k < 20 → (k : Int) < s 6 → (0 ≤ s (68 + 4 * k) ∧ s (68 + 4 * k) < s 5) ∧ (0 ≤ s (69 + 4 * k) ∧ s (69 + 4 * k) ≤ 3) ∧ (0 ≤ s (70 + 4 * k) ∧ s (70 + 4 * k) ≤ 1439) ∧ (0 ≤ s (71 + 4 * k) ∧ s (71 + 4 * k) ≤ 999))
/-- a circuit of the class at the place c holds the row s -/
def cRel (μ : MU) (c : Nat) (s : Row) : Prop :=
  (∀ i : Nat, i < 5 → μ (c + 1) i = s i) ∧ μ c 2 = s 5 ∧ μ c 7 = s 6 ∧ (∀ i : Nat, i < 16 → μ (c + 2) i = s (7 + i)) ∧
  (∀ f : Nat, f < 5 → (f : Int) < s 5 → μ (c + 3) f = s (23 + 9 * f) ∧ μ (c + 4) f = s (24 + 9 * f) ∧ μ (c + 5) f = s (25 + 9 * f)) ∧
  (∀ f r : Nat, f < 5 → r < 6 → μ (c + 6) (6 * f + r) = if (f : Int) < s 5 ∧ ¬ s (26 + 9 * f + r) = 0 then s (26 + 9 * f + r) - 1 else -6) ∧
  (∀ k : Nat, k < 20 → (k : Int) < s 6 → μ (c + 7) k = s (68 + 4 * k) ∧ μ (c + 8) k = s (69 + 4 * k) ∧ μ (c + 9) k = s (70 + 4 * k) ∧ μ (c + 10) k = s (71 + 4 * k))
def hRow (μ : MU) (j : Nat) : Row := fun i => μ 178 (148 * j + i)
def lRow (μ : MU) (j : Nat) : Row := fun i => μ 179 (148 * j + i)
def rAt (μ : MU) (j : Nat) : Nat := 51 + 11 * (((μ 49 1).toNat + j) % 7)
def hRel (μ : MU) : Prop := (0 ≤ μ 49 2 ∧ μ 49 2 ≤ 6) ∧ μ 176 3 = μ 49 2 ∧ (0 ≤ μ 49 1 ∧ μ 49 1 ≤ 6) ∧ ∀ j : Nat, j < 6 → (j : Int) < μ 49 2 → cRel μ (rAt μ j) (hRow μ j) ∧ wf (hRow μ j)
def lRel (μ : MU) : Prop := ∀ i : Nat, i < 2 → (μ 132 i = 0 ∨ μ 132 i = 1) ∧ μ 180 i = μ 132 i ∧ (μ 132 i = 1 → cRel μ (154 + 11 * i) (lRow μ i) ∧ wf (lRow μ i))
def pRel (μ : MU) : Prop := (0 ≤ μ 128 2 ∧ μ 128 2 ≤ 80) ∧ μ 176 7 = μ 128 2 ∧ ∀ i : Nat, i < 80 → (i : Int) < μ 128 2 → μ 129 i = μ 181 i ∧ 33 ≤ μ 129 i ∧ μ 129 i ≤ 126
def INV (μ : MU) : Prop := wf (μ 177) ∧ cRel μ 1 (μ 177) ∧ hRel μ ∧ lRel μ ∧ pRel μ
theorem cRel_fr {μ μ' : MU} {c : Nat} {s : Row} (h : ∀ x, c ≤ x → x ≤ c + 10 → μ' x = μ x) (hc : cRel μ c s) : cRel μ' c s := by
  unfold cRel
  rw [h c (by omega) (by omega), h (c + 1) (by omega) (by omega), h (c + 2) (by omega) (by omega), h (c + 3) (by omega) (by omega), h (c + 4) (by omega) (by omega), h (c + 5) (by omega) (by omega), h (c + 6) (by omega) (by omega), h (c + 7) (by omega) (by omega), h (c + 8) (by omega) (by omega), h (c + 9) (by omega) (by omega), h (c + 10) (by omega) (by omega)]
  exact hc
/-- what INV reads stays -/
def frI (μ μ' : MU) : Prop := (∀ x, (1 ≤ x ∧ x ≤ 11) ∨ (49 ≤ x ∧ x ≤ 127) ∨ x = 129 ∨ x = 132 ∨ (154 ≤ x ∧ x ≤ 175) ∨ (177 ≤ x ∧ x ≤ 181) → μ' x = μ x) ∧ μ' 128 2 = μ 128 2 ∧ μ' 176 3 = μ 176 3 ∧ μ' 176 7 = μ 176 7
theorem frI_refl (μ : MU) : frI μ μ := ⟨fun _ _ => rfl, rfl, rfl, rfl⟩
theorem frI_trans {a b c : MU} (h1 : frI a b) (h2 : frI b c) : frI a c := ⟨fun x hx => (h2.1 x hx).trans (h1.1 x hx), h2.2.1.trans h1.2.1, h2.2.2.1.trans h1.2.2.1, h2.2.2.2.trans h1.2.2.2⟩
theorem INV_fr {μ μ' : MU} (h : INV μ) (hf : frI μ μ') : INV μ' := by
  obtain ⟨hw, hc, hh, hl, hp⟩ := h
  obtain ⟨f1, f2, f3, f4⟩ := hf
  have e177 : μ' 177 = μ 177 := f1 177 (by omega)
  have e178 : μ' 178 = μ 178 := f1 178 (by omega)
  have e179 : μ' 179 = μ 179 := f1 179 (by omega)
  have e49 : μ' 49 = μ 49 := f1 49 (by omega)
  have eh : ∀ j, hRow μ' j = hRow μ j := fun j => by unfold hRow; rw [e178]
  have el : ∀ j, lRow μ' j = lRow μ j := fun j => by unfold lRow; rw [e179]
  have er : ∀ j, rAt μ' j = rAt μ j := fun j => by unfold rAt; rw [e49]
  refine ⟨by rw [e177]; exact hw, by rw [e177]; exact cRel_fr (fun x hq1 hq2 => f1 x (by omega)) hc, ?_, ?_, ?_⟩
  · unfold hRel
    rw [e49, f3]
    refine ⟨hh.1, hh.2.1, hh.2.2.1, fun j hj hj2 => ?_⟩
    obtain ⟨hq1, hq2⟩ := hh.2.2.2 j hj hj2
    rw [eh, er]
    refine ⟨cRel_fr (fun x hq3 hq4 => f1 x ?_) hq1, hq2⟩
    have : ((μ 49 1).toNat + j) % 7 < 7 := Nat.mod_lt _ (by omega)
    unfold rAt at hq3 hq4
    omega
  · intro i hi
    rw [f1 132 (by omega), f1 180 (by omega), el]
    obtain ⟨hq1, hq2, hq3⟩ := hl i hi
    exact ⟨hq1, hq2, fun z => ⟨cRel_fr (fun x hq4 hq5 => f1 x (by omega)) (hq3 z).1, (hq3 z).2⟩⟩
  · unfold pRel
    rw [f2, f4, f1 129 (by omega), f1 181 (by omega)]
    exact hp
/-- an operation: the class answers a number, the reference the same, and what they share stands -/
def OPS (E : ME) (yc : Nat) (l1 : MLs) (ym : Nat) (l2 : MLs) (μ : MU) : Prop :=
  Wp E yc 0 (some (.inr (.inr (.inl 0))) :: l1) [] G0 μ (fun r g μ1 => ∃ v : Int, r = some (.inl v) ∧ g = G0 ∧ Wp E ym 0 (some (.inr (.inr (.inl 176))) :: l2) [] G0 μ1 (fun r' g' μ2 => r' = some (.inl v) ∧ g' = G0 ∧ INV μ2))
