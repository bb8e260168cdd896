def sP (S : Row) (N i : Nat) : MU := oP S (ord (sT S) N) (cnt (sT S) i N)
section QUE
variable {E : ME} {Q : Option MV → MG → MU → Prop} {S : Row} {μ : MU}
theorem sP_q (hw : wfR S) {N : Nat} (hN : S 6 = N) {i : Nat} (hi : i < N) : okM S i (sP S N i 5 2) ∧ (0 ≤ sP S N i 5 0 ∧ sP S N i 5 0 ≤ 2219) ∧ (0 ≤ sP S N i 5 1 ∧ sP S N i 5 1 ≤ 360) ∧ (0 ≤ sP S N i 5 3 ∧ sP S N i 5 3 ≤ 6) := by
  have hO := isO_ord (T := sT S) N
  have h := hO.2 i hi
  have q := oP_q hw hN hO h.1
  rw [h.2] at q
  exact q
theorem CZ_s {N : Nat} (h : CZ μ S N) {i : Nat} (hi : i < N) : μ 14 i = (cnt (sT S) i N : Nat) ∧ μ 15 i = sP S N i 5 0 ∧ μ 16 i = sP S N i 5 1 ∧ μ 17 i = sP S N i 5 2 ∧ (∀ r : Nat, (r : Int) < S (23 + 9 * fmF S i) → μ 18 (6 * i + r) = sP S N i 3 r) ∧ μ 19 i = tkn S i ∧ μ 20 i = kpt S i (sP S N i 5 2) ∧ μ 21 i = rnt S i (sP S N i 5 2) := by
  have hO := isO_ord (T := sT S) N
  have h1 := hO.2 i hi
  have q := h.2.2 _ h1.1
  unfold RY at q
  rw [h1.2] at q
  exact q
theorem MZ_s {N : Nat} (h : MZ μ S N) {i : Nat} (hi : i < N) : μ 183 i = sP S N i 5 0 ∧ μ 184 i = sP S N i 5 1 ∧ μ 185 i = sP S N i 5 2 ∧ ∀ r : Nat, (r : Int) < S (23 + 9 * fmF S i) → μ 186 (6 * i + r) = sP S N i 3 r ∧ (¬ sP S N i 3 r = -6 → μ 187 (6 * i + r) = sP S N i 4 r) := by
  have hO := isO_ord (T := sT S) N
  have h1 := hO.2 i hi
  have q := h.2.2.2 _ h1.1
  unfold RZ at q
  rw [h1.2] at q
  exact q
theorem inv_q (hI : INV μ) : ∃ (S : Row) (N F : Nat), μ 177 = S ∧ S 6 = N ∧ N ≤ 20 ∧ wfR S ∧ wf S ∧ cRel μ 1 S ∧ S 5 = F ∧ F ≤ 5 := by
  have h6 := hI.1.1.2.2.2.2.2.2
  have h5 := hI.1.1.2.2.2.2.2.1
  obtain ⟨N, hN⟩ := Int.eq_ofNat_of_zero_le h6.1
  obtain ⟨F, hF⟩ := Int.eq_ofNat_of_zero_le h5.1
  exact ⟨μ 177, N, F, rfl, hN, by omega, wf_wfR hI.1, hI.1, hI.2.1, hF, by omega⟩
theorem RS_0 (hw : wf S) (hS : μ 177 = S) (h15 : μ 176 15 = 0) : RS μ S := by
  subst hS
  refine ⟨fun i _ => rfl, fun a b ha hb hab => by rw [h15, Int.add_zero], by rw [h15]; omega, fun a b ha hb => (hw.2.1 a b ha hb).2⟩
theorem cq (hI : INV μ) (hS : μ 177 = S) {N : Nat} (hN : S 6 = N) (hQ : ∀ μ1 : MU, (∀ x, ¬ (13 ≤ x ∧ x ≤ 48) → μ1 x = μ x) → INV μ1 → μ1 177 = S → cRel μ1 1 S → CZ μ1 S N → Q none G0 μ1) :
    Wp E 28 0 [some (.inr (.inr (.inl 12))), some (.inr (.inr (.inl 1))), none] [] G0 μ Q := by
  have hw : wf S := by rw [← hS]; exact hI.1
  have hc : cRel μ 1 S := by rw [← hS]; exact hI.2.1
  have h6 := hw.1.2.2.2.2.2.2
  refine ct28 gC1 hc (wf_wfR hw) hN (by omega) (fun μ1 k1 k2 => ?_)
  refine hQ μ1 k1 (INV_fr hI ⟨fun x hx => k1 x (by omega), by rw [k1 128 (by omega)], by rw [k1 176 (by omega)], by rw [k1 176 (by omega)]⟩) (by rw [k1 177 (by omega)]; exact hS) (cRel_fr (fun x p1 p2 => k1 x (by omega)) hc) k2
theorem rq (hI : INV μ) (hS : μ 177 = S) {N : Nat} (hN : S 6 = N) (hQ : ∀ μ2 : MU, (∀ x, x < 176 → μ2 x = μ x) → INV μ2 → μ2 177 = S → RS μ2 S → MZ μ2 S N → Q none G0 μ2) :
    Wp E 89 0 [some (.inr (.inr (.inl 176))), some (.inl 0), none, none] [] G0 (mUp μ 176 0 0) Q := by
  have hw : wf S := by rw [← hS]; exact hI.1
  have hR : RS (mUp (mUp μ 176 0 0) 176 15 0) S := RS_0 hw (by rw [mUp_ne (by omega), mUp_ne (by omega)]; exact hS) (by rw [mUp_eq])
  refine ct89 hR (wf_wfR hw) hN (fun μ2 k1 k2 k3 k4 => ?_)
  have g : ∀ x, ¬ x = 176 → ¬ (182 ≤ x ∧ x ≤ 191) → μ2 x = μ x := fun x z1 z2 => by rw [k1 x z1 z2, mUp_ne z1]
  have g2 : ∀ i, ¬ i = 15 → ¬ i = 0 → μ2 176 i = μ 176 i := fun i z1 z2 => by rw [k2 i z1, mUp_nj z2]
  refine hQ μ2 (fun x hx => g x (by omega) (by omega)) (INV_fr hI ⟨fun x hx => g x (by omega) (by omega), by rw [g 128 (by omega) (by omega)], g2 3 (by omega) (by omega), g2 7 (by omega) (by omega)⟩) (by rw [g 177 (by omega) (by omega)]; exact hS) k4.1 k4
theorem sumF {μ1 μ2 : MU} {N : Nat} {a w : Int} {g : Nat → Int} (ha : ¬ a = -6) (h1 : ∀ i, i < N → μ1 8 i = S (68 + 4 * i)) (h2 : ∀ i, i < N → g i = itV S μ2 w i) : sm (fun i => if cOv S a (-6) i then itV S μ2 w i else 0) N = sm (fun i => if μ1 8 i = a then g i else 0) N := by
  refine sm_c N (fun i hi => ?_)
  show (if cOv S a (-6) i then itV S μ2 w i else 0) = (if μ1 8 i = a then g i else 0)
  rw [h1 i hi, h2 i hi]
  by_cases q : S (68 + 4 * i) = a
  · rw [if_pos q, if_pos ⟨Or.inr q, Or.inl rfl⟩]
  · rw [if_neg q, if_neg (fun z => z.1.elim ha q)]
theorem sumH {μ1 μ2 : MU} {N : Nat} {a w : Int} {g : Nat → Int} (ha : ¬ a = -6) (h1 : ∀ i, i < N → μ1 9 i = S (69 + 4 * i)) (h2 : ∀ i, i < N → g i = itV S μ2 w i) : sm (fun i => if cOv S (-6) a i then itV S μ2 w i else 0) N = sm (fun i => if μ1 9 i = a then g i else 0) N := by
  refine sm_c N (fun i hi => ?_)
  show (if cOv S (-6) a i then itV S μ2 w i else 0) = (if μ1 9 i = a then g i else 0)
  rw [h1 i hi, h2 i hi]
  by_cases q : S (69 + 4 * i) = a
  · rw [if_pos q, if_pos ⟨Or.inl rfl, Or.inr q⟩]
  · rw [if_neg q, if_neg (fun z => z.2.elim ha q)]
theorem sumA {μ2 : MU} {N : Nat} {w : Int} {g : Nat → Int} (h2 : ∀ i, i < N → g i = itV S μ2 w i) : sm (fun i => if cOv S (-6) (-6) i then itV S μ2 w i else 0) N = sm g N := by
  refine sm_c N (fun i hi => ?_)
  show (if cOv S (-6) (-6) i then itV S μ2 w i else 0) = g i
  rw [h2 i hi, if_pos ⟨Or.inl rfl, Or.inl rfl⟩]
theorem MZ_v (hw : wfR S) {N : Nat} (hN : S 6 = N) (h : MZ μ S N) : ∀ i, i < N → okM S i (μ 185 i) ∧ 0 ≤ μ 184 i ∧ μ 184 i ≤ 98901 := by
  intro i hi
  have q := sP_q hw hN hi
  obtain ⟨z1, z2, z3, z4⟩ := MZ_s h hi
  rw [z2, z3]
  exact ⟨q.1, by omega, by omega⟩
theorem CZ_b (hw : wfR S) {N : Nat} (hN : S 6 = N) (h : CZ μ S N) : ∀ i, i < N → (0 ≤ μ 16 i ∧ μ 16 i ≤ 98901) ∧ (0 ≤ μ 17 i ∧ μ 17 i < 64) ∧ (0 ≤ μ 20 i ∧ μ 20 i ≤ 98901) ∧ (0 ≤ μ 21 i ∧ μ 21 i ≤ 98901) := by
  intro i hi
  have h6 := hw.1.2.2.2.2.2.2
  have q := sP_q hw hN hi
  obtain ⟨f1, f2, _⟩ := fmF_lt hw (k := i) (by omega) (by omega)
  have h2 := (hw.2.2.1 _ f1 f2).1
  have h3 := (on_pd (by omega) q.1).1
  have h4 := nb_rn hw (k := i) (by omega) (by omega) q.1
  obtain ⟨z1, z2, z3, z4, z5, z6, z7, z8⟩ := CZ_s h hi
  rw [z3, z4, z7, z8]
  exact ⟨by omega, h3, h4.1, h4.2.2⟩
theorem CZ_it {μ1 μ2 : MU} {N : Nat} (h1 : CZ μ1 S N) (h2 : MZ μ2 S N) : ∀ i, i < N → itV S μ2 0 i = 1 ∧ μ1 20 i = itV S μ2 1 i ∧ μ1 21 i = itV S μ2 2 i ∧ μ1 16 i = itV S μ2 3 i ∧ on (μ1 17 i) = itV S μ2 4 i := by
  intro i hi
  obtain ⟨z1, z2, z3, z4, z5, z6, z7, z8⟩ := CZ_s h1 hi
  obtain ⟨y1, y2, y3, y4⟩ := MZ_s h2 hi
  refine ⟨rfl, ?_, ?_, ?_, ?_⟩
  · show _ = kpt S i (μ2 185 i); rw [y3]; exact z7
  · show _ = rnt S i (μ2 185 i); rw [y3]; exact z8
  · show _ = μ2 184 i; rw [y2]; exact z3
  · show _ = on (μ2 185 i); rw [y3, z4]
end QUE
