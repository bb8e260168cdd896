theorem cA_177 {μ μ1 : MU} (h : cA μ μ1) : μ1 177 = μ 177 ∧ μ1 176 = μ 176 := by
  have hb := pAt_b μ
  exact ⟨h.1 177 (by omega) (by omega), h.1 176 (by omega) (by omega)⟩
theorem cB_177 {μ μ1 : MU} {s' : Row} (h : cB μ μ1 s') : μ1 177 = μ 177 ∧ μ1 176 = μ 176 := by
  have hb := pAt_b μ
  exact ⟨h.1 177 (by omega) (by omega) (by omega), h.1 176 (by omega) (by omega) (by omega)⟩
theorem INV_3 {μ : MU} (hI : INV μ) : 0 ≤ μ 176 3 ∧ μ 176 3 ≤ 6 := by
  have h1 := hI.2.2.1.2.1
  have h2 := hI.2.2.1.1
  omega
section OPSS
variable {E : ME} {μ : MU}
theorem op40 (hI : INV μ) {a v : Int} : OPS E 40 [some (.inl a), some (.inl v)] 96 [some (.inl a), some (.inl v), none] μ := by
  have hw := hI.1
  have h3 := INV_3 hI
  unfold OPS
  refine cl40 hI ?_ ?_
  · intro p1 μ1 hA
    obtain ⟨e177, e176⟩ := cA_177 hA
    refine ⟨_, rfl, rfl, ?_⟩
    refine md96 (by rw [e177]; exact hw) (by rw [e176]; exact h3) ?_ ?_
    · intro _
      exact ⟨rfl, rfl, INV_ref hI hA (fun x hx => mUp_ne hx) (fun j hj => mUp_nj hj)⟩
    · intro z
      exact absurd z p1
  · intro p1 μ1 hB
    obtain ⟨e177, e176⟩ := cB_177 hB
    refine ⟨_, rfl, rfl, ?_⟩
    refine md96 (by rw [e177]; exact hw) (by rw [e176]; exact h3) ?_ ?_
    · intro z
      exact absurd p1 z
    · intro _ μ2 hR
      rw [e177]
      exact ⟨rfl, rfl, INV_keep hI (wf_set hw p1) hB hR⟩
theorem op41 (hI : INV μ) {r h t : Int} : OPS E 41 [some (.inl r), some (.inl h), some (.inl t)] 99 [some (.inl r), some (.inl h), some (.inl t), none] μ := by
  have hw := hI.1
  have h3 := INV_3 hI
  unfold OPS
  refine cl41 hI ?_ ?_
  · intro p1 μ1 hA
    obtain ⟨e177, e176⟩ := cA_177 hA
    refine ⟨_, rfl, rfl, ?_⟩
    refine md99 (by rw [e177]; exact hw) (by rw [e176]; exact h3) ?_ ?_
    · intro _
      rw [e177]; exact ⟨rfl, rfl, INV_ref hI hA (fun x hx => mUp_ne hx) (fun j hj => mUp_nj hj)⟩
    · intro z
      rw [e177] at z; exact absurd z p1
  · intro p1 μ1 hB
    obtain ⟨e177, e176⟩ := cB_177 hB
    refine ⟨_, rfl, rfl, ?_⟩
    refine md99 (by rw [e177]; exact hw) (by rw [e176]; exact h3) ?_ ?_
    · intro z
      rw [e177] at z; exact absurd p1 z
    · intro _ μ2 hR
      rw [e177]
      exact ⟨rfl, rfl, INV_keep hI (wf_film hw p1) hB hR⟩
theorem op42 (hI : INV μ) {a b m : Int} : OPS E 42 [some (.inl a), some (.inl b), some (.inl m)] 102 [some (.inl a), some (.inl b), some (.inl m), none] μ := by
  have hw := hI.1
  have h3 := INV_3 hI
  unfold OPS
  refine cl42 hI ?_ ?_
  · intro p1 μ1 hA
    obtain ⟨e177, e176⟩ := cA_177 hA
    refine ⟨_, rfl, rfl, ?_⟩
    refine md102 (by rw [e176]; exact h3) ?_ ?_
    · intro _
      exact ⟨rfl, rfl, INV_ref hI hA (fun x hx => mUp_ne hx) (fun j hj => mUp_nj hj)⟩
    · intro z
      exact absurd z p1
  · intro p1 μ1 hB
    obtain ⟨e177, e176⟩ := cB_177 hB
    refine ⟨_, rfl, rfl, ?_⟩
    refine md102 (by rw [e176]; exact h3) ?_ ?_
    · intro z
      exact absurd p1 z
    · intro _ μ2 hR
      rw [e177]
      exact ⟨rfl, rfl, INV_keep hI (wf_way hw p1) hB hR⟩
theorem op43 (hI : INV μ) {f h m t : Int} : OPS E 43 [some (.inl f), some (.inl h), some (.inl m), some (.inl t)] 105 [some (.inl f), some (.inl h), some (.inl m), some (.inl t), none] μ := by
  have hw := hI.1
  have h3 := INV_3 hI
  unfold OPS
  refine cl43 hI ?_ ?_
  · intro p1 μ1 hA
    obtain ⟨e177, e176⟩ := cA_177 hA
    refine ⟨_, rfl, rfl, ?_⟩
    refine md105 (by rw [e177]; exact hw) (by rw [e176]; exact h3) ?_ ?_
    · intro _
      rw [e177]; exact ⟨rfl, rfl, INV_ref hI hA (fun x hx => mUp_ne hx) (fun j hj => mUp_nj hj)⟩
    · intro z
      rw [e177] at z; exact absurd z p1
  · intro p1 μ1 hB
    obtain ⟨e177, e176⟩ := cB_177 hB
    refine ⟨_, rfl, rfl, ?_⟩
    refine md105 (by rw [e177]; exact hw) (by rw [e176]; exact h3) ?_ ?_
    · intro z
      rw [e177] at z; exact absurd p1 z
    · intro _ μ2 hR
      rw [e177]
      exact ⟨rfl, rfl, INV_keep hI (wf_show hw p1) hB hR⟩
theorem op44 (hI : INV μ) {k : Int} : OPS E 44 [some (.inl k)] 107 [some (.inl k)] μ := by
  have hw := hI.1
  have h3 := INV_3 hI
  unfold OPS
  refine cl44 hI ?_ ?_
  · intro p1 μ1 hA
    obtain ⟨e177, e176⟩ := cA_177 hA
    refine ⟨_, rfl, rfl, ?_⟩
    refine md107 (by rw [e177]; exact hw) (by rw [e176]; exact h3) ?_ ?_
    · intro _
      exact ⟨rfl, rfl, INV_ref hI hA (fun x hx => mUp_ne hx) (fun j hj => mUp_nj hj)⟩
    · intro z
      rw [e177] at z; exact absurd z p1
  · intro p1 μ1 hB
    obtain ⟨e177, e176⟩ := cB_177 hB
    refine ⟨_, rfl, rfl, ?_⟩
    refine md107 (by rw [e177]; exact hw) (by rw [e176]; exact h3) ?_ ?_
    · intro z
      rw [e177] at z; exact absurd p1 z
    · intro _ μ2 hR
      rw [e177]
      exact ⟨rfl, rfl, INV_keep hI (wf_drop hw p1) hB hR⟩
theorem op45 (hI : INV μ) {f r m : Int} : OPS E 45 [some (.inl f), some (.inl r), some (.inl m)] 110 [some (.inl f), some (.inl r), some (.inl m), none, none] μ := by
  have hw := hI.1
  have h3 := INV_3 hI
  unfold OPS
  refine cl45 hI ?_ ?_
  · intro p1 μ1 hA
    obtain ⟨e177, e176⟩ := cA_177 hA
    refine ⟨_, rfl, rfl, ?_⟩
    refine md110 (by rw [e177]; exact hw) (by rw [e176]; exact h3) ?_ ?_
    · intro _
      rw [e177]; exact ⟨rfl, rfl, INV_ref hI hA (fun x hx => mUp_ne hx) (fun j hj => mUp_nj hj)⟩
    · intro z
      rw [e177] at z; exact absurd z p1
  · intro p1 μ1 hB
    obtain ⟨e177, e176⟩ := cB_177 hB
    refine ⟨_, rfl, rfl, ?_⟩
    refine md110 (by rw [e177]; exact hw) (by rw [e176]; exact h3) ?_ ?_
    · intro z
      rw [e177] at z; exact absurd p1 z
    · intro _ μ2 hR
      rw [e177]
      exact ⟨rfl, rfl, INV_keep hI (wf_tear hw (rTear0 p1).1 (by have := (rTear0 p1).2; omega)) hB hR⟩
theorem op46 (hI : INV μ) {f r : Int} : OPS E 46 [some (.inl f), some (.inl r)] 111 [some (.inl f), some (.inl r), none] μ := by
  have hw := hI.1
  have h3 := INV_3 hI
  unfold OPS
  refine cl46 hI ?_ ?_ ?_
  · intro p1 μ1 hA
    obtain ⟨e177, e176⟩ := cA_177 hA
    refine ⟨_, rfl, rfl, ?_⟩
    refine md111 (by rw [e177]; exact hw) (by rw [e176]; exact h3) ?_ ?_ ?_
    · intro _
      exact ⟨rfl, rfl, INV_ref hI hA (fun x hx => mUp_ne hx) (fun j hj => mUp_nj hj)⟩
    · intro z
      rw [e177] at z; exact absurd z p1
    · intro z
      rw [e177] at z; exact absurd z p1
  · intro p1 p2 μ1 hA
    obtain ⟨e177, e176⟩ := cA_177 hA
    refine ⟨_, rfl, rfl, ?_⟩
    refine md111 (by rw [e177]; exact hw) (by rw [e176]; exact h3) ?_ ?_ ?_
    · intro z
      rw [e177] at z; exact absurd p1 z
    · intro _ _
      exact ⟨rfl, rfl, INV_ref hI hA (fun x hx => mUp_ne hx) (fun j hj => mUp_nj hj)⟩
    · intro _ z
      rw [e177] at z; exact absurd p2 z
  · intro p1 p2 μ1 hB
    obtain ⟨e177, e176⟩ := cB_177 hB
    refine ⟨_, rfl, rfl, ?_⟩
    refine md111 (by rw [e177]; exact hw) (by rw [e176]; exact h3) ?_ ?_ ?_
    · intro z
      rw [e177] at z; exact absurd p1 z
    · intro _ z
      rw [e177] at z; exact absurd z p2
    · intro _ _ μ2 hR
      rw [e177]
      exact ⟨rfl, rfl, INV_keep hI (wf_tear hw p1 (by omega)) hB hR⟩
end OPSS
