theorem k27_0 : mCode 27 0 = some (.aload_n 0, 1) := by decide +kernel
theorem x27_0 {E : ME} {ls : MLs} {st : List MV} {g : MG} {μ : MU} {Q : Option MV → MG → MU → Prop} {v : Nat ⊕ Nat} : Wp E 27 0 (some (.inr (.inr v)) :: ls) st g μ Q = Wp E 27 1 (some (.inr (.inr v)) :: ls) (.inr (.inr v) :: st) g μ Q := Wp_nx k27_0 rfl
theorem k27_1 : mCode 27 1 = some (.invokespecial 3, 3) := by decide +kernel
theorem x27_1 {E : ME} {ls : MLs} {st : List MV} {g : MG} {μ : MU} {Q : Option MV → MG → MU → Prop} {a : Nat} : Wp E 27 1 ls (.inr (.inr (.inl a)) :: st) g μ Q = (st.length ≤ 4 ∧ Wp E 27 4 ls st g μ Q) := Wp_oin k27_1 m3_3
theorem k27_4 : mCode 27 4 = some (.aload_n 0, 1) := by decide +kernel
theorem x27_4 {E : ME} {ls : MLs} {st : List MV} {g : MG} {μ : MU} {Q : Option MV → MG → MU → Prop} {v : Nat ⊕ Nat} : Wp E 27 4 (some (.inr (.inr v)) :: ls) st g μ Q = Wp E 27 5 (some (.inr (.inr v)) :: ls) (.inr (.inr v) :: st) g μ Q := Wp_nx k27_4 rfl
theorem k27_5 : mCode 27 5 = some (.bipush 20, 2) := by decide +kernel
theorem x27_5 {E : ME} {ls : MLs} {st : List MV} {g : MG} {μ : MU} {Q : Option MV → MG → MU → Prop} : Wp E 27 5 ls st g μ Q = Wp E 27 7 ls (.inl 20 :: st) g μ Q := Wp_nx k27_5 rfl
theorem k27_7 : mCode 27 7 = some (.newarray .int, 2) := by decide +kernel
theorem x27_7 {E : ME} {ls : MLs} {st : List MV} {g : MG} {μ : MU} {Q : Option MV → MG → MU → Prop} {n : Int} : Wp E 27 7 ls (.inl n :: st) g μ Q = ((0 ≤ n ∧ n < 2000) ∧ Wp E 27 9 ls (mR g.1 :: st) (mGrow g (10, n.toNat) n.toNat) (mZero μ g.1) Q) := Wp_newa k27_7 (fun _ => rfl)
theorem k27_9 : mCode 27 9 = some (.putfield 9, 3) := by decide +kernel
theorem x27_9 {E : ME} {ls : MLs} {st : List MV} {g : MG} {μ : MU} {Q : Option MV → MG → MU → Prop} {a b : Nat} : Wp E 27 9 ls (.inr (.inr (.inl b)) :: .inr (.inr (.inl a)) :: st) g μ Q = ((mKd g a).1 = 3 ∧ Wp E 27 12 ls st (mSetR g a 0 (some b)) μ Q) := Wp_putR k27_9 f3_9 (by decide) (by decide) (by decide)
theorem k27_12 : mCode 27 12 = some (.aload_n 0, 1) := by decide +kernel
theorem x27_12 {E : ME} {ls : MLs} {st : List MV} {g : MG} {μ : MU} {Q : Option MV → MG → MU → Prop} {v : Nat ⊕ Nat} : Wp E 27 12 (some (.inr (.inr v)) :: ls) st g μ Q = Wp E 27 13 (some (.inr (.inr v)) :: ls) (.inr (.inr v) :: st) g μ Q := Wp_nx k27_12 rfl
theorem k27_13 : mCode 27 13 = some (.bipush 20, 2) := by decide +kernel
theorem x27_13 {E : ME} {ls : MLs} {st : List MV} {g : MG} {μ : MU} {Q : Option MV → MG → MU → Prop} : Wp E 27 13 ls st g μ Q = Wp E 27 15 ls (.inl 20 :: st) g μ Q := Wp_nx k27_13 rfl
theorem k27_15 : mCode 27 15 = some (.newarray .int, 2) := by decide +kernel
theorem x27_15 {E : ME} {ls : MLs} {st : List MV} {g : MG} {μ : MU} {Q : Option MV → MG → MU → Prop} {n : Int} : Wp E 27 15 ls (.inl n :: st) g μ Q = ((0 ≤ n ∧ n < 2000) ∧ Wp E 27 17 ls (mR g.1 :: st) (mGrow g (10, n.toNat) n.toNat) (mZero μ g.1) Q) := Wp_newa k27_15 (fun _ => rfl)
theorem k27_17 : mCode 27 17 = some (.putfield 15, 3) := by decide +kernel
theorem x27_17 {E : ME} {ls : MLs} {st : List MV} {g : MG} {μ : MU} {Q : Option MV → MG → MU → Prop} {a b : Nat} : Wp E 27 17 ls (.inr (.inr (.inl b)) :: .inr (.inr (.inl a)) :: st) g μ Q = ((mKd g a).1 = 3 ∧ Wp E 27 20 ls st (mSetR g a 1 (some b)) μ Q) := Wp_putR k27_17 f3_15 (by decide) (by decide) (by decide)
theorem k27_20 : mCode 27 20 = some (.aload_n 0, 1) := by decide +kernel
theorem x27_20 {E : ME} {ls : MLs} {st : List MV} {g : MG} {μ : MU} {Q : Option MV → MG → MU → Prop} {v : Nat ⊕ Nat} : Wp E 27 20 (some (.inr (.inr v)) :: ls) st g μ Q = Wp E 27 21 (some (.inr (.inr v)) :: ls) (.inr (.inr v) :: st) g μ Q := Wp_nx k27_20 rfl
theorem k27_21 : mCode 27 21 = some (.bipush 20, 2) := by decide +kernel
theorem x27_21 {E : ME} {ls : MLs} {st : List MV} {g : MG} {μ : MU} {Q : Option MV → MG → MU → Prop} : Wp E 27 21 ls st g μ Q = Wp E 27 23 ls (.inl 20 :: st) g μ Q := Wp_nx k27_21 rfl
theorem k27_23 : mCode 27 23 = some (.newarray .int, 2) := by decide +kernel
theorem x27_23 {E : ME} {ls : MLs} {st : List MV} {g : MG} {μ : MU} {Q : Option MV → MG → MU → Prop} {n : Int} : Wp E 27 23 ls (.inl n :: st) g μ Q = ((0 ≤ n ∧ n < 2000) ∧ Wp E 27 25 ls (mR g.1 :: st) (mGrow g (10, n.toNat) n.toNat) (mZero μ g.1) Q) := Wp_newa k27_23 (fun _ => rfl)
theorem k27_25 : mCode 27 25 = some (.putfield 18, 3) := by decide +kernel
theorem x27_25 {E : ME} {ls : MLs} {st : List MV} {g : MG} {μ : MU} {Q : Option MV → MG → MU → Prop} {a b : Nat} : Wp E 27 25 ls (.inr (.inr (.inl b)) :: .inr (.inr (.inl a)) :: st) g μ Q = ((mKd g a).1 = 3 ∧ Wp E 27 28 ls st (mSetR g a 2 (some b)) μ Q) := Wp_putR k27_25 f3_18 (by decide) (by decide) (by decide)
theorem k27_28 : mCode 27 28 = some (.aload_n 0, 1) := by decide +kernel
theorem x27_28 {E : ME} {ls : MLs} {st : List MV} {g : MG} {μ : MU} {Q : Option MV → MG → MU → Prop} {v : Nat ⊕ Nat} : Wp E 27 28 (some (.inr (.inr v)) :: ls) st g μ Q = Wp E 27 29 (some (.inr (.inr v)) :: ls) (.inr (.inr v) :: st) g μ Q := Wp_nx k27_28 rfl
theorem k27_29 : mCode 27 29 = some (.bipush 20, 2) := by decide +kernel
theorem x27_29 {E : ME} {ls : MLs} {st : List MV} {g : MG} {μ : MU} {Q : Option MV → MG → MU → Prop} : Wp E 27 29 ls st g μ Q = Wp E 27 31 ls (.inl 20 :: st) g μ Q := Wp_nx k27_29 rfl
theorem k27_31 : mCode 27 31 = some (.newarray .int, 2) := by decide +kernel
theorem x27_31 {E : ME} {ls : MLs} {st : List MV} {g : MG} {μ : MU} {Q : Option MV → MG → MU → Prop} {n : Int} : Wp E 27 31 ls (.inl n :: st) g μ Q = ((0 ≤ n ∧ n < 2000) ∧ Wp E 27 33 ls (mR g.1 :: st) (mGrow g (10, n.toNat) n.toNat) (mZero μ g.1) Q) := Wp_newa k27_31 (fun _ => rfl)
theorem k27_33 : mCode 27 33 = some (.putfield 21, 3) := by decide +kernel
theorem x27_33 {E : ME} {ls : MLs} {st : List MV} {g : MG} {μ : MU} {Q : Option MV → MG → MU → Prop} {a b : Nat} : Wp E 27 33 ls (.inr (.inr (.inl b)) :: .inr (.inr (.inl a)) :: st) g μ Q = ((mKd g a).1 = 3 ∧ Wp E 27 36 ls st (mSetR g a 3 (some b)) μ Q) := Wp_putR k27_33 f3_21 (by decide) (by decide) (by decide)
theorem k27_36 : mCode 27 36 = some (.aload_n 0, 1) := by decide +kernel
theorem x27_36 {E : ME} {ls : MLs} {st : List MV} {g : MG} {μ : MU} {Q : Option MV → MG → MU → Prop} {v : Nat ⊕ Nat} : Wp E 27 36 (some (.inr (.inr v)) :: ls) st g μ Q = Wp E 27 37 (some (.inr (.inr v)) :: ls) (.inr (.inr v) :: st) g μ Q := Wp_nx k27_36 rfl
theorem k27_37 : mCode 27 37 = some (.bipush 20, 2) := by decide +kernel
theorem x27_37 {E : ME} {ls : MLs} {st : List MV} {g : MG} {μ : MU} {Q : Option MV → MG → MU → Prop} : Wp E 27 37 ls st g μ Q = Wp E 27 39 ls (.inl 20 :: st) g μ Q := Wp_nx k27_37 rfl
theorem k27_39 : mCode 27 39 = some (.newarray .int, 2) := by decide +kernel
theorem x27_39 {E : ME} {ls : MLs} {st : List MV} {g : MG} {μ : MU} {Q : Option MV → MG → MU → Prop} {n : Int} : Wp E 27 39 ls (.inl n :: st) g μ Q = ((0 ≤ n ∧ n < 2000) ∧ Wp E 27 41 ls (mR g.1 :: st) (mGrow g (10, n.toNat) n.toNat) (mZero μ g.1) Q) := Wp_newa k27_39 (fun _ => rfl)
theorem k27_41 : mCode 27 41 = some (.putfield 24, 3) := by decide +kernel
theorem x27_41 {E : ME} {ls : MLs} {st : List MV} {g : MG} {μ : MU} {Q : Option MV → MG → MU → Prop} {a b : Nat} : Wp E 27 41 ls (.inr (.inr (.inl b)) :: .inr (.inr (.inl a)) :: st) g μ Q = ((mKd g a).1 = 3 ∧ Wp E 27 44 ls st (mSetR g a 4 (some b)) μ Q) := Wp_putR k27_41 f3_24 (by decide) (by decide) (by decide)
theorem k27_44 : mCode 27 44 = some (.aload_n 0, 1) := by decide +kernel
theorem x27_44 {E : ME} {ls : MLs} {st : List MV} {g : MG} {μ : MU} {Q : Option MV → MG → MU → Prop} {v : Nat ⊕ Nat} : Wp E 27 44 (some (.inr (.inr v)) :: ls) st g μ Q = Wp E 27 45 (some (.inr (.inr v)) :: ls) (.inr (.inr v) :: st) g μ Q := Wp_nx k27_44 rfl
theorem k27_45 : mCode 27 45 = some (.bipush 120, 2) := by decide +kernel
theorem x27_45 {E : ME} {ls : MLs} {st : List MV} {g : MG} {μ : MU} {Q : Option MV → MG → MU → Prop} : Wp E 27 45 ls st g μ Q = Wp E 27 47 ls (.inl 120 :: st) g μ Q := Wp_nx k27_45 rfl
theorem k27_47 : mCode 27 47 = some (.newarray .int, 2) := by decide +kernel
theorem x27_47 {E : ME} {ls : MLs} {st : List MV} {g : MG} {μ : MU} {Q : Option MV → MG → MU → Prop} {n : Int} : Wp E 27 47 ls (.inl n :: st) g μ Q = ((0 ≤ n ∧ n < 2000) ∧ Wp E 27 49 ls (mR g.1 :: st) (mGrow g (10, n.toNat) n.toNat) (mZero μ g.1) Q) := Wp_newa k27_47 (fun _ => rfl)
theorem k27_49 : mCode 27 49 = some (.putfield 27, 3) := by decide +kernel
theorem x27_49 {E : ME} {ls : MLs} {st : List MV} {g : MG} {μ : MU} {Q : Option MV → MG → MU → Prop} {a b : Nat} : Wp E 27 49 ls (.inr (.inr (.inl b)) :: .inr (.inr (.inl a)) :: st) g μ Q = ((mKd g a).1 = 3 ∧ Wp E 27 52 ls st (mSetR g a 5 (some b)) μ Q) := Wp_putR k27_49 f3_27 (by decide) (by decide) (by decide)
theorem k27_52 : mCode 27 52 = some (.aload_n 0, 1) := by decide +kernel
theorem x27_52 {E : ME} {ls : MLs} {st : List MV} {g : MG} {μ : MU} {Q : Option MV → MG → MU → Prop} {v : Nat ⊕ Nat} : Wp E 27 52 (some (.inr (.inr v)) :: ls) st g μ Q = Wp E 27 53 (some (.inr (.inr v)) :: ls) (.inr (.inr v) :: st) g μ Q := Wp_nx k27_52 rfl
theorem k27_53 : mCode 27 53 = some (.bipush 20, 2) := by decide +kernel
theorem x27_53 {E : ME} {ls : MLs} {st : List MV} {g : MG} {μ : MU} {Q : Option MV → MG → MU → Prop} : Wp E 27 53 ls st g μ Q = Wp E 27 55 ls (.inl 20 :: st) g μ Q := Wp_nx k27_53 rfl
theorem k27_55 : mCode 27 55 = some (.newarray .int, 2) := by decide +kernel
theorem x27_55 {E : ME} {ls : MLs} {st : List MV} {g : MG} {μ : MU} {Q : Option MV → MG → MU → Prop} {n : Int} : Wp E 27 55 ls (.inl n :: st) g μ Q = ((0 ≤ n ∧ n < 2000) ∧ Wp E 27 57 ls (mR g.1 :: st) (mGrow g (10, n.toNat) n.toNat) (mZero μ g.1) Q) := Wp_newa k27_55 (fun _ => rfl)
theorem k27_57 : mCode 27 57 = some (.putfield 30, 3) := by decide +kernel
theorem x27_57 {E : ME} {ls : MLs} {st : List MV} {g : MG} {μ : MU} {Q : Option MV → MG → MU → Prop} {a b : Nat} : Wp E 27 57 ls (.inr (.inr (.inl b)) :: .inr (.inr (.inl a)) :: st) g μ Q = ((mKd g a).1 = 3 ∧ Wp E 27 60 ls st (mSetR g a 6 (some b)) μ Q) := Wp_putR k27_57 f3_30 (by decide) (by decide) (by decide)
theorem k27_60 : mCode 27 60 = some (.aload_n 0, 1) := by decide +kernel
theorem x27_60 {E : ME} {ls : MLs} {st : List MV} {g : MG} {μ : MU} {Q : Option MV → MG → MU → Prop} {v : Nat ⊕ Nat} : Wp E 27 60 (some (.inr (.inr v)) :: ls) st g μ Q = Wp E 27 61 (some (.inr (.inr v)) :: ls) (.inr (.inr v) :: st) g μ Q := Wp_nx k27_60 rfl
theorem k27_61 : mCode 27 61 = some (.bipush 20, 2) := by decide +kernel
theorem x27_61 {E : ME} {ls : MLs} {st : List MV} {g : MG} {μ : MU} {Q : Option MV → MG → MU → Prop} : Wp E 27 61 ls st g μ Q = Wp E 27 63 ls (.inl 20 :: st) g μ Q := Wp_nx k27_61 rfl
theorem k27_63 : mCode 27 63 = some (.newarray .int, 2) := by decide +kernel
theorem x27_63 {E : ME} {ls : MLs} {st : List MV} {g : MG} {μ : MU} {Q : Option MV → MG → MU → Prop} {n : Int} : Wp E 27 63 ls (.inl n :: st) g μ Q = ((0 ≤ n ∧ n < 2000) ∧ Wp E 27 65 ls (mR g.1 :: st) (mGrow g (10, n.toNat) n.toNat) (mZero μ g.1) Q) := Wp_newa k27_63 (fun _ => rfl)
theorem k27_65 : mCode 27 65 = some (.putfield 33, 3) := by decide +kernel
theorem x27_65 {E : ME} {ls : MLs} {st : List MV} {g : MG} {μ : MU} {Q : Option MV → MG → MU → Prop} {a b : Nat} : Wp E 27 65 ls (.inr (.inr (.inl b)) :: .inr (.inr (.inl a)) :: st) g μ Q = ((mKd g a).1 = 3 ∧ Wp E 27 68 ls st (mSetR g a 7 (some b)) μ Q) := Wp_putR k27_65 f3_33 (by decide) (by decide) (by decide)
theorem k27_68 : mCode 27 68 = some (.aload_n 0, 1) := by decide +kernel
theorem x27_68 {E : ME} {ls : MLs} {st : List MV} {g : MG} {μ : MU} {Q : Option MV → MG → MU → Prop} {v : Nat ⊕ Nat} : Wp E 27 68 (some (.inr (.inr v)) :: ls) st g μ Q = Wp E 27 69 (some (.inr (.inr v)) :: ls) (.inr (.inr v) :: st) g μ Q := Wp_nx k27_68 rfl
theorem k27_69 : mCode 27 69 = some (.bipush 20, 2) := by decide +kernel
theorem x27_69 {E : ME} {ls : MLs} {st : List MV} {g : MG} {μ : MU} {Q : Option MV → MG → MU → Prop} : Wp E 27 69 ls st g μ Q = Wp E 27 71 ls (.inl 20 :: st) g μ Q := Wp_nx k27_69 rfl
theorem k27_71 : mCode 27 71 = some (.newarray .int, 2) := by decide +kernel
theorem x27_71 {E : ME} {ls : MLs} {st : List MV} {g : MG} {μ : MU} {Q : Option MV → MG → MU → Prop} {n : Int} : Wp E 27 71 ls (.inl n :: st) g μ Q = ((0 ≤ n ∧ n < 2000) ∧ Wp E 27 73 ls (mR g.1 :: st) (mGrow g (10, n.toNat) n.toNat) (mZero μ g.1) Q) := Wp_newa k27_71 (fun _ => rfl)
theorem k27_73 : mCode 27 73 = some (.putfield 36, 3) := by decide +kernel
theorem x27_73 {E : ME} {ls : MLs} {st : List MV} {g : MG} {μ : MU} {Q : Option MV → MG → MU → Prop} {a b : Nat} : Wp E 27 73 ls (.inr (.inr (.inl b)) :: .inr (.inr (.inl a)) :: st) g μ Q = ((mKd g a).1 = 3 ∧ Wp E 27 76 ls st (mSetR g a 8 (some b)) μ Q) := Wp_putR k27_73 f3_36 (by decide) (by decide) (by decide)
theorem k27_76 : mCode 27 76 = some (.aload_n 0, 1) := by decide +kernel
theorem x27_76 {E : ME} {ls : MLs} {st : List MV} {g : MG} {μ : MU} {Q : Option MV → MG → MU → Prop} {v : Nat ⊕ Nat} : Wp E 27 76 (some (.inr (.inr v)) :: ls) st g μ Q = Wp E 27 77 (some (.inr (.inr v)) :: ls) (.inr (.inr v) :: st) g μ Q := Wp_nx k27_76 rfl
theorem k27_77 : mCode 27 77 = some (.iconst 5, 1) := by decide +kernel
theorem x27_77 {E : ME} {ls : MLs} {st : List MV} {g : MG} {μ : MU} {Q : Option MV → MG → MU → Prop} : Wp E 27 77 ls st g μ Q = Wp E 27 78 ls (.inl 5 :: st) g μ Q := Wp_nx k27_77 rfl
theorem k27_78 : mCode 27 78 = some (.newarray .int, 2) := by decide +kernel
theorem x27_78 {E : ME} {ls : MLs} {st : List MV} {g : MG} {μ : MU} {Q : Option MV → MG → MU → Prop} {n : Int} : Wp E 27 78 ls (.inl n :: st) g μ Q = ((0 ≤ n ∧ n < 2000) ∧ Wp E 27 80 ls (mR g.1 :: st) (mGrow g (10, n.toNat) n.toNat) (mZero μ g.1) Q) := Wp_newa k27_78 (fun _ => rfl)
theorem k27_80 : mCode 27 80 = some (.putfield 39, 3) := by decide +kernel
theorem x27_80 {E : ME} {ls : MLs} {st : List MV} {g : MG} {μ : MU} {Q : Option MV → MG → MU → Prop} {a b : Nat} : Wp E 27 80 ls (.inr (.inr (.inl b)) :: .inr (.inr (.inl a)) :: st) g μ Q = ((mKd g a).1 = 3 ∧ Wp E 27 83 ls st (mSetR g a 9 (some b)) μ Q) := Wp_putR k27_80 f3_39 (by decide) (by decide) (by decide)
theorem k27_83 : mCode 27 83 = some (.aload_n 0, 1) := by decide +kernel
theorem x27_83 {E : ME} {ls : MLs} {st : List MV} {g : MG} {μ : MU} {Q : Option MV → MG → MU → Prop} {v : Nat ⊕ Nat} : Wp E 27 83 (some (.inr (.inr v)) :: ls) st g μ Q = Wp E 27 84 (some (.inr (.inr v)) :: ls) (.inr (.inr v) :: st) g μ Q := Wp_nx k27_83 rfl
theorem k27_84 : mCode 27 84 = some (.iconst 5, 1) := by decide +kernel
theorem x27_84 {E : ME} {ls : MLs} {st : List MV} {g : MG} {μ : MU} {Q : Option MV → MG → MU → Prop} : Wp E 27 84 ls st g μ Q = Wp E 27 85 ls (.inl 5 :: st) g μ Q := Wp_nx k27_84 rfl
theorem k27_85 : mCode 27 85 = some (.anewarray 42, 3) := by decide +kernel
theorem x27_85 {E : ME} {ls : MLs} {st : List MV} {g : MG} {μ : MU} {Q : Option MV → MG → MU → Prop} {n : Int} : Wp E 27 85 ls (.inl n :: st) g μ Q = ((0 ≤ n ∧ n < 2000) ∧ Wp E 27 88 ls (mR g.1 :: st) (mGrow g (14, n.toNat) n.toNat) (mZero μ g.1) Q) := Wp_anew (ci := 4) k27_85 (by decide +kernel) (by decide)
theorem k27_88 : mCode 27 88 = some (.putfield 44, 3) := by decide +kernel
theorem x27_88 {E : ME} {ls : MLs} {st : List MV} {g : MG} {μ : MU} {Q : Option MV → MG → MU → Prop} {a b : Nat} : Wp E 27 88 ls (.inr (.inr (.inl b)) :: .inr (.inr (.inl a)) :: st) g μ Q = ((mKd g a).1 = 3 ∧ Wp E 27 91 ls st (mSetR g a 10 (some b)) μ Q) := Wp_putR k27_88 f3_44 (by decide) (by decide) (by decide)
theorem k27_91 : mCode 27 91 = some (.iconst 0, 1) := by decide +kernel
theorem x27_91 {E : ME} {ls : MLs} {st : List MV} {g : MG} {μ : MU} {Q : Option MV → MG → MU → Prop} : Wp E 27 91 ls st g μ Q = Wp E 27 92 ls (.inl 0 :: st) g μ Q := Wp_nx k27_91 rfl
theorem k27_92 : mCode 27 92 = some (.istore_n 1, 1) := by decide +kernel
theorem x27_92 {E : ME} {ls : MLs} {st : List MV} {g : MG} {μ : MU} {Q : Option MV → MG → MU → Prop} {l0 : Option MV} {lk : Option MV} {v : Int} : Wp E 27 92 (l0 :: lk :: ls) (.inl v :: st) g μ Q = ((mNl (some l0) = true ∧ mNl (some lk) = true) ∧ Wp E 27 93 (l0 :: some (.inl v) :: ls) st g μ Q) := Wp_sti k27_92 (fun _ => rfl) rfl rfl rfl
theorem k27_93 : mCode 27 93 = some (.iload_n 1, 1) := by decide +kernel
theorem x27_93 {E : ME} {ls : MLs} {st : List MV} {g : MG} {μ : MU} {Q : Option MV → MG → MU → Prop} {l0 : Option MV} {v : Int} : Wp E 27 93 (l0 :: some (.inl v) :: ls) st g μ Q = Wp E 27 94 (l0 :: some (.inl v) :: ls) (.inl v :: st) g μ Q := Wp_nx k27_93 rfl
theorem k27_94 : mCode 27 94 = some (.iconst 5, 1) := by decide +kernel
theorem x27_94 {E : ME} {ls : MLs} {st : List MV} {g : MG} {μ : MU} {Q : Option MV → MG → MU → Prop} : Wp E 27 94 ls st g μ Q = Wp E 27 95 ls (.inl 5 :: st) g μ Q := Wp_nx k27_94 rfl
theorem k27_95 : mCode 27 95 = some (.if_icmp .ge 22, 3) := by decide +kernel
theorem x27_95 {E : ME} {ls : MLs} {st : List MV} {g : MG} {μ : MU} {Q : Option MV → MG → MU → Prop} {a b : Int} : Wp E 27 95 ls (.inl b :: .inl a :: st) g μ Q = ((b ≤ a → Wp E 27 117 ls st g μ Q) ∧ (a < b → Wp E 27 98 ls st g μ Q)) := Wp_cmp_ge k27_95 (by decide)
theorem k27_98 : mCode 27 98 = some (.aload_n 0, 1) := by decide +kernel
theorem x27_98 {E : ME} {ls : MLs} {st : List MV} {g : MG} {μ : MU} {Q : Option MV → MG → MU → Prop} {v : Nat ⊕ Nat} : Wp E 27 98 (some (.inr (.inr v)) :: ls) st g μ Q = Wp E 27 99 (some (.inr (.inr v)) :: ls) (.inr (.inr v) :: st) g μ Q := Wp_nx k27_98 rfl
theorem k27_99 : mCode 27 99 = some (.getfield 44, 3) := by decide +kernel
theorem x27_99 {E : ME} {ls : MLs} {st : List MV} {g : MG} {μ : MU} {Q : Option MV → MG → MU → Prop} {a : Nat} : Wp E 27 99 ls (.inr (.inr (.inl a)) :: st) g μ Q = ((mKd g a).1 = 3 ∧ Wp E 27 102 ls (mRv (mRf g a 10) :: st) g μ Q) := Wp_getR k27_99 f3_44 (by decide) (by decide)
theorem k27_102 : mCode 27 102 = some (.iload_n 1, 1) := by decide +kernel
theorem x27_102 {E : ME} {ls : MLs} {st : List MV} {g : MG} {μ : MU} {Q : Option MV → MG → MU → Prop} {l0 : Option MV} {v : Int} : Wp E 27 102 (l0 :: some (.inl v) :: ls) st g μ Q = Wp E 27 103 (l0 :: some (.inl v) :: ls) (.inl v :: st) g μ Q := Wp_nx k27_102 rfl
theorem k27_103 : mCode 27 103 = some (.new 42, 3) := by decide +kernel
theorem x27_103 {E : ME} {ls : MLs} {st : List MV} {g : MG} {μ : MU} {Q : Option MV → MG → MU → Prop} : Wp E 27 103 ls st g μ Q = Wp E 27 106 ls (mR g.1 :: st) (mGrow g (4, 0) 9) (mZero μ g.1) Q := Wp_new (ci := 4) k27_103 (by decide +kernel)
theorem k27_106 : mCode 27 106 = some (.dup, 1) := by decide +kernel
theorem x27_106 {E : ME} {ls : MLs} {st : List MV} {g : MG} {μ : MU} {Q : Option MV → MG → MU → Prop} {v : MV} : Wp E 27 106 ls (v :: st) g μ Q = (mC1 v = true ∧ Wp E 27 107 ls (v :: v :: st) g μ Q) := Wp_dup k27_106
theorem k27_107 : mCode 27 107 = some (.invokespecial 48, 3) := by decide +kernel
theorem x27_107 {E : ME} {ls : MLs} {st : List MV} {g : MG} {μ : MU} {Q : Option MV → MG → MU → Prop} {r : Nat} : Wp E 27 107 ls (.inr (.inr (.inl r)) :: st) g μ Q = ((st.length ≤ 4 ∧ ((mKd g r).1 == 4) = true) ∧ Wp E 34 0 [some (.inr (.inr (.inl r)))] [] g μ (fun r g' μ' => (g'.1 = g.1 + 4 ∧ g'.2.1 = g.2.1 + 24) ∧ Wp E 27 110 ls (mPush r st) g' μ' Q)) := Wp_cI (w := 4) k27_107 m3_48 (by decide) (by decide) (as := [.inr (.inr (.inl r))]) rfl rfl rfl ⟨Nat.le_of_ble_eq_true rfl, by decide⟩
theorem k27_110 : mCode 27 110 = some (.aastore, 1) := by decide +kernel
theorem x27_110 {E : ME} {ls : MLs} {st : List MV} {g : MG} {μ : MU} {Q : Option MV → MG → MU → Prop} {a b : Nat} {j : Int} : Wp E 27 110 ls (.inr (.inr (.inl b)) :: .inl j :: .inr (.inr (.inl a)) :: st) g μ Q = (((((mKd g a).1 = 13 ∧ (mKd g b).1 = 0) ∨ ((mKd g a).1 = 14 ∧ (mKd g b).1 = 4)) ∧ 0 ≤ j ∧ j < (mKd g a).2) ∧ Wp E 27 111 ls st (mSetR g a j.toNat (some b)) μ Q) := Wp_aast k27_110
theorem k27_111 : mCode 27 111 = some (.iinc 1 1, 3) := by decide +kernel
theorem x27_111 {E : ME} {ls : MLs} {st : List MV} {g : MG} {μ : MU} {Q : Option MV → MG → MU → Prop} {l0 : Option MV} {v : Int} : Wp E 27 111 (l0 :: some (.inl v) :: ls) st g μ Q = (mNl (some l0) = true ∧ Wp E 27 114 (l0 :: some (.inl (mWr (v + 1))) :: ls) st g μ Q) := Wp_inc k27_111 rfl rfl rfl
theorem k27_114 : mCode 27 114 = some (.goto (-21), 3) := by decide +kernel
theorem x27_114 {E : ME} {ls : MLs} {st : List MV} {g : MG} {μ : MU} {Q : Option MV → MG → MU → Prop} : Wp E 27 114 ls st g μ Q = Wp E 27 93 ls st g μ Q := Wp_goto k27_114 (by decide)
theorem k27_117 : mCode 27 117 = some (.return_, 1) := by decide +kernel
theorem x27_117 {E : ME} {ls : MLs} {g : MG} {μ : MU} {Q : Option MV → MG → MU → Prop} : Wp E 27 117 ls [] g μ Q = Q none g μ := Wp_retV k27_117 (by decide)
theorem k28_0 : mCode 28 0 = some (.iconst 0, 1) := by decide +kernel
theorem x28_0 {E : ME} {ls : MLs} {st : List MV} {g : MG} {μ : MU} {Q : Option MV → MG → MU → Prop} : Wp E 28 0 ls st g μ Q = Wp E 28 1 ls (.inl 0 :: st) g μ Q := Wp_nx k28_0 rfl
theorem k28_1 : mCode 28 1 = some (.istore_n 2, 1) := by decide +kernel
theorem x28_1 {E : ME} {ls : MLs} {st : List MV} {g : MG} {μ : MU} {Q : Option MV → MG → MU → Prop} {l0 l1 : Option MV} {lk : Option MV} {v : Int} : Wp E 28 1 (l0 :: l1 :: lk :: ls) (.inl v :: st) g μ Q = ((mNl (some l1) = true ∧ mNl (some lk) = true) ∧ Wp E 28 2 (l0 :: l1 :: some (.inl v) :: ls) st g μ Q) := Wp_sti k28_1 (fun _ => rfl) rfl rfl rfl
theorem k28_2 : mCode 28 2 = some (.iload_n 2, 1) := by decide +kernel
theorem x28_2 {E : ME} {ls : MLs} {st : List MV} {g : MG} {μ : MU} {Q : Option MV → MG → MU → Prop} {l0 l1 : Option MV} {v : Int} : Wp E 28 2 (l0 :: l1 :: some (.inl v) :: ls) st g μ Q = Wp E 28 3 (l0 :: l1 :: some (.inl v) :: ls) (.inl v :: st) g μ Q := Wp_nx k28_2 rfl
theorem k28_3 : mCode 28 3 = some (.aload_n 1, 1) := by decide +kernel
theorem x28_3 {E : ME} {ls : MLs} {st : List MV} {g : MG} {μ : MU} {Q : Option MV → MG → MU → Prop} {l0 : Option MV} {v : Nat ⊕ Nat} : Wp E 28 3 (l0 :: some (.inr (.inr v)) :: ls) st g μ Q = Wp E 28 4 (l0 :: some (.inr (.inr v)) :: ls) (.inr (.inr v) :: st) g μ Q := Wp_nx k28_3 rfl
theorem k28_4 : mCode 28 4 = some (.getfield 49, 3) := by decide +kernel
theorem x28_4 {E : ME} {ls : MLs} {st : List MV} {g : MG} {μ : MU} {Q : Option MV → MG → MU → Prop} {a : Nat} : Wp E 28 4 ls (.inr (.inr (.inl a)) :: st) g μ Q = ((mKd g a).1 = 0 ∧ Wp E 28 7 ls (.inl (μ a 2) :: st) g μ Q) := Wp_getI k28_4 f3_49 (by decide) (by decide)
theorem k28_7 : mCode 28 7 = some (.if_icmp .ge 27, 3) := by decide +kernel
theorem x28_7 {E : ME} {ls : MLs} {st : List MV} {g : MG} {μ : MU} {Q : Option MV → MG → MU → Prop} {a b : Int} : Wp E 28 7 ls (.inl b :: .inl a :: st) g μ Q = ((b ≤ a → Wp E 28 34 ls st g μ Q) ∧ (a < b → Wp E 28 10 ls st g μ Q)) := Wp_cmp_ge k28_7 (by decide)
theorem k28_10 : mCode 28 10 = some (.aload_n 0, 1) := by decide +kernel
theorem x28_10 {E : ME} {ls : MLs} {st : List MV} {g : MG} {μ : MU} {Q : Option MV → MG → MU → Prop} {v : Nat ⊕ Nat} : Wp E 28 10 (some (.inr (.inr v)) :: ls) st g μ Q = Wp E 28 11 (some (.inr (.inr v)) :: ls) (.inr (.inr v) :: st) g μ Q := Wp_nx k28_10 rfl
theorem k28_11 : mCode 28 11 = some (.getfield 44, 3) := by decide +kernel
theorem x28_11 {E : ME} {ls : MLs} {st : List MV} {g : MG} {μ : MU} {Q : Option MV → MG → MU → Prop} {a : Nat} : Wp E 28 11 ls (.inr (.inr (.inl a)) :: st) g μ Q = ((mKd g a).1 = 3 ∧ Wp E 28 14 ls (mRv (mRf g a 10) :: st) g μ Q) := Wp_getR k28_11 f3_44 (by decide) (by decide)
theorem k28_14 : mCode 28 14 = some (.iload_n 2, 1) := by decide +kernel
theorem x28_14 {E : ME} {ls : MLs} {st : List MV} {g : MG} {μ : MU} {Q : Option MV → MG → MU → Prop} {l0 l1 : Option MV} {v : Int} : Wp E 28 14 (l0 :: l1 :: some (.inl v) :: ls) st g μ Q = Wp E 28 15 (l0 :: l1 :: some (.inl v) :: ls) (.inl v :: st) g μ Q := Wp_nx k28_14 rfl
theorem k28_15 : mCode 28 15 = some (.aaload, 1) := by decide +kernel
theorem x28_15 {E : ME} {ls : MLs} {st : List MV} {g : MG} {μ : MU} {Q : Option MV → MG → MU → Prop} {a : Nat} {j : Int} : Wp E 28 15 ls (.inl j :: .inr (.inr (.inl a)) :: st) g μ Q = ((((mKd g a).1 = 13 ∨ (mKd g a).1 = 14) ∧ 0 ≤ j ∧ j < (mKd g a).2) ∧ Wp E 28 16 ls (mRv (mRf g a j.toNat) :: st) g μ Q) := Wp_aald k28_15
theorem k28_16 : mCode 28 16 = some (.aload_n 1, 1) := by decide +kernel
theorem x28_16 {E : ME} {ls : MLs} {st : List MV} {g : MG} {μ : MU} {Q : Option MV → MG → MU → Prop} {l0 : Option MV} {v : Nat ⊕ Nat} : Wp E 28 16 (l0 :: some (.inr (.inr v)) :: ls) st g μ Q = Wp E 28 17 (l0 :: some (.inr (.inr v)) :: ls) (.inr (.inr v) :: st) g μ Q := Wp_nx k28_16 rfl
theorem k28_17 : mCode 28 17 = some (.iload_n 2, 1) := by decide +kernel
theorem x28_17 {E : ME} {ls : MLs} {st : List MV} {g : MG} {μ : MU} {Q : Option MV → MG → MU → Prop} {l0 l1 : Option MV} {v : Int} : Wp E 28 17 (l0 :: l1 :: some (.inl v) :: ls) st g μ Q = Wp E 28 18 (l0 :: l1 :: some (.inl v) :: ls) (.inl v :: st) g μ Q := Wp_nx k28_17 rfl
theorem k28_18 : mCode 28 18 = some (.invokevirtual 55, 3) := by decide +kernel
theorem x28_18 {E : ME} {ls : MLs} {st : List MV} {g : MG} {μ : MU} {Q : Option MV → MG → MU → Prop} {r : Nat} {a0 : Nat ⊕ Nat} {a1 : Int} : Wp E 28 18 ls (.inl a1 :: .inr (.inr a0) :: .inr (.inr (.inl r)) :: st) g μ Q = ((st.length ≤ 4 ∧ ((mKd g r).1 == 4) = true) ∧ Wp E 35 0 [some (.inr (.inr (.inl r))), some (.inr (.inr a0)), some (.inl a1)] [] g μ (fun r g' μ' => (g'.1 = g.1 ∧ g'.2.1 = g.2.1) ∧ Wp E 28 21 ls (mPush r st) g' μ' Q)) := Wp_cV k28_18 m3_55 (by decide) (as := [.inr (.inr (.inl r)), .inr (.inr a0), .inl a1]) rfl rfl rfl ⟨Nat.le_of_ble_eq_true rfl, by decide⟩
theorem k28_21 : mCode 28 21 = some (.aload_n 0, 1) := by decide +kernel
theorem x28_21 {E : ME} {ls : MLs} {st : List MV} {g : MG} {μ : MU} {Q : Option MV → MG → MU → Prop} {v : Nat ⊕ Nat} : Wp E 28 21 (some (.inr (.inr v)) :: ls) st g μ Q = Wp E 28 22 (some (.inr (.inr v)) :: ls) (.inr (.inr v) :: st) g μ Q := Wp_nx k28_21 rfl
theorem k28_22 : mCode 28 22 = some (.getfield 39, 3) := by decide +kernel
theorem x28_22 {E : ME} {ls : MLs} {st : List MV} {g : MG} {μ : MU} {Q : Option MV → MG → MU → Prop} {a : Nat} : Wp E 28 22 ls (.inr (.inr (.inl a)) :: st) g μ Q = ((mKd g a).1 = 3 ∧ Wp E 28 25 ls (mRv (mRf g a 9) :: st) g μ Q) := Wp_getR k28_22 f3_39 (by decide) (by decide)
theorem k28_25 : mCode 28 25 = some (.iload_n 2, 1) := by decide +kernel
theorem x28_25 {E : ME} {ls : MLs} {st : List MV} {g : MG} {μ : MU} {Q : Option MV → MG → MU → Prop} {l0 l1 : Option MV} {v : Int} : Wp E 28 25 (l0 :: l1 :: some (.inl v) :: ls) st g μ Q = Wp E 28 26 (l0 :: l1 :: some (.inl v) :: ls) (.inl v :: st) g μ Q := Wp_nx k28_25 rfl
theorem k28_26 : mCode 28 26 = some (.iconst 0, 1) := by decide +kernel
theorem x28_26 {E : ME} {ls : MLs} {st : List MV} {g : MG} {μ : MU} {Q : Option MV → MG → MU → Prop} : Wp E 28 26 ls st g μ Q = Wp E 28 27 ls (.inl 0 :: st) g μ Q := Wp_nx k28_26 rfl
theorem k28_27 : mCode 28 27 = some (.iastore, 1) := by decide +kernel
theorem x28_27 {E : ME} {ls : MLs} {st : List MV} {g : MG} {μ : MU} {Q : Option MV → MG → MU → Prop} {a : Nat} {j v : Int} : Wp E 28 27 ls (.inl v :: .inl j :: .inr (.inr (.inl a)) :: st) g μ Q = (((mKd g a).1 = 10 ∧ 0 ≤ j ∧ j < (mKd g a).2) ∧ Wp E 28 28 ls st g (mUp μ a j.toNat v) Q) := Wp_iast k28_27
theorem k28_28 : mCode 28 28 = some (.iinc 2 1, 3) := by decide +kernel
theorem x28_28 {E : ME} {ls : MLs} {st : List MV} {g : MG} {μ : MU} {Q : Option MV → MG → MU → Prop} {l0 l1 : Option MV} {v : Int} : Wp E 28 28 (l0 :: l1 :: some (.inl v) :: ls) st g μ Q = (mNl (some l1) = true ∧ Wp E 28 31 (l0 :: l1 :: some (.inl (mWr (v + 1))) :: ls) st g μ Q) := Wp_inc k28_28 rfl rfl rfl
theorem k28_31 : mCode 28 31 = some (.goto (-29), 3) := by decide +kernel
theorem x28_31 {E : ME} {ls : MLs} {st : List MV} {g : MG} {μ : MU} {Q : Option MV → MG → MU → Prop} : Wp E 28 31 ls st g μ Q = Wp E 28 2 ls st g μ Q := Wp_goto k28_31 (by decide)
theorem k28_34 : mCode 28 34 = some (.aload_n 0, 1) := by decide +kernel
theorem x28_34 {E : ME} {ls : MLs} {st : List MV} {g : MG} {μ : MU} {Q : Option MV → MG → MU → Prop} {v : Nat ⊕ Nat} : Wp E 28 34 (some (.inr (.inr v)) :: ls) st g μ Q = Wp E 28 35 (some (.inr (.inr v)) :: ls) (.inr (.inr v) :: st) g μ Q := Wp_nx k28_34 rfl
theorem k28_35 : mCode 28 35 = some (.aload_n 1, 1) := by decide +kernel
theorem x28_35 {E : ME} {ls : MLs} {st : List MV} {g : MG} {μ : MU} {Q : Option MV → MG → MU → Prop} {l0 : Option MV} {v : Nat ⊕ Nat} : Wp E 28 35 (l0 :: some (.inr (.inr v)) :: ls) st g μ Q = Wp E 28 36 (l0 :: some (.inr (.inr v)) :: ls) (.inr (.inr v) :: st) g μ Q := Wp_nx k28_35 rfl
theorem k28_36 : mCode 28 36 = some (.invokevirtual 59, 3) := by decide +kernel
theorem x28_36 {E : ME} {ls : MLs} {st : List MV} {g : MG} {μ : MU} {Q : Option MV → MG → MU → Prop} {r : Nat} {a0 : Nat ⊕ Nat} : Wp E 28 36 ls (.inr (.inr a0) :: .inr (.inr (.inl r)) :: st) g μ Q = ((st.length ≤ 4 ∧ ((mKd g r).1 == 3) = true) ∧ Wp E 29 0 [some (.inr (.inr (.inl r))), some (.inr (.inr a0)), none, none] [] g μ (fun r g' μ' => (g'.1 = g.1 ∧ g'.2.1 = g.2.1) ∧ Wp E 28 39 ls (mPush r st) g' μ' Q)) := Wp_cV k28_36 m3_59 (by decide) (as := [.inr (.inr (.inl r)), .inr (.inr a0)]) rfl rfl rfl ⟨Nat.le_of_ble_eq_true rfl, by decide⟩
theorem k28_39 : mCode 28 39 = some (.iconst 0, 1) := by decide +kernel
theorem x28_39 {E : ME} {ls : MLs} {st : List MV} {g : MG} {μ : MU} {Q : Option MV → MG → MU → Prop} : Wp E 28 39 ls st g μ Q = Wp E 28 40 ls (.inl 0 :: st) g μ Q := Wp_nx k28_39 rfl
theorem k28_40 : mCode 28 40 = some (.istore_n 2, 1) := by decide +kernel
theorem x28_40 {E : ME} {ls : MLs} {st : List MV} {g : MG} {μ : MU} {Q : Option MV → MG → MU → Prop} {l0 l1 : Option MV} {lk : Option MV} {v : Int} : Wp E 28 40 (l0 :: l1 :: lk :: ls) (.inl v :: st) g μ Q = ((mNl (some l1) = true ∧ mNl (some lk) = true) ∧ Wp E 28 41 (l0 :: l1 :: some (.inl v) :: ls) st g μ Q) := Wp_sti k28_40 (fun _ => rfl) rfl rfl rfl
theorem k28_41 : mCode 28 41 = some (.iload_n 2, 1) := by decide +kernel
theorem x28_41 {E : ME} {ls : MLs} {st : List MV} {g : MG} {μ : MU} {Q : Option MV → MG → MU → Prop} {l0 l1 : Option MV} {v : Int} : Wp E 28 41 (l0 :: l1 :: some (.inl v) :: ls) st g μ Q = Wp E 28 42 (l0 :: l1 :: some (.inl v) :: ls) (.inl v :: st) g μ Q := Wp_nx k28_41 rfl
theorem k28_42 : mCode 28 42 = some (.aload_n 1, 1) := by decide +kernel
theorem x28_42 {E : ME} {ls : MLs} {st : List MV} {g : MG} {μ : MU} {Q : Option MV → MG → MU → Prop} {l0 : Option MV} {v : Nat ⊕ Nat} : Wp E 28 42 (l0 :: some (.inr (.inr v)) :: ls) st g μ Q = Wp E 28 43 (l0 :: some (.inr (.inr v)) :: ls) (.inr (.inr v) :: st) g μ Q := Wp_nx k28_42 rfl
theorem k28_43 : mCode 28 43 = some (.getfield 63, 3) := by decide +kernel
theorem x28_43 {E : ME} {ls : MLs} {st : List MV} {g : MG} {μ : MU} {Q : Option MV → MG → MU → Prop} {a : Nat} : Wp E 28 43 ls (.inr (.inr (.inl a)) :: st) g μ Q = ((mKd g a).1 = 0 ∧ Wp E 28 46 ls (.inl (μ a 7) :: st) g μ Q) := Wp_getI k28_43 f3_63 (by decide) (by decide)
theorem k28_46 : mCode 28 46 = some (.if_icmp .ge 43, 3) := by decide +kernel
theorem x28_46 {E : ME} {ls : MLs} {st : List MV} {g : MG} {μ : MU} {Q : Option MV → MG → MU → Prop} {a b : Int} : Wp E 28 46 ls (.inl b :: .inl a :: st) g μ Q = ((b ≤ a → Wp E 28 89 ls st g μ Q) ∧ (a < b → Wp E 28 49 ls st g μ Q)) := Wp_cmp_ge k28_46 (by decide)
theorem k28_49 : mCode 28 49 = some (.aload_n 0, 1) := by decide +kernel
theorem x28_49 {E : ME} {ls : MLs} {st : List MV} {g : MG} {μ : MU} {Q : Option MV → MG → MU → Prop} {v : Nat ⊕ Nat} : Wp E 28 49 (some (.inr (.inr v)) :: ls) st g μ Q = Wp E 28 50 (some (.inr (.inr v)) :: ls) (.inr (.inr v) :: st) g μ Q := Wp_nx k28_49 rfl
theorem k28_50 : mCode 28 50 = some (.getfield 15, 3) := by decide +kernel
theorem x28_50 {E : ME} {ls : MLs} {st : List MV} {g : MG} {μ : MU} {Q : Option MV → MG → MU → Prop} {a : Nat} : Wp E 28 50 ls (.inr (.inr (.inl a)) :: st) g μ Q = ((mKd g a).1 = 3 ∧ Wp E 28 53 ls (mRv (mRf g a 1) :: st) g μ Q) := Wp_getR k28_50 f3_15 (by decide) (by decide)
theorem k28_53 : mCode 28 53 = some (.aload_n 0, 1) := by decide +kernel
theorem x28_53 {E : ME} {ls : MLs} {st : List MV} {g : MG} {μ : MU} {Q : Option MV → MG → MU → Prop} {v : Nat ⊕ Nat} : Wp E 28 53 (some (.inr (.inr v)) :: ls) st g μ Q = Wp E 28 54 (some (.inr (.inr v)) :: ls) (.inr (.inr v) :: st) g μ Q := Wp_nx k28_53 rfl
theorem k28_54 : mCode 28 54 = some (.getfield 9, 3) := by decide +kernel
theorem x28_54 {E : ME} {ls : MLs} {st : List MV} {g : MG} {μ : MU} {Q : Option MV → MG → MU → Prop} {a : Nat} : Wp E 28 54 ls (.inr (.inr (.inl a)) :: st) g μ Q = ((mKd g a).1 = 3 ∧ Wp E 28 57 ls (mRv (mRf g a 0) :: st) g μ Q) := Wp_getR k28_54 f3_9 (by decide) (by decide)
theorem k28_57 : mCode 28 57 = some (.iload_n 2, 1) := by decide +kernel
theorem x28_57 {E : ME} {ls : MLs} {st : List MV} {g : MG} {μ : MU} {Q : Option MV → MG → MU → Prop} {l0 l1 : Option MV} {v : Int} : Wp E 28 57 (l0 :: l1 :: some (.inl v) :: ls) st g μ Q = Wp E 28 58 (l0 :: l1 :: some (.inl v) :: ls) (.inl v :: st) g μ Q := Wp_nx k28_57 rfl
theorem k28_58 : mCode 28 58 = some (.iaload, 1) := by decide +kernel
theorem x28_58 {E : ME} {ls : MLs} {st : List MV} {g : MG} {μ : MU} {Q : Option MV → MG → MU → Prop} {a : Nat} {j : Int} : Wp E 28 58 ls (.inl j :: .inr (.inr (.inl a)) :: st) g μ Q = (((mKd g a).1 = 10 ∧ 0 ≤ j ∧ j < (mKd g a).2) ∧ Wp E 28 59 ls (.inl (μ a j.toNat) :: st) g μ Q) := Wp_ald k28_58 (fun _ => rfl)
theorem k28_59 : mCode 28 59 = some (.iload_n 2, 1) := by decide +kernel
theorem x28_59 {E : ME} {ls : MLs} {st : List MV} {g : MG} {μ : MU} {Q : Option MV → MG → MU → Prop} {l0 l1 : Option MV} {v : Int} : Wp E 28 59 (l0 :: l1 :: some (.inl v) :: ls) st g μ Q = Wp E 28 60 (l0 :: l1 :: some (.inl v) :: ls) (.inl v :: st) g μ Q := Wp_nx k28_59 rfl
theorem k28_60 : mCode 28 60 = some (.iastore, 1) := by decide +kernel
theorem x28_60 {E : ME} {ls : MLs} {st : List MV} {g : MG} {μ : MU} {Q : Option MV → MG → MU → Prop} {a : Nat} {j v : Int} : Wp E 28 60 ls (.inl v :: .inl j :: .inr (.inr (.inl a)) :: st) g μ Q = (((mKd g a).1 = 10 ∧ 0 ≤ j ∧ j < (mKd g a).2) ∧ Wp E 28 61 ls st g (mUp μ a j.toNat v) Q) := Wp_iast k28_60
theorem k28_61 : mCode 28 61 = some (.aload_n 0, 1) := by decide +kernel
theorem x28_61 {E : ME} {ls : MLs} {st : List MV} {g : MG} {μ : MU} {Q : Option MV → MG → MU → Prop} {v : Nat ⊕ Nat} : Wp E 28 61 (some (.inr (.inr v)) :: ls) st g μ Q = Wp E 28 62 (some (.inr (.inr v)) :: ls) (.inr (.inr v) :: st) g μ Q := Wp_nx k28_61 rfl
theorem k28_62 : mCode 28 62 = some (.aload_n 1, 1) := by decide +kernel
theorem x28_62 {E : ME} {ls : MLs} {st : List MV} {g : MG} {μ : MU} {Q : Option MV → MG → MU → Prop} {l0 : Option MV} {v : Nat ⊕ Nat} : Wp E 28 62 (l0 :: some (.inr (.inr v)) :: ls) st g μ Q = Wp E 28 63 (l0 :: some (.inr (.inr v)) :: ls) (.inr (.inr v) :: st) g μ Q := Wp_nx k28_62 rfl
theorem k28_63 : mCode 28 63 = some (.aload_n 0, 1) := by decide +kernel
theorem x28_63 {E : ME} {ls : MLs} {st : List MV} {g : MG} {μ : MU} {Q : Option MV → MG → MU → Prop} {v : Nat ⊕ Nat} : Wp E 28 63 (some (.inr (.inr v)) :: ls) st g μ Q = Wp E 28 64 (some (.inr (.inr v)) :: ls) (.inr (.inr v) :: st) g μ Q := Wp_nx k28_63 rfl
theorem k28_64 : mCode 28 64 = some (.getfield 9, 3) := by decide +kernel
theorem x28_64 {E : ME} {ls : MLs} {st : List MV} {g : MG} {μ : MU} {Q : Option MV → MG → MU → Prop} {a : Nat} : Wp E 28 64 ls (.inr (.inr (.inl a)) :: st) g μ Q = ((mKd g a).1 = 3 ∧ Wp E 28 67 ls (mRv (mRf g a 0) :: st) g μ Q) := Wp_getR k28_64 f3_9 (by decide) (by decide)
theorem k28_67 : mCode 28 67 = some (.iload_n 2, 1) := by decide +kernel
theorem x28_67 {E : ME} {ls : MLs} {st : List MV} {g : MG} {μ : MU} {Q : Option MV → MG → MU → Prop} {l0 l1 : Option MV} {v : Int} : Wp E 28 67 (l0 :: l1 :: some (.inl v) :: ls) st g μ Q = Wp E 28 68 (l0 :: l1 :: some (.inl v) :: ls) (.inl v :: st) g μ Q := Wp_nx k28_67 rfl
theorem k28_68 : mCode 28 68 = some (.iaload, 1) := by decide +kernel
theorem x28_68 {E : ME} {ls : MLs} {st : List MV} {g : MG} {μ : MU} {Q : Option MV → MG → MU → Prop} {a : Nat} {j : Int} : Wp E 28 68 ls (.inl j :: .inr (.inr (.inl a)) :: st) g μ Q = (((mKd g a).1 = 10 ∧ 0 ≤ j ∧ j < (mKd g a).2) ∧ Wp E 28 69 ls (.inl (μ a j.toNat) :: st) g μ Q) := Wp_ald k28_68 (fun _ => rfl)
theorem k28_69 : mCode 28 69 = some (.invokevirtual 66, 3) := by decide +kernel
theorem x28_69 {E : ME} {ls : MLs} {st : List MV} {g : MG} {μ : MU} {Q : Option MV → MG → MU → Prop} {r : Nat} {a0 : Nat ⊕ Nat} {a1 : Int} : Wp E 28 69 ls (.inl a1 :: .inr (.inr a0) :: .inr (.inr (.inl r)) :: st) g μ Q = ((st.length ≤ 4 ∧ ((mKd g r).1 == 3) = true) ∧ Wp E 30 0 [some (.inr (.inr (.inl r))), some (.inr (.inr a0)), some (.inl a1), none, none] [] g μ (fun r g' μ' => (g'.1 = g.1 ∧ g'.2.1 = g.2.1) ∧ Wp E 28 72 ls (mPush r st) g' μ' Q)) := Wp_cV k28_69 m3_66 (by decide) (as := [.inr (.inr (.inl r)), .inr (.inr a0), .inl a1]) rfl rfl rfl ⟨Nat.le_of_ble_eq_true rfl, by decide⟩
theorem k28_72 : mCode 28 72 = some (.aload_n 0, 1) := by decide +kernel
theorem x28_72 {E : ME} {ls : MLs} {st : List MV} {g : MG} {μ : MU} {Q : Option MV → MG → MU → Prop} {v : Nat ⊕ Nat} : Wp E 28 72 (some (.inr (.inr v)) :: ls) st g μ Q = Wp E 28 73 (some (.inr (.inr v)) :: ls) (.inr (.inr v) :: st) g μ Q := Wp_nx k28_72 rfl
theorem k28_73 : mCode 28 73 = some (.aload_n 1, 1) := by decide +kernel
theorem x28_73 {E : ME} {ls : MLs} {st : List MV} {g : MG} {μ : MU} {Q : Option MV → MG → MU → Prop} {l0 : Option MV} {v : Nat ⊕ Nat} : Wp E 28 73 (l0 :: some (.inr (.inr v)) :: ls) st g μ Q = Wp E 28 74 (l0 :: some (.inr (.inr v)) :: ls) (.inr (.inr v) :: st) g μ Q := Wp_nx k28_73 rfl
theorem k28_74 : mCode 28 74 = some (.aload_n 0, 1) := by decide +kernel
theorem x28_74 {E : ME} {ls : MLs} {st : List MV} {g : MG} {μ : MU} {Q : Option MV → MG → MU → Prop} {v : Nat ⊕ Nat} : Wp E 28 74 (some (.inr (.inr v)) :: ls) st g μ Q = Wp E 28 75 (some (.inr (.inr v)) :: ls) (.inr (.inr v) :: st) g μ Q := Wp_nx k28_74 rfl
theorem k28_75 : mCode 28 75 = some (.getfield 9, 3) := by decide +kernel
theorem x28_75 {E : ME} {ls : MLs} {st : List MV} {g : MG} {μ : MU} {Q : Option MV → MG → MU → Prop} {a : Nat} : Wp E 28 75 ls (.inr (.inr (.inl a)) :: st) g μ Q = ((mKd g a).1 = 3 ∧ Wp E 28 78 ls (mRv (mRf g a 0) :: st) g μ Q) := Wp_getR k28_75 f3_9 (by decide) (by decide)
theorem k28_78 : mCode 28 78 = some (.iload_n 2, 1) := by decide +kernel
theorem x28_78 {E : ME} {ls : MLs} {st : List MV} {g : MG} {μ : MU} {Q : Option MV → MG → MU → Prop} {l0 l1 : Option MV} {v : Int} : Wp E 28 78 (l0 :: l1 :: some (.inl v) :: ls) st g μ Q = Wp E 28 79 (l0 :: l1 :: some (.inl v) :: ls) (.inl v :: st) g μ Q := Wp_nx k28_78 rfl
theorem k28_79 : mCode 28 79 = some (.iaload, 1) := by decide +kernel
theorem x28_79 {E : ME} {ls : MLs} {st : List MV} {g : MG} {μ : MU} {Q : Option MV → MG → MU → Prop} {a : Nat} {j : Int} : Wp E 28 79 ls (.inl j :: .inr (.inr (.inl a)) :: st) g μ Q = (((mKd g a).1 = 10 ∧ 0 ≤ j ∧ j < (mKd g a).2) ∧ Wp E 28 80 ls (.inl (μ a j.toNat) :: st) g μ Q) := Wp_ald k28_79 (fun _ => rfl)
theorem k28_80 : mCode 28 80 = some (.invokevirtual 69, 3) := by decide +kernel
theorem x28_80 {E : ME} {ls : MLs} {st : List MV} {g : MG} {μ : MU} {Q : Option MV → MG → MU → Prop} {r : Nat} {a0 : Nat ⊕ Nat} {a1 : Int} : Wp E 28 80 ls (.inl a1 :: .inr (.inr a0) :: .inr (.inr (.inl r)) :: st) g μ Q = ((st.length ≤ 4 ∧ ((mKd g r).1 == 3) = true) ∧ Wp E 31 0 [some (.inr (.inr (.inl r))), some (.inr (.inr a0)), some (.inl a1), none, none] [] g μ (fun r g' μ' => (g'.1 = g.1 ∧ g'.2.1 = g.2.1) ∧ Wp E 28 83 ls (mPush r st) g' μ' Q)) := Wp_cV k28_80 m3_69 (by decide) (as := [.inr (.inr (.inl r)), .inr (.inr a0), .inl a1]) rfl rfl rfl ⟨Nat.le_of_ble_eq_true rfl, by decide⟩
theorem k28_83 : mCode 28 83 = some (.iinc 2 1, 3) := by decide +kernel
theorem x28_83 {E : ME} {ls : MLs} {st : List MV} {g : MG} {μ : MU} {Q : Option MV → MG → MU → Prop} {l0 l1 : Option MV} {v : Int} : Wp E 28 83 (l0 :: l1 :: some (.inl v) :: ls) st g μ Q = (mNl (some l1) = true ∧ Wp E 28 86 (l0 :: l1 :: some (.inl (mWr (v + 1))) :: ls) st g μ Q) := Wp_inc k28_83 rfl rfl rfl
theorem k28_86 : mCode 28 86 = some (.goto (-45), 3) := by decide +kernel
theorem x28_86 {E : ME} {ls : MLs} {st : List MV} {g : MG} {μ : MU} {Q : Option MV → MG → MU → Prop} : Wp E 28 86 ls st g μ Q = Wp E 28 41 ls st g μ Q := Wp_goto k28_86 (by decide)
theorem k28_89 : mCode 28 89 = some (.return_, 1) := by decide +kernel
theorem x28_89 {E : ME} {ls : MLs} {g : MG} {μ : MU} {Q : Option MV → MG → MU → Prop} : Wp E 28 89 ls [] g μ Q = Q none g μ := Wp_retV k28_89 (by decide)
theorem k29_0 : mCode 29 0 = some (.iconst 0, 1) := by decide +kernel
theorem x29_0 {E : ME} {ls : MLs} {st : List MV} {g : MG} {μ : MU} {Q : Option MV → MG → MU → Prop} : Wp E 29 0 ls st g μ Q = Wp E 29 1 ls (.inl 0 :: st) g μ Q := Wp_nx k29_0 rfl
theorem k29_1 : mCode 29 1 = some (.istore_n 2, 1) := by decide +kernel
theorem x29_1 {E : ME} {ls : MLs} {st : List MV} {g : MG} {μ : MU} {Q : Option MV → MG → MU → Prop} {l0 l1 : Option MV} {lk : Option MV} {v : Int} : Wp E 29 1 (l0 :: l1 :: lk :: ls) (.inl v :: st) g μ Q = ((mNl (some l1) = true ∧ mNl (some lk) = true) ∧ Wp E 29 2 (l0 :: l1 :: some (.inl v) :: ls) st g μ Q) := Wp_sti k29_1 (fun _ => rfl) rfl rfl rfl
theorem k29_2 : mCode 29 2 = some (.iload_n 2, 1) := by decide +kernel
theorem x29_2 {E : ME} {ls : MLs} {st : List MV} {g : MG} {μ : MU} {Q : Option MV → MG → MU → Prop} {l0 l1 : Option MV} {v : Int} : Wp E 29 2 (l0 :: l1 :: some (.inl v) :: ls) st g μ Q = Wp E 29 3 (l0 :: l1 :: some (.inl v) :: ls) (.inl v :: st) g μ Q := Wp_nx k29_2 rfl
theorem k29_3 : mCode 29 3 = some (.aload_n 1, 1) := by decide +kernel
theorem x29_3 {E : ME} {ls : MLs} {st : List MV} {g : MG} {μ : MU} {Q : Option MV → MG → MU → Prop} {l0 : Option MV} {v : Nat ⊕ Nat} : Wp E 29 3 (l0 :: some (.inr (.inr v)) :: ls) st g μ Q = Wp E 29 4 (l0 :: some (.inr (.inr v)) :: ls) (.inr (.inr v) :: st) g μ Q := Wp_nx k29_3 rfl
theorem k29_4 : mCode 29 4 = some (.getfield 63, 3) := by decide +kernel
theorem x29_4 {E : ME} {ls : MLs} {st : List MV} {g : MG} {μ : MU} {Q : Option MV → MG → MU → Prop} {a : Nat} : Wp E 29 4 ls (.inr (.inr (.inl a)) :: st) g μ Q = ((mKd g a).1 = 0 ∧ Wp E 29 7 ls (.inl (μ a 7) :: st) g μ Q) := Wp_getI k29_4 f3_63 (by decide) (by decide)
theorem k29_7 : mCode 29 7 = some (.if_icmp .ge 64, 3) := by decide +kernel
theorem x29_7 {E : ME} {ls : MLs} {st : List MV} {g : MG} {μ : MU} {Q : Option MV → MG → MU → Prop} {a b : Int} : Wp E 29 7 ls (.inl b :: .inl a :: st) g μ Q = ((b ≤ a → Wp E 29 71 ls st g μ Q) ∧ (a < b → Wp E 29 10 ls st g μ Q)) := Wp_cmp_ge k29_7 (by decide)
theorem k29_10 : mCode 29 10 = some (.iload_n 2, 1) := by decide +kernel
theorem x29_10 {E : ME} {ls : MLs} {st : List MV} {g : MG} {μ : MU} {Q : Option MV → MG → MU → Prop} {l0 l1 : Option MV} {v : Int} : Wp E 29 10 (l0 :: l1 :: some (.inl v) :: ls) st g μ Q = Wp E 29 11 (l0 :: l1 :: some (.inl v) :: ls) (.inl v :: st) g μ Q := Wp_nx k29_10 rfl
theorem k29_11 : mCode 29 11 = some (.istore_n 3, 1) := by decide +kernel
theorem x29_11 {E : ME} {ls : MLs} {st : List MV} {g : MG} {μ : MU} {Q : Option MV → MG → MU → Prop} {l0 l1 l2 : Option MV} {lk : Option MV} {v : Int} : Wp E 29 11 (l0 :: l1 :: l2 :: lk :: ls) (.inl v :: st) g μ Q = ((mNl (some l2) = true ∧ mNl (some lk) = true) ∧ Wp E 29 12 (l0 :: l1 :: l2 :: some (.inl v) :: ls) st g μ Q) := Wp_sti k29_11 (fun _ => rfl) rfl rfl rfl
theorem k29_12 : mCode 29 12 = some (.iload_n 3, 1) := by decide +kernel
theorem x29_12 {E : ME} {ls : MLs} {st : List MV} {g : MG} {μ : MU} {Q : Option MV → MG → MU → Prop} {l0 l1 l2 : Option MV} {v : Int} : Wp E 29 12 (l0 :: l1 :: l2 :: some (.inl v) :: ls) st g μ Q = Wp E 29 13 (l0 :: l1 :: l2 :: some (.inl v) :: ls) (.inl v :: st) g μ Q := Wp_nx k29_12 rfl
theorem k29_13 : mCode 29 13 = some (.ifCond .le 45, 3) := by decide +kernel
theorem x29_13 {E : ME} {ls : MLs} {st : List MV} {g : MG} {μ : MU} {Q : Option MV → MG → MU → Prop} {a : Int} : Wp E 29 13 ls (.inl a :: st) g μ Q = ((a ≤ 0 → Wp E 29 58 ls st g μ Q) ∧ (0 < a → Wp E 29 16 ls st g μ Q)) := Wp_if_le k29_13 (by decide)
theorem k29_16 : mCode 29 16 = some (.aload_n 1, 1) := by decide +kernel
theorem x29_16 {E : ME} {ls : MLs} {st : List MV} {g : MG} {μ : MU} {Q : Option MV → MG → MU → Prop} {l0 : Option MV} {v : Nat ⊕ Nat} : Wp E 29 16 (l0 :: some (.inr (.inr v)) :: ls) st g μ Q = Wp E 29 17 (l0 :: some (.inr (.inr v)) :: ls) (.inr (.inr v) :: st) g μ Q := Wp_nx k29_16 rfl
theorem k29_17 : mCode 29 17 = some (.getfield 72, 3) := by decide +kernel
theorem x29_17 {E : ME} {ls : MLs} {st : List MV} {g : MG} {μ : MU} {Q : Option MV → MG → MU → Prop} {a : Nat} : Wp E 29 17 ls (.inr (.inr (.inl a)) :: st) g μ Q = ((mKd g a).1 = 0 ∧ Wp E 29 20 ls (mRv (mRf g a 10) :: st) g μ Q) := Wp_getR k29_17 f3_72 (by decide) (by decide)
theorem k29_20 : mCode 29 20 = some (.aload_n 0, 1) := by decide +kernel
theorem x29_20 {E : ME} {ls : MLs} {st : List MV} {g : MG} {μ : MU} {Q : Option MV → MG → MU → Prop} {v : Nat ⊕ Nat} : Wp E 29 20 (some (.inr (.inr v)) :: ls) st g μ Q = Wp E 29 21 (some (.inr (.inr v)) :: ls) (.inr (.inr v) :: st) g μ Q := Wp_nx k29_20 rfl
theorem k29_21 : mCode 29 21 = some (.getfield 9, 3) := by decide +kernel
theorem x29_21 {E : ME} {ls : MLs} {st : List MV} {g : MG} {μ : MU} {Q : Option MV → MG → MU → Prop} {a : Nat} : Wp E 29 21 ls (.inr (.inr (.inl a)) :: st) g μ Q = ((mKd g a).1 = 3 ∧ Wp E 29 24 ls (mRv (mRf g a 0) :: st) g μ Q) := Wp_getR k29_21 f3_9 (by decide) (by decide)
theorem k29_24 : mCode 29 24 = some (.iload_n 3, 1) := by decide +kernel
theorem x29_24 {E : ME} {ls : MLs} {st : List MV} {g : MG} {μ : MU} {Q : Option MV → MG → MU → Prop} {l0 l1 l2 : Option MV} {v : Int} : Wp E 29 24 (l0 :: l1 :: l2 :: some (.inl v) :: ls) st g μ Q = Wp E 29 25 (l0 :: l1 :: l2 :: some (.inl v) :: ls) (.inl v :: st) g μ Q := Wp_nx k29_24 rfl
theorem k29_25 : mCode 29 25 = some (.iconst 1, 1) := by decide +kernel
theorem x29_25 {E : ME} {ls : MLs} {st : List MV} {g : MG} {μ : MU} {Q : Option MV → MG → MU → Prop} : Wp E 29 25 ls st g μ Q = Wp E 29 26 ls (.inl 1 :: st) g μ Q := Wp_nx k29_25 rfl
theorem k29_26 : mCode 29 26 = some (.isub, 1) := by decide +kernel
theorem x29_26 {E : ME} {ls : MLs} {st : List MV} {g : MG} {μ : MU} {Q : Option MV → MG → MU → Prop} {a b : Int} : Wp E 29 26 ls (.inl b :: .inl a :: st) g μ Q = Wp E 29 27 ls (.inl (mWr (a - b)) :: st) g μ Q := Wp_nx k29_26 rfl
theorem k29_27 : mCode 29 27 = some (.iaload, 1) := by decide +kernel
theorem x29_27 {E : ME} {ls : MLs} {st : List MV} {g : MG} {μ : MU} {Q : Option MV → MG → MU → Prop} {a : Nat} {j : Int} : Wp E 29 27 ls (.inl j :: .inr (.inr (.inl a)) :: st) g μ Q = (((mKd g a).1 = 10 ∧ 0 ≤ j ∧ j < (mKd g a).2) ∧ Wp E 29 28 ls (.inl (μ a j.toNat) :: st) g μ Q) := Wp_ald k29_27 (fun _ => rfl)
theorem k29_28 : mCode 29 28 = some (.iaload, 1) := by decide +kernel
theorem x29_28 {E : ME} {ls : MLs} {st : List MV} {g : MG} {μ : MU} {Q : Option MV → MG → MU → Prop} {a : Nat} {j : Int} : Wp E 29 28 ls (.inl j :: .inr (.inr (.inl a)) :: st) g μ Q = (((mKd g a).1 = 10 ∧ 0 ≤ j ∧ j < (mKd g a).2) ∧ Wp E 29 29 ls (.inl (μ a j.toNat) :: st) g μ Q) := Wp_ald k29_28 (fun _ => rfl)
theorem k29_29 : mCode 29 29 = some (.aload_n 1, 1) := by decide +kernel
theorem x29_29 {E : ME} {ls : MLs} {st : List MV} {g : MG} {μ : MU} {Q : Option MV → MG → MU → Prop} {l0 : Option MV} {v : Nat ⊕ Nat} : Wp E 29 29 (l0 :: some (.inr (.inr v)) :: ls) st g μ Q = Wp E 29 30 (l0 :: some (.inr (.inr v)) :: ls) (.inr (.inr v) :: st) g μ Q := Wp_nx k29_29 rfl
theorem k29_30 : mCode 29 30 = some (.getfield 72, 3) := by decide +kernel
theorem x29_30 {E : ME} {ls : MLs} {st : List MV} {g : MG} {μ : MU} {Q : Option MV → MG → MU → Prop} {a : Nat} : Wp E 29 30 ls (.inr (.inr (.inl a)) :: st) g μ Q = ((mKd g a).1 = 0 ∧ Wp E 29 33 ls (mRv (mRf g a 10) :: st) g μ Q) := Wp_getR k29_30 f3_72 (by decide) (by decide)
theorem k29_33 : mCode 29 33 = some (.iload_n 2, 1) := by decide +kernel
theorem x29_33 {E : ME} {ls : MLs} {st : List MV} {g : MG} {μ : MU} {Q : Option MV → MG → MU → Prop} {l0 l1 : Option MV} {v : Int} : Wp E 29 33 (l0 :: l1 :: some (.inl v) :: ls) st g μ Q = Wp E 29 34 (l0 :: l1 :: some (.inl v) :: ls) (.inl v :: st) g μ Q := Wp_nx k29_33 rfl
theorem k29_34 : mCode 29 34 = some (.iaload, 1) := by decide +kernel
theorem x29_34 {E : ME} {ls : MLs} {st : List MV} {g : MG} {μ : MU} {Q : Option MV → MG → MU → Prop} {a : Nat} {j : Int} : Wp E 29 34 ls (.inl j :: .inr (.inr (.inl a)) :: st) g μ Q = (((mKd g a).1 = 10 ∧ 0 ≤ j ∧ j < (mKd g a).2) ∧ Wp E 29 35 ls (.inl (μ a j.toNat) :: st) g μ Q) := Wp_ald k29_34 (fun _ => rfl)
theorem k29_35 : mCode 29 35 = some (.if_icmp .le 23, 3) := by decide +kernel
theorem x29_35 {E : ME} {ls : MLs} {st : List MV} {g : MG} {μ : MU} {Q : Option MV → MG → MU → Prop} {a b : Int} : Wp E 29 35 ls (.inl b :: .inl a :: st) g μ Q = ((a ≤ b → Wp E 29 58 ls st g μ Q) ∧ (b < a → Wp E 29 38 ls st g μ Q)) := Wp_cmp_le k29_35 (by decide)
theorem k29_38 : mCode 29 38 = some (.aload_n 0, 1) := by decide +kernel
theorem x29_38 {E : ME} {ls : MLs} {st : List MV} {g : MG} {μ : MU} {Q : Option MV → MG → MU → Prop} {v : Nat ⊕ Nat} : Wp E 29 38 (some (.inr (.inr v)) :: ls) st g μ Q = Wp E 29 39 (some (.inr (.inr v)) :: ls) (.inr (.inr v) :: st) g μ Q := Wp_nx k29_38 rfl
theorem k29_39 : mCode 29 39 = some (.getfield 9, 3) := by decide +kernel
theorem x29_39 {E : ME} {ls : MLs} {st : List MV} {g : MG} {μ : MU} {Q : Option MV → MG → MU → Prop} {a : Nat} : Wp E 29 39 ls (.inr (.inr (.inl a)) :: st) g μ Q = ((mKd g a).1 = 3 ∧ Wp E 29 42 ls (mRv (mRf g a 0) :: st) g μ Q) := Wp_getR k29_39 f3_9 (by decide) (by decide)
theorem k29_42 : mCode 29 42 = some (.iload_n 3, 1) := by decide +kernel
theorem x29_42 {E : ME} {ls : MLs} {st : List MV} {g : MG} {μ : MU} {Q : Option MV → MG → MU → Prop} {l0 l1 l2 : Option MV} {v : Int} : Wp E 29 42 (l0 :: l1 :: l2 :: some (.inl v) :: ls) st g μ Q = Wp E 29 43 (l0 :: l1 :: l2 :: some (.inl v) :: ls) (.inl v :: st) g μ Q := Wp_nx k29_42 rfl
theorem k29_43 : mCode 29 43 = some (.aload_n 0, 1) := by decide +kernel
theorem x29_43 {E : ME} {ls : MLs} {st : List MV} {g : MG} {μ : MU} {Q : Option MV → MG → MU → Prop} {v : Nat ⊕ Nat} : Wp E 29 43 (some (.inr (.inr v)) :: ls) st g μ Q = Wp E 29 44 (some (.inr (.inr v)) :: ls) (.inr (.inr v) :: st) g μ Q := Wp_nx k29_43 rfl
theorem k29_44 : mCode 29 44 = some (.getfield 9, 3) := by decide +kernel
theorem x29_44 {E : ME} {ls : MLs} {st : List MV} {g : MG} {μ : MU} {Q : Option MV → MG → MU → Prop} {a : Nat} : Wp E 29 44 ls (.inr (.inr (.inl a)) :: st) g μ Q = ((mKd g a).1 = 3 ∧ Wp E 29 47 ls (mRv (mRf g a 0) :: st) g μ Q) := Wp_getR k29_44 f3_9 (by decide) (by decide)
theorem k29_47 : mCode 29 47 = some (.iload_n 3, 1) := by decide +kernel
theorem x29_47 {E : ME} {ls : MLs} {st : List MV} {g : MG} {μ : MU} {Q : Option MV → MG → MU → Prop} {l0 l1 l2 : Option MV} {v : Int} : Wp E 29 47 (l0 :: l1 :: l2 :: some (.inl v) :: ls) st g μ Q = Wp E 29 48 (l0 :: l1 :: l2 :: some (.inl v) :: ls) (.inl v :: st) g μ Q := Wp_nx k29_47 rfl
theorem k29_48 : mCode 29 48 = some (.iconst 1, 1) := by decide +kernel
theorem x29_48 {E : ME} {ls : MLs} {st : List MV} {g : MG} {μ : MU} {Q : Option MV → MG → MU → Prop} : Wp E 29 48 ls st g μ Q = Wp E 29 49 ls (.inl 1 :: st) g μ Q := Wp_nx k29_48 rfl
theorem k29_49 : mCode 29 49 = some (.isub, 1) := by decide +kernel
theorem x29_49 {E : ME} {ls : MLs} {st : List MV} {g : MG} {μ : MU} {Q : Option MV → MG → MU → Prop} {a b : Int} : Wp E 29 49 ls (.inl b :: .inl a :: st) g μ Q = Wp E 29 50 ls (.inl (mWr (a - b)) :: st) g μ Q := Wp_nx k29_49 rfl
theorem k29_50 : mCode 29 50 = some (.iaload, 1) := by decide +kernel
theorem x29_50 {E : ME} {ls : MLs} {st : List MV} {g : MG} {μ : MU} {Q : Option MV → MG → MU → Prop} {a : Nat} {j : Int} : Wp E 29 50 ls (.inl j :: .inr (.inr (.inl a)) :: st) g μ Q = (((mKd g a).1 = 10 ∧ 0 ≤ j ∧ j < (mKd g a).2) ∧ Wp E 29 51 ls (.inl (μ a j.toNat) :: st) g μ Q) := Wp_ald k29_50 (fun _ => rfl)
theorem k29_51 : mCode 29 51 = some (.iastore, 1) := by decide +kernel
theorem x29_51 {E : ME} {ls : MLs} {st : List MV} {g : MG} {μ : MU} {Q : Option MV → MG → MU → Prop} {a : Nat} {j v : Int} : Wp E 29 51 ls (.inl v :: .inl j :: .inr (.inr (.inl a)) :: st) g μ Q = (((mKd g a).1 = 10 ∧ 0 ≤ j ∧ j < (mKd g a).2) ∧ Wp E 29 52 ls st g (mUp μ a j.toNat v) Q) := Wp_iast k29_51
theorem k29_52 : mCode 29 52 = some (.iinc 3 (-1), 3) := by decide +kernel
theorem x29_52 {E : ME} {ls : MLs} {st : List MV} {g : MG} {μ : MU} {Q : Option MV → MG → MU → Prop} {l0 l1 l2 : Option MV} {v : Int} : Wp E 29 52 (l0 :: l1 :: l2 :: some (.inl v) :: ls) st g μ Q = (mNl (some l2) = true ∧ Wp E 29 55 (l0 :: l1 :: l2 :: some (.inl (mWr (v + (-1)))) :: ls) st g μ Q) := Wp_inc k29_52 rfl rfl rfl
theorem k29_55 : mCode 29 55 = some (.goto (-43), 3) := by decide +kernel
theorem x29_55 {E : ME} {ls : MLs} {st : List MV} {g : MG} {μ : MU} {Q : Option MV → MG → MU → Prop} : Wp E 29 55 ls st g μ Q = Wp E 29 12 ls st g μ Q := Wp_goto k29_55 (by decide)
theorem k29_58 : mCode 29 58 = some (.aload_n 0, 1) := by decide +kernel
theorem x29_58 {E : ME} {ls : MLs} {st : List MV} {g : MG} {μ : MU} {Q : Option MV → MG → MU → Prop} {v : Nat ⊕ Nat} : Wp E 29 58 (some (.inr (.inr v)) :: ls) st g μ Q = Wp E 29 59 (some (.inr (.inr v)) :: ls) (.inr (.inr v) :: st) g μ Q := Wp_nx k29_58 rfl
theorem k29_59 : mCode 29 59 = some (.getfield 9, 3) := by decide +kernel
theorem x29_59 {E : ME} {ls : MLs} {st : List MV} {g : MG} {μ : MU} {Q : Option MV → MG → MU → Prop} {a : Nat} : Wp E 29 59 ls (.inr (.inr (.inl a)) :: st) g μ Q = ((mKd g a).1 = 3 ∧ Wp E 29 62 ls (mRv (mRf g a 0) :: st) g μ Q) := Wp_getR k29_59 f3_9 (by decide) (by decide)
theorem k29_62 : mCode 29 62 = some (.iload_n 3, 1) := by decide +kernel
theorem x29_62 {E : ME} {ls : MLs} {st : List MV} {g : MG} {μ : MU} {Q : Option MV → MG → MU → Prop} {l0 l1 l2 : Option MV} {v : Int} : Wp E 29 62 (l0 :: l1 :: l2 :: some (.inl v) :: ls) st g μ Q = Wp E 29 63 (l0 :: l1 :: l2 :: some (.inl v) :: ls) (.inl v :: st) g μ Q := Wp_nx k29_62 rfl
theorem k29_63 : mCode 29 63 = some (.iload_n 2, 1) := by decide +kernel
theorem x29_63 {E : ME} {ls : MLs} {st : List MV} {g : MG} {μ : MU} {Q : Option MV → MG → MU → Prop} {l0 l1 : Option MV} {v : Int} : Wp E 29 63 (l0 :: l1 :: some (.inl v) :: ls) st g μ Q = Wp E 29 64 (l0 :: l1 :: some (.inl v) :: ls) (.inl v :: st) g μ Q := Wp_nx k29_63 rfl
theorem k29_64 : mCode 29 64 = some (.iastore, 1) := by decide +kernel
theorem x29_64 {E : ME} {ls : MLs} {st : List MV} {g : MG} {μ : MU} {Q : Option MV → MG → MU → Prop} {a : Nat} {j v : Int} : Wp E 29 64 ls (.inl v :: .inl j :: .inr (.inr (.inl a)) :: st) g μ Q = (((mKd g a).1 = 10 ∧ 0 ≤ j ∧ j < (mKd g a).2) ∧ Wp E 29 65 ls st g (mUp μ a j.toNat v) Q) := Wp_iast k29_64
theorem k29_65 : mCode 29 65 = some (.iinc 2 1, 3) := by decide +kernel
theorem x29_65 {E : ME} {ls : MLs} {st : List MV} {g : MG} {μ : MU} {Q : Option MV → MG → MU → Prop} {l0 l1 : Option MV} {v : Int} : Wp E 29 65 (l0 :: l1 :: some (.inl v) :: ls) st g μ Q = (mNl (some l1) = true ∧ Wp E 29 68 (l0 :: l1 :: some (.inl (mWr (v + 1))) :: ls) st g μ Q) := Wp_inc k29_65 rfl rfl rfl
theorem k29_68 : mCode 29 68 = some (.goto (-66), 3) := by decide +kernel
theorem x29_68 {E : ME} {ls : MLs} {st : List MV} {g : MG} {μ : MU} {Q : Option MV → MG → MU → Prop} : Wp E 29 68 ls st g μ Q = Wp E 29 2 ls st g μ Q := Wp_goto k29_68 (by decide)
theorem k29_71 : mCode 29 71 = some (.return_, 1) := by decide +kernel
theorem x29_71 {E : ME} {ls : MLs} {g : MG} {μ : MU} {Q : Option MV → MG → MU → Prop} : Wp E 29 71 ls [] g μ Q = Q none g μ := Wp_retV k29_71 (by decide)
theorem k30_0 : mCode 30 0 = some (.aload_n 1, 1) := by decide +kernel
theorem x30_0 {E : ME} {ls : MLs} {st : List MV} {g : MG} {μ : MU} {Q : Option MV → MG → MU → Prop} {l0 : Option MV} {v : Nat ⊕ Nat} : Wp E 30 0 (l0 :: some (.inr (.inr v)) :: ls) st g μ Q = Wp E 30 1 (l0 :: some (.inr (.inr v)) :: ls) (.inr (.inr v) :: st) g μ Q := Wp_nx k30_0 rfl
theorem k30_1 : mCode 30 1 = some (.getfield 75, 3) := by decide +kernel
theorem x30_1 {E : ME} {ls : MLs} {st : List MV} {g : MG} {μ : MU} {Q : Option MV → MG → MU → Prop} {a : Nat} : Wp E 30 1 ls (.inr (.inr (.inl a)) :: st) g μ Q = ((mKd g a).1 = 0 ∧ Wp E 30 4 ls (mRv (mRf g a 8) :: st) g μ Q) := Wp_getR k30_1 f3_75 (by decide) (by decide)
theorem k30_4 : mCode 30 4 = some (.iload_n 2, 1) := by decide +kernel
theorem x30_4 {E : ME} {ls : MLs} {st : List MV} {g : MG} {μ : MU} {Q : Option MV → MG → MU → Prop} {l0 l1 : Option MV} {v : Int} : Wp E 30 4 (l0 :: l1 :: some (.inl v) :: ls) st g μ Q = Wp E 30 5 (l0 :: l1 :: some (.inl v) :: ls) (.inl v :: st) g μ Q := Wp_nx k30_4 rfl
theorem k30_5 : mCode 30 5 = some (.iaload, 1) := by decide +kernel
theorem x30_5 {E : ME} {ls : MLs} {st : List MV} {g : MG} {μ : MU} {Q : Option MV → MG → MU → Prop} {a : Nat} {j : Int} : Wp E 30 5 ls (.inl j :: .inr (.inr (.inl a)) :: st) g μ Q = (((mKd g a).1 = 10 ∧ 0 ≤ j ∧ j < (mKd g a).2) ∧ Wp E 30 6 ls (.inl (μ a j.toNat) :: st) g μ Q) := Wp_ald k30_5 (fun _ => rfl)
theorem k30_6 : mCode 30 6 = some (.istore_n 3, 1) := by decide +kernel
theorem x30_6 {E : ME} {ls : MLs} {st : List MV} {g : MG} {μ : MU} {Q : Option MV → MG → MU → Prop} {l0 l1 l2 : Option MV} {lk : Option MV} {v : Int} : Wp E 30 6 (l0 :: l1 :: l2 :: lk :: ls) (.inl v :: st) g μ Q = ((mNl (some l2) = true ∧ mNl (some lk) = true) ∧ Wp E 30 7 (l0 :: l1 :: l2 :: some (.inl v) :: ls) st g μ Q) := Wp_sti k30_6 (fun _ => rfl) rfl rfl rfl
theorem k30_7 : mCode 30 7 = some (.aload_n 0, 1) := by decide +kernel
theorem x30_7 {E : ME} {ls : MLs} {st : List MV} {g : MG} {μ : MU} {Q : Option MV → MG → MU → Prop} {v : Nat ⊕ Nat} : Wp E 30 7 (some (.inr (.inr v)) :: ls) st g μ Q = Wp E 30 8 (some (.inr (.inr v)) :: ls) (.inr (.inr v) :: st) g μ Q := Wp_nx k30_7 rfl
theorem k30_8 : mCode 30 8 = some (.getfield 44, 3) := by decide +kernel
theorem x30_8 {E : ME} {ls : MLs} {st : List MV} {g : MG} {μ : MU} {Q : Option MV → MG → MU → Prop} {a : Nat} : Wp E 30 8 ls (.inr (.inr (.inl a)) :: st) g μ Q = ((mKd g a).1 = 3 ∧ Wp E 30 11 ls (mRv (mRf g a 10) :: st) g μ Q) := Wp_getR k30_8 f3_44 (by decide) (by decide)
theorem k30_11 : mCode 30 11 = some (.iload_n 3, 1) := by decide +kernel
theorem x30_11 {E : ME} {ls : MLs} {st : List MV} {g : MG} {μ : MU} {Q : Option MV → MG → MU → Prop} {l0 l1 l2 : Option MV} {v : Int} : Wp E 30 11 (l0 :: l1 :: l2 :: some (.inl v) :: ls) st g μ Q = Wp E 30 12 (l0 :: l1 :: l2 :: some (.inl v) :: ls) (.inl v :: st) g μ Q := Wp_nx k30_11 rfl
theorem k30_12 : mCode 30 12 = some (.aaload, 1) := by decide +kernel
theorem x30_12 {E : ME} {ls : MLs} {st : List MV} {g : MG} {μ : MU} {Q : Option MV → MG → MU → Prop} {a : Nat} {j : Int} : Wp E 30 12 ls (.inl j :: .inr (.inr (.inl a)) :: st) g μ Q = ((((mKd g a).1 = 13 ∨ (mKd g a).1 = 14) ∧ 0 ≤ j ∧ j < (mKd g a).2) ∧ Wp E 30 13 ls (mRv (mRf g a j.toNat) :: st) g μ Q) := Wp_aald k30_12
theorem k30_13 : mCode 30 13 = some (.astore 4, 2) := by decide +kernel
theorem x30_13 {E : ME} {ls : MLs} {st : List MV} {g : MG} {μ : MU} {Q : Option MV → MG → MU → Prop} {l0 l1 l2 l3 : Option MV} {lk : Option MV} {v : Nat ⊕ Nat} : Wp E 30 13 (l0 :: l1 :: l2 :: l3 :: lk :: ls) (.inr (.inr v) :: st) g μ Q = ((mNl (some l3) = true ∧ mNl (some lk) = true) ∧ Wp E 30 15 (l0 :: l1 :: l2 :: l3 :: some (.inr (.inr v)) :: ls) st g μ Q) := Wp_sta k30_13 (fun _ => rfl) rfl rfl rfl
theorem k30_15 : mCode 30 15 = some (.aload 4, 2) := by decide +kernel
theorem x30_15 {E : ME} {ls : MLs} {st : List MV} {g : MG} {μ : MU} {Q : Option MV → MG → MU → Prop} {l0 l1 l2 l3 : Option MV} {v : Nat ⊕ Nat} : Wp E 30 15 (l0 :: l1 :: l2 :: l3 :: some (.inr (.inr v)) :: ls) st g μ Q = Wp E 30 17 (l0 :: l1 :: l2 :: l3 :: some (.inr (.inr v)) :: ls) (.inr (.inr v) :: st) g μ Q := Wp_nx k30_15 rfl
theorem k30_17 : mCode 30 17 = some (.aload_n 1, 1) := by decide +kernel
theorem x30_17 {E : ME} {ls : MLs} {st : List MV} {g : MG} {μ : MU} {Q : Option MV → MG → MU → Prop} {l0 : Option MV} {v : Nat ⊕ Nat} : Wp E 30 17 (l0 :: some (.inr (.inr v)) :: ls) st g μ Q = Wp E 30 18 (l0 :: some (.inr (.inr v)) :: ls) (.inr (.inr v) :: st) g μ Q := Wp_nx k30_17 rfl
theorem k30_18 : mCode 30 18 = some (.aload_n 1, 1) := by decide +kernel
theorem x30_18 {E : ME} {ls : MLs} {st : List MV} {g : MG} {μ : MU} {Q : Option MV → MG → MU → Prop} {l0 : Option MV} {v : Nat ⊕ Nat} : Wp E 30 18 (l0 :: some (.inr (.inr v)) :: ls) st g μ Q = Wp E 30 19 (l0 :: some (.inr (.inr v)) :: ls) (.inr (.inr v) :: st) g μ Q := Wp_nx k30_18 rfl
theorem k30_19 : mCode 30 19 = some (.getfield 78, 3) := by decide +kernel
theorem x30_19 {E : ME} {ls : MLs} {st : List MV} {g : MG} {μ : MU} {Q : Option MV → MG → MU → Prop} {a : Nat} : Wp E 30 19 ls (.inr (.inr (.inl a)) :: st) g μ Q = ((mKd g a).1 = 0 ∧ Wp E 30 22 ls (mRv (mRf g a 9) :: st) g μ Q) := Wp_getR k30_19 f3_78 (by decide) (by decide)
theorem k30_22 : mCode 30 22 = some (.iload_n 2, 1) := by decide +kernel
theorem x30_22 {E : ME} {ls : MLs} {st : List MV} {g : MG} {μ : MU} {Q : Option MV → MG → MU → Prop} {l0 l1 : Option MV} {v : Int} : Wp E 30 22 (l0 :: l1 :: some (.inl v) :: ls) st g μ Q = Wp E 30 23 (l0 :: l1 :: some (.inl v) :: ls) (.inl v :: st) g μ Q := Wp_nx k30_22 rfl
theorem k30_23 : mCode 30 23 = some (.iaload, 1) := by decide +kernel
theorem x30_23 {E : ME} {ls : MLs} {st : List MV} {g : MG} {μ : MU} {Q : Option MV → MG → MU → Prop} {a : Nat} {j : Int} : Wp E 30 23 ls (.inl j :: .inr (.inr (.inl a)) :: st) g μ Q = (((mKd g a).1 = 10 ∧ 0 ≤ j ∧ j < (mKd g a).2) ∧ Wp E 30 24 ls (.inl (μ a j.toNat) :: st) g μ Q) := Wp_ald k30_23 (fun _ => rfl)
theorem k30_24 : mCode 30 24 = some (.aload_n 1, 1) := by decide +kernel
theorem x30_24 {E : ME} {ls : MLs} {st : List MV} {g : MG} {μ : MU} {Q : Option MV → MG → MU → Prop} {l0 : Option MV} {v : Nat ⊕ Nat} : Wp E 30 24 (l0 :: some (.inr (.inr v)) :: ls) st g μ Q = Wp E 30 25 (l0 :: some (.inr (.inr v)) :: ls) (.inr (.inr v) :: st) g μ Q := Wp_nx k30_24 rfl
theorem k30_25 : mCode 30 25 = some (.getfield 72, 3) := by decide +kernel
theorem x30_25 {E : ME} {ls : MLs} {st : List MV} {g : MG} {μ : MU} {Q : Option MV → MG → MU → Prop} {a : Nat} : Wp E 30 25 ls (.inr (.inr (.inl a)) :: st) g μ Q = ((mKd g a).1 = 0 ∧ Wp E 30 28 ls (mRv (mRf g a 10) :: st) g μ Q) := Wp_getR k30_25 f3_72 (by decide) (by decide)
theorem k30_28 : mCode 30 28 = some (.iload_n 2, 1) := by decide +kernel
theorem x30_28 {E : ME} {ls : MLs} {st : List MV} {g : MG} {μ : MU} {Q : Option MV → MG → MU → Prop} {l0 l1 : Option MV} {v : Int} : Wp E 30 28 (l0 :: l1 :: some (.inl v) :: ls) st g μ Q = Wp E 30 29 (l0 :: l1 :: some (.inl v) :: ls) (.inl v :: st) g μ Q := Wp_nx k30_28 rfl
theorem k30_29 : mCode 30 29 = some (.iaload, 1) := by decide +kernel
theorem x30_29 {E : ME} {ls : MLs} {st : List MV} {g : MG} {μ : MU} {Q : Option MV → MG → MU → Prop} {a : Nat} {j : Int} : Wp E 30 29 ls (.inl j :: .inr (.inr (.inl a)) :: st) g μ Q = (((mKd g a).1 = 10 ∧ 0 ≤ j ∧ j < (mKd g a).2) ∧ Wp E 30 30 ls (.inl (μ a j.toNat) :: st) g μ Q) := Wp_ald k30_29 (fun _ => rfl)
theorem k30_30 : mCode 30 30 = some (.invokevirtual 81, 3) := by decide +kernel
theorem x30_30 {E : ME} {ls : MLs} {st : List MV} {g : MG} {μ : MU} {Q : Option MV → MG → MU → Prop} {r : Nat} {a0 : Nat ⊕ Nat} {a1 : Int} {a2 : Int} : Wp E 30 30 ls (.inl a2 :: .inl a1 :: .inr (.inr a0) :: .inr (.inr (.inl r)) :: st) g μ Q = ((st.length ≤ 4 ∧ ((mKd g r).1 == 4) = true) ∧ Wp E 37 0 [some (.inr (.inr (.inl r))), some (.inr (.inr a0)), some (.inl a1), some (.inl a2), none, none, none] [] g μ (fun r g' μ' => (g'.1 = g.1 ∧ g'.2.1 = g.2.1) ∧ Wp E 30 33 ls (mPush r st) g' μ' Q)) := Wp_cV k30_30 m3_81 (by decide) (as := [.inr (.inr (.inl r)), .inr (.inr a0), .inl a1, .inl a2]) rfl rfl rfl ⟨Nat.le_of_ble_eq_true rfl, by decide⟩
theorem k30_33 : mCode 30 33 = some (.aload_n 0, 1) := by decide +kernel
theorem x30_33 {E : ME} {ls : MLs} {st : List MV} {g : MG} {μ : MU} {Q : Option MV → MG → MU → Prop} {v : Nat ⊕ Nat} : Wp E 30 33 (some (.inr (.inr v)) :: ls) st g μ Q = Wp E 30 34 (some (.inr (.inr v)) :: ls) (.inr (.inr v) :: st) g μ Q := Wp_nx k30_33 rfl
theorem k30_34 : mCode 30 34 = some (.getfield 18, 3) := by decide +kernel
theorem x30_34 {E : ME} {ls : MLs} {st : List MV} {g : MG} {μ : MU} {Q : Option MV → MG → MU → Prop} {a : Nat} : Wp E 30 34 ls (.inr (.inr (.inl a)) :: st) g μ Q = ((mKd g a).1 = 3 ∧ Wp E 30 37 ls (mRv (mRf g a 2) :: st) g μ Q) := Wp_getR k30_34 f3_18 (by decide) (by decide)
theorem k30_37 : mCode 30 37 = some (.iload_n 2, 1) := by decide +kernel
theorem x30_37 {E : ME} {ls : MLs} {st : List MV} {g : MG} {μ : MU} {Q : Option MV → MG → MU → Prop} {l0 l1 : Option MV} {v : Int} : Wp E 30 37 (l0 :: l1 :: some (.inl v) :: ls) st g μ Q = Wp E 30 38 (l0 :: l1 :: some (.inl v) :: ls) (.inl v :: st) g μ Q := Wp_nx k30_37 rfl
theorem k30_38 : mCode 30 38 = some (.aload 4, 2) := by decide +kernel
theorem x30_38 {E : ME} {ls : MLs} {st : List MV} {g : MG} {μ : MU} {Q : Option MV → MG → MU → Prop} {l0 l1 l2 l3 : Option MV} {v : Nat ⊕ Nat} : Wp E 30 38 (l0 :: l1 :: l2 :: l3 :: some (.inr (.inr v)) :: ls) st g μ Q = Wp E 30 40 (l0 :: l1 :: l2 :: l3 :: some (.inr (.inr v)) :: ls) (.inr (.inr v) :: st) g μ Q := Wp_nx k30_38 rfl
theorem k30_40 : mCode 30 40 = some (.getfield 85, 3) := by decide +kernel
theorem x30_40 {E : ME} {ls : MLs} {st : List MV} {g : MG} {μ : MU} {Q : Option MV → MG → MU → Prop} {a : Nat} : Wp E 30 40 ls (.inr (.inr (.inl a)) :: st) g μ Q = ((mKd g a).1 = 4 ∧ Wp E 30 43 ls (.inl (μ a 5) :: st) g μ Q) := Wp_getI k30_40 f3_85 (by decide) (by decide)
theorem k30_43 : mCode 30 43 = some (.iastore, 1) := by decide +kernel
theorem x30_43 {E : ME} {ls : MLs} {st : List MV} {g : MG} {μ : MU} {Q : Option MV → MG → MU → Prop} {a : Nat} {j v : Int} : Wp E 30 43 ls (.inl v :: .inl j :: .inr (.inr (.inl a)) :: st) g μ Q = (((mKd g a).1 = 10 ∧ 0 ≤ j ∧ j < (mKd g a).2) ∧ Wp E 30 44 ls st g (mUp μ a j.toNat v) Q) := Wp_iast k30_43
theorem k30_44 : mCode 30 44 = some (.aload_n 0, 1) := by decide +kernel
theorem x30_44 {E : ME} {ls : MLs} {st : List MV} {g : MG} {μ : MU} {Q : Option MV → MG → MU → Prop} {v : Nat ⊕ Nat} : Wp E 30 44 (some (.inr (.inr v)) :: ls) st g μ Q = Wp E 30 45 (some (.inr (.inr v)) :: ls) (.inr (.inr v) :: st) g μ Q := Wp_nx k30_44 rfl
theorem k30_45 : mCode 30 45 = some (.getfield 21, 3) := by decide +kernel
theorem x30_45 {E : ME} {ls : MLs} {st : List MV} {g : MG} {μ : MU} {Q : Option MV → MG → MU → Prop} {a : Nat} : Wp E 30 45 ls (.inr (.inr (.inl a)) :: st) g μ Q = ((mKd g a).1 = 3 ∧ Wp E 30 48 ls (mRv (mRf g a 3) :: st) g μ Q) := Wp_getR k30_45 f3_21 (by decide) (by decide)
theorem k30_48 : mCode 30 48 = some (.iload_n 2, 1) := by decide +kernel
theorem x30_48 {E : ME} {ls : MLs} {st : List MV} {g : MG} {μ : MU} {Q : Option MV → MG → MU → Prop} {l0 l1 : Option MV} {v : Int} : Wp E 30 48 (l0 :: l1 :: some (.inl v) :: ls) st g μ Q = Wp E 30 49 (l0 :: l1 :: some (.inl v) :: ls) (.inl v :: st) g μ Q := Wp_nx k30_48 rfl
theorem k30_49 : mCode 30 49 = some (.aload 4, 2) := by decide +kernel
theorem x30_49 {E : ME} {ls : MLs} {st : List MV} {g : MG} {μ : MU} {Q : Option MV → MG → MU → Prop} {l0 l1 l2 l3 : Option MV} {v : Nat ⊕ Nat} : Wp E 30 49 (l0 :: l1 :: l2 :: l3 :: some (.inr (.inr v)) :: ls) st g μ Q = Wp E 30 51 (l0 :: l1 :: l2 :: l3 :: some (.inr (.inr v)) :: ls) (.inr (.inr v) :: st) g μ Q := Wp_nx k30_49 rfl
theorem k30_51 : mCode 30 51 = some (.getfield 87, 3) := by decide +kernel
theorem x30_51 {E : ME} {ls : MLs} {st : List MV} {g : MG} {μ : MU} {Q : Option MV → MG → MU → Prop} {a : Nat} : Wp E 30 51 ls (.inr (.inr (.inl a)) :: st) g μ Q = ((mKd g a).1 = 4 ∧ Wp E 30 54 ls (.inl (μ a 6) :: st) g μ Q) := Wp_getI k30_51 f3_87 (by decide) (by decide)
theorem k30_54 : mCode 30 54 = some (.iastore, 1) := by decide +kernel
theorem x30_54 {E : ME} {ls : MLs} {st : List MV} {g : MG} {μ : MU} {Q : Option MV → MG → MU → Prop} {a : Nat} {j v : Int} : Wp E 30 54 ls (.inl v :: .inl j :: .inr (.inr (.inl a)) :: st) g μ Q = (((mKd g a).1 = 10 ∧ 0 ≤ j ∧ j < (mKd g a).2) ∧ Wp E 30 55 ls st g (mUp μ a j.toNat v) Q) := Wp_iast k30_54
theorem k30_55 : mCode 30 55 = some (.aload_n 0, 1) := by decide +kernel
theorem x30_55 {E : ME} {ls : MLs} {st : List MV} {g : MG} {μ : MU} {Q : Option MV → MG → MU → Prop} {v : Nat ⊕ Nat} : Wp E 30 55 (some (.inr (.inr v)) :: ls) st g μ Q = Wp E 30 56 (some (.inr (.inr v)) :: ls) (.inr (.inr v) :: st) g μ Q := Wp_nx k30_55 rfl
theorem k30_56 : mCode 30 56 = some (.getfield 24, 3) := by decide +kernel
theorem x30_56 {E : ME} {ls : MLs} {st : List MV} {g : MG} {μ : MU} {Q : Option MV → MG → MU → Prop} {a : Nat} : Wp E 30 56 ls (.inr (.inr (.inl a)) :: st) g μ Q = ((mKd g a).1 = 3 ∧ Wp E 30 59 ls (mRv (mRf g a 4) :: st) g μ Q) := Wp_getR k30_56 f3_24 (by decide) (by decide)
theorem k30_59 : mCode 30 59 = some (.iload_n 2, 1) := by decide +kernel
theorem x30_59 {E : ME} {ls : MLs} {st : List MV} {g : MG} {μ : MU} {Q : Option MV → MG → MU → Prop} {l0 l1 : Option MV} {v : Int} : Wp E 30 59 (l0 :: l1 :: some (.inl v) :: ls) st g μ Q = Wp E 30 60 (l0 :: l1 :: some (.inl v) :: ls) (.inl v :: st) g μ Q := Wp_nx k30_59 rfl
theorem k30_60 : mCode 30 60 = some (.aload 4, 2) := by decide +kernel
theorem x30_60 {E : ME} {ls : MLs} {st : List MV} {g : MG} {μ : MU} {Q : Option MV → MG → MU → Prop} {l0 l1 l2 l3 : Option MV} {v : Nat ⊕ Nat} : Wp E 30 60 (l0 :: l1 :: l2 :: l3 :: some (.inr (.inr v)) :: ls) st g μ Q = Wp E 30 62 (l0 :: l1 :: l2 :: l3 :: some (.inr (.inr v)) :: ls) (.inr (.inr v) :: st) g μ Q := Wp_nx k30_60 rfl
theorem k30_62 : mCode 30 62 = some (.getfield 89, 3) := by decide +kernel
theorem x30_62 {E : ME} {ls : MLs} {st : List MV} {g : MG} {μ : MU} {Q : Option MV → MG → MU → Prop} {a : Nat} : Wp E 30 62 ls (.inr (.inr (.inl a)) :: st) g μ Q = ((mKd g a).1 = 4 ∧ Wp E 30 65 ls (.inl (μ a 7) :: st) g μ Q) := Wp_getI k30_62 f3_89 (by decide) (by decide)
theorem k30_65 : mCode 30 65 = some (.iastore, 1) := by decide +kernel
theorem x30_65 {E : ME} {ls : MLs} {st : List MV} {g : MG} {μ : MU} {Q : Option MV → MG → MU → Prop} {a : Nat} {j v : Int} : Wp E 30 65 ls (.inl v :: .inl j :: .inr (.inr (.inl a)) :: st) g μ Q = (((mKd g a).1 = 10 ∧ 0 ≤ j ∧ j < (mKd g a).2) ∧ Wp E 30 66 ls st g (mUp μ a j.toNat v) Q) := Wp_iast k30_65
theorem k30_66 : mCode 30 66 = some (.aload_n 0, 1) := by decide +kernel
theorem x30_66 {E : ME} {ls : MLs} {st : List MV} {g : MG} {μ : MU} {Q : Option MV → MG → MU → Prop} {v : Nat ⊕ Nat} : Wp E 30 66 (some (.inr (.inr v)) :: ls) st g μ Q = Wp E 30 67 (some (.inr (.inr v)) :: ls) (.inr (.inr v) :: st) g μ Q := Wp_nx k30_66 rfl
theorem k30_67 : mCode 30 67 = some (.getfield 39, 3) := by decide +kernel
theorem x30_67 {E : ME} {ls : MLs} {st : List MV} {g : MG} {μ : MU} {Q : Option MV → MG → MU → Prop} {a : Nat} : Wp E 30 67 ls (.inr (.inr (.inl a)) :: st) g μ Q = ((mKd g a).1 = 3 ∧ Wp E 30 70 ls (mRv (mRf g a 9) :: st) g μ Q) := Wp_getR k30_67 f3_39 (by decide) (by decide)
theorem k30_70 : mCode 30 70 = some (.iload_n 3, 1) := by decide +kernel
theorem x30_70 {E : ME} {ls : MLs} {st : List MV} {g : MG} {μ : MU} {Q : Option MV → MG → MU → Prop} {l0 l1 l2 : Option MV} {v : Int} : Wp E 30 70 (l0 :: l1 :: l2 :: some (.inl v) :: ls) st g μ Q = Wp E 30 71 (l0 :: l1 :: l2 :: some (.inl v) :: ls) (.inl v :: st) g μ Q := Wp_nx k30_70 rfl
theorem k30_71 : mCode 30 71 = some (.dup2, 1) := by decide +kernel
theorem x30_71 {E : ME} {ls : MLs} {st : List MV} {g : MG} {μ : MU} {Q : Option MV → MG → MU → Prop} {v w : MV} : Wp E 30 71 ls (v :: w :: st) g μ Q = ((mC1 v = true ∧ mC1 w = true) ∧ Wp E 30 72 ls (v :: w :: v :: w :: st) g μ Q) := Wp_dup2 k30_71
theorem k30_72 : mCode 30 72 = some (.iaload, 1) := by decide +kernel
theorem x30_72 {E : ME} {ls : MLs} {st : List MV} {g : MG} {μ : MU} {Q : Option MV → MG → MU → Prop} {a : Nat} {j : Int} : Wp E 30 72 ls (.inl j :: .inr (.inr (.inl a)) :: st) g μ Q = (((mKd g a).1 = 10 ∧ 0 ≤ j ∧ j < (mKd g a).2) ∧ Wp E 30 73 ls (.inl (μ a j.toNat) :: st) g μ Q) := Wp_ald k30_72 (fun _ => rfl)
theorem k30_73 : mCode 30 73 = some (.aload 4, 2) := by decide +kernel
theorem x30_73 {E : ME} {ls : MLs} {st : List MV} {g : MG} {μ : MU} {Q : Option MV → MG → MU → Prop} {l0 l1 l2 l3 : Option MV} {v : Nat ⊕ Nat} : Wp E 30 73 (l0 :: l1 :: l2 :: l3 :: some (.inr (.inr v)) :: ls) st g μ Q = Wp E 30 75 (l0 :: l1 :: l2 :: l3 :: some (.inr (.inr v)) :: ls) (.inr (.inr v) :: st) g μ Q := Wp_nx k30_73 rfl
theorem k30_75 : mCode 30 75 = some (.getfield 91, 3) := by decide +kernel
theorem x30_75 {E : ME} {ls : MLs} {st : List MV} {g : MG} {μ : MU} {Q : Option MV → MG → MU → Prop} {a : Nat} : Wp E 30 75 ls (.inr (.inr (.inl a)) :: st) g μ Q = ((mKd g a).1 = 4 ∧ Wp E 30 78 ls (.inl (μ a 8) :: st) g μ Q) := Wp_getI k30_75 f3_91 (by decide) (by decide)
theorem k30_78 : mCode 30 78 = some (.iadd, 1) := by decide +kernel
theorem x30_78 {E : ME} {ls : MLs} {st : List MV} {g : MG} {μ : MU} {Q : Option MV → MG → MU → Prop} {a b : Int} : Wp E 30 78 ls (.inl b :: .inl a :: st) g μ Q = Wp E 30 79 ls (.inl (mWr (a + b)) :: st) g μ Q := Wp_nx k30_78 rfl
theorem k30_79 : mCode 30 79 = some (.iastore, 1) := by decide +kernel
theorem x30_79 {E : ME} {ls : MLs} {st : List MV} {g : MG} {μ : MU} {Q : Option MV → MG → MU → Prop} {a : Nat} {j v : Int} : Wp E 30 79 ls (.inl v :: .inl j :: .inr (.inr (.inl a)) :: st) g μ Q = (((mKd g a).1 = 10 ∧ 0 ≤ j ∧ j < (mKd g a).2) ∧ Wp E 30 80 ls st g (mUp μ a j.toNat v) Q) := Wp_iast k30_79
theorem k30_80 : mCode 30 80 = some (.aload 4, 2) := by decide +kernel
theorem x30_80 {E : ME} {ls : MLs} {st : List MV} {g : MG} {μ : MU} {Q : Option MV → MG → MU → Prop} {l0 l1 l2 l3 : Option MV} {v : Nat ⊕ Nat} : Wp E 30 80 (l0 :: l1 :: l2 :: l3 :: some (.inr (.inr v)) :: ls) st g μ Q = Wp E 30 82 (l0 :: l1 :: l2 :: l3 :: some (.inr (.inr v)) :: ls) (.inr (.inr v) :: st) g μ Q := Wp_nx k30_80 rfl
theorem k30_82 : mCode 30 82 = some (.getfield 93, 3) := by decide +kernel
theorem x30_82 {E : ME} {ls : MLs} {st : List MV} {g : MG} {μ : MU} {Q : Option MV → MG → MU → Prop} {a : Nat} : Wp E 30 82 ls (.inr (.inr (.inl a)) :: st) g μ Q = ((mKd g a).1 = 4 ∧ Wp E 30 85 ls (mRv (mRf g a 3) :: st) g μ Q) := Wp_getR k30_82 f3_93 (by decide) (by decide)
theorem k30_85 : mCode 30 85 = some (.iconst 0, 1) := by decide +kernel
theorem x30_85 {E : ME} {ls : MLs} {st : List MV} {g : MG} {μ : MU} {Q : Option MV → MG → MU → Prop} : Wp E 30 85 ls st g μ Q = Wp E 30 86 ls (.inl 0 :: st) g μ Q := Wp_nx k30_85 rfl
theorem k30_86 : mCode 30 86 = some (.aload_n 0, 1) := by decide +kernel
theorem x30_86 {E : ME} {ls : MLs} {st : List MV} {g : MG} {μ : MU} {Q : Option MV → MG → MU → Prop} {v : Nat ⊕ Nat} : Wp E 30 86 (some (.inr (.inr v)) :: ls) st g μ Q = Wp E 30 87 (some (.inr (.inr v)) :: ls) (.inr (.inr v) :: st) g μ Q := Wp_nx k30_86 rfl
theorem k30_87 : mCode 30 87 = some (.getfield 27, 3) := by decide +kernel
theorem x30_87 {E : ME} {ls : MLs} {st : List MV} {g : MG} {μ : MU} {Q : Option MV → MG → MU → Prop} {a : Nat} : Wp E 30 87 ls (.inr (.inr (.inl a)) :: st) g μ Q = ((mKd g a).1 = 3 ∧ Wp E 30 90 ls (mRv (mRf g a 5) :: st) g μ Q) := Wp_getR k30_87 f3_27 (by decide) (by decide)
theorem k30_90 : mCode 30 90 = some (.iload_n 2, 1) := by decide +kernel
theorem x30_90 {E : ME} {ls : MLs} {st : List MV} {g : MG} {μ : MU} {Q : Option MV → MG → MU → Prop} {l0 l1 : Option MV} {v : Int} : Wp E 30 90 (l0 :: l1 :: some (.inl v) :: ls) st g μ Q = Wp E 30 91 (l0 :: l1 :: some (.inl v) :: ls) (.inl v :: st) g μ Q := Wp_nx k30_90 rfl
theorem k30_91 : mCode 30 91 = some (.bipush 6, 2) := by decide +kernel
theorem x30_91 {E : ME} {ls : MLs} {st : List MV} {g : MG} {μ : MU} {Q : Option MV → MG → MU → Prop} : Wp E 30 91 ls st g μ Q = Wp E 30 93 ls (.inl 6 :: st) g μ Q := Wp_nx k30_91 rfl
theorem k30_93 : mCode 30 93 = some (.imul, 1) := by decide +kernel
theorem x30_93 {E : ME} {ls : MLs} {st : List MV} {g : MG} {μ : MU} {Q : Option MV → MG → MU → Prop} {a b : Int} : Wp E 30 93 ls (.inl b :: .inl a :: st) g μ Q = Wp E 30 94 ls (.inl (mWr (a * b)) :: st) g μ Q := Wp_nx k30_93 rfl
theorem k30_94 : mCode 30 94 = some (.bipush 6, 2) := by decide +kernel
theorem x30_94 {E : ME} {ls : MLs} {st : List MV} {g : MG} {μ : MU} {Q : Option MV → MG → MU → Prop} : Wp E 30 94 ls st g μ Q = Wp E 30 96 ls (.inl 6 :: st) g μ Q := Wp_nx k30_94 rfl
theorem k30_96 : mCode 30 96 = some (.invokestatic 94, 3) := by decide +kernel
theorem x30_96 {E : ME} {ls : MLs} {st : List MV} {g : MG} {μ : MU} {Q : Option MV → MG → MU → Prop} {a a0 : Nat} {n dp sp : Int} : Wp E 30 96 ls (.inl n :: .inl dp :: .inr (.inr (.inl a)) :: .inl sp :: .inr (.inr (.inl a0)) :: st) g μ Q = (((mKd g a).1 = 10 ∧ (mKd g a0).1 = 10 ∧ 0 ≤ sp ∧ 0 ≤ dp ∧ 0 ≤ n ∧ sp + n ≤ (mKd g a0).2 ∧ dp + n ≤ (mKd g a).2 ∧ st.length ≤ 4) ∧ Wp E 30 99 ls st g (mCpy μ a0 sp.toNat a dp.toNat n.toNat) Q) := Wp_copy k30_96 m3_94
theorem k30_99 : mCode 30 99 = some (.return_, 1) := by decide +kernel
theorem x30_99 {E : ME} {ls : MLs} {g : MG} {μ : MU} {Q : Option MV → MG → MU → Prop} : Wp E 30 99 ls [] g μ Q = Q none g μ := Wp_retV k30_99 (by decide)
theorem k31_0 : mCode 31 0 = some (.aload_n 1, 1) := by decide +kernel
theorem x31_0 {E : ME} {ls : MLs} {st : List MV} {g : MG} {μ : MU} {Q : Option MV → MG → MU → Prop} {l0 : Option MV} {v : Nat ⊕ Nat} : Wp E 31 0 (l0 :: some (.inr (.inr v)) :: ls) st g μ Q = Wp E 31 1 (l0 :: some (.inr (.inr v)) :: ls) (.inr (.inr v) :: st) g μ Q := Wp_nx k31_0 rfl
theorem k31_1 : mCode 31 1 = some (.getfield 75, 3) := by decide +kernel
theorem x31_1 {E : ME} {ls : MLs} {st : List MV} {g : MG} {μ : MU} {Q : Option MV → MG → MU → Prop} {a : Nat} : Wp E 31 1 ls (.inr (.inr (.inl a)) :: st) g μ Q = ((mKd g a).1 = 0 ∧ Wp E 31 4 ls (mRv (mRf g a 8) :: st) g μ Q) := Wp_getR k31_1 f3_75 (by decide) (by decide)
theorem k31_4 : mCode 31 4 = some (.iload_n 2, 1) := by decide +kernel
theorem x31_4 {E : ME} {ls : MLs} {st : List MV} {g : MG} {μ : MU} {Q : Option MV → MG → MU → Prop} {l0 l1 : Option MV} {v : Int} : Wp E 31 4 (l0 :: l1 :: some (.inl v) :: ls) st g μ Q = Wp E 31 5 (l0 :: l1 :: some (.inl v) :: ls) (.inl v :: st) g μ Q := Wp_nx k31_4 rfl
theorem k31_5 : mCode 31 5 = some (.iaload, 1) := by decide +kernel
theorem x31_5 {E : ME} {ls : MLs} {st : List MV} {g : MG} {μ : MU} {Q : Option MV → MG → MU → Prop} {a : Nat} {j : Int} : Wp E 31 5 ls (.inl j :: .inr (.inr (.inl a)) :: st) g μ Q = (((mKd g a).1 = 10 ∧ 0 ≤ j ∧ j < (mKd g a).2) ∧ Wp E 31 6 ls (.inl (μ a j.toNat) :: st) g μ Q) := Wp_ald k31_5 (fun _ => rfl)
theorem k31_6 : mCode 31 6 = some (.istore_n 3, 1) := by decide +kernel
theorem x31_6 {E : ME} {ls : MLs} {st : List MV} {g : MG} {μ : MU} {Q : Option MV → MG → MU → Prop} {l0 l1 l2 : Option MV} {lk : Option MV} {v : Int} : Wp E 31 6 (l0 :: l1 :: l2 :: lk :: ls) (.inl v :: st) g μ Q = ((mNl (some l2) = true ∧ mNl (some lk) = true) ∧ Wp E 31 7 (l0 :: l1 :: l2 :: some (.inl v) :: ls) st g μ Q) := Wp_sti k31_6 (fun _ => rfl) rfl rfl rfl
theorem k31_7 : mCode 31 7 = some (.iconst 1, 1) := by decide +kernel
theorem x31_7 {E : ME} {ls : MLs} {st : List MV} {g : MG} {μ : MU} {Q : Option MV → MG → MU → Prop} : Wp E 31 7 ls st g μ Q = Wp E 31 8 ls (.inl 1 :: st) g μ Q := Wp_nx k31_7 rfl
theorem k31_8 : mCode 31 8 = some (.aload_n 1, 1) := by decide +kernel
theorem x31_8 {E : ME} {ls : MLs} {st : List MV} {g : MG} {μ : MU} {Q : Option MV → MG → MU → Prop} {l0 : Option MV} {v : Nat ⊕ Nat} : Wp E 31 8 (l0 :: some (.inr (.inr v)) :: ls) st g μ Q = Wp E 31 9 (l0 :: some (.inr (.inr v)) :: ls) (.inr (.inr v) :: st) g μ Q := Wp_nx k31_8 rfl
theorem k31_9 : mCode 31 9 = some (.getfield 100, 3) := by decide +kernel
theorem x31_9 {E : ME} {ls : MLs} {st : List MV} {g : MG} {μ : MU} {Q : Option MV → MG → MU → Prop} {a : Nat} : Wp E 31 9 ls (.inr (.inr (.inl a)) :: st) g μ Q = ((mKd g a).1 = 0 ∧ Wp E 31 12 ls (mRv (mRf g a 3) :: st) g μ Q) := Wp_getR k31_9 f3_100 (by decide) (by decide)
theorem k31_12 : mCode 31 12 = some (.iload_n 3, 1) := by decide +kernel
theorem x31_12 {E : ME} {ls : MLs} {st : List MV} {g : MG} {μ : MU} {Q : Option MV → MG → MU → Prop} {l0 l1 l2 : Option MV} {v : Int} : Wp E 31 12 (l0 :: l1 :: l2 :: some (.inl v) :: ls) st g μ Q = Wp E 31 13 (l0 :: l1 :: l2 :: some (.inl v) :: ls) (.inl v :: st) g μ Q := Wp_nx k31_12 rfl
theorem k31_13 : mCode 31 13 = some (.iaload, 1) := by decide +kernel
theorem x31_13 {E : ME} {ls : MLs} {st : List MV} {g : MG} {μ : MU} {Q : Option MV → MG → MU → Prop} {a : Nat} {j : Int} : Wp E 31 13 ls (.inl j :: .inr (.inr (.inl a)) :: st) g μ Q = (((mKd g a).1 = 10 ∧ 0 ≤ j ∧ j < (mKd g a).2) ∧ Wp E 31 14 ls (.inl (μ a j.toNat) :: st) g μ Q) := Wp_ald k31_13 (fun _ => rfl)
theorem k31_14 : mCode 31 14 = some (.invokestatic 103, 3) := by decide +kernel
theorem x31_14 {E : ME} {ls : MLs} {st : List MV} {g : MG} {μ : MU} {Q : Option MV → MG → MU → Prop} {a0 : Int} {a1 : Int} : Wp E 31 14 ls (.inl a1 :: .inl a0 :: st) g μ Q = (st.length ≤ 4 ∧ Wp E 143 0 [some (.inl a0), some (.inl a1)] [] g μ (fun r g' μ' => (g'.1 = g.1 ∧ g'.2.1 = g.2.1) ∧ Wp E 31 17 ls (mPush r st) g' μ' Q)) := Wp_cS k31_14 m3_103 (by decide) (as := [.inl a0, .inl a1]) rfl rfl rfl ⟨Nat.le_of_ble_eq_true rfl, by decide⟩
theorem k31_17 : mCode 31 17 = some (.istore 4, 2) := by decide +kernel
theorem x31_17 {E : ME} {ls : MLs} {st : List MV} {g : MG} {μ : MU} {Q : Option MV → MG → MU → Prop} {l0 l1 l2 l3 : Option MV} {lk : Option MV} {v : Int} : Wp E 31 17 (l0 :: l1 :: l2 :: l3 :: lk :: ls) (.inl v :: st) g μ Q = ((mNl (some l3) = true ∧ mNl (some lk) = true) ∧ Wp E 31 19 (l0 :: l1 :: l2 :: l3 :: some (.inl v) :: ls) st g μ Q) := Wp_sti k31_17 (fun _ => rfl) rfl rfl rfl
theorem k31_19 : mCode 31 19 = some (.aload_n 0, 1) := by decide +kernel
theorem x31_19 {E : ME} {ls : MLs} {st : List MV} {g : MG} {μ : MU} {Q : Option MV → MG → MU → Prop} {v : Nat ⊕ Nat} : Wp E 31 19 (some (.inr (.inr v)) :: ls) st g μ Q = Wp E 31 20 (some (.inr (.inr v)) :: ls) (.inr (.inr v) :: st) g μ Q := Wp_nx k31_19 rfl
theorem k31_20 : mCode 31 20 = some (.getfield 30, 3) := by decide +kernel
theorem x31_20 {E : ME} {ls : MLs} {st : List MV} {g : MG} {μ : MU} {Q : Option MV → MG → MU → Prop} {a : Nat} : Wp E 31 20 ls (.inr (.inr (.inl a)) :: st) g μ Q = ((mKd g a).1 = 3 ∧ Wp E 31 23 ls (mRv (mRf g a 6) :: st) g μ Q) := Wp_getR k31_20 f3_30 (by decide) (by decide)
theorem k31_23 : mCode 31 23 = some (.iload_n 2, 1) := by decide +kernel
theorem x31_23 {E : ME} {ls : MLs} {st : List MV} {g : MG} {μ : MU} {Q : Option MV → MG → MU → Prop} {l0 l1 : Option MV} {v : Int} : Wp E 31 23 (l0 :: l1 :: some (.inl v) :: ls) st g μ Q = Wp E 31 24 (l0 :: l1 :: some (.inl v) :: ls) (.inl v :: st) g μ Q := Wp_nx k31_23 rfl
theorem k31_24 : mCode 31 24 = some (.aload_n 1, 1) := by decide +kernel
theorem x31_24 {E : ME} {ls : MLs} {st : List MV} {g : MG} {μ : MU} {Q : Option MV → MG → MU → Prop} {l0 : Option MV} {v : Nat ⊕ Nat} : Wp E 31 24 (l0 :: some (.inr (.inr v)) :: ls) st g μ Q = Wp E 31 25 (l0 :: some (.inr (.inr v)) :: ls) (.inr (.inr v) :: st) g μ Q := Wp_nx k31_24 rfl
theorem k31_25 : mCode 31 25 = some (.getfield 109, 3) := by decide +kernel
theorem x31_25 {E : ME} {ls : MLs} {st : List MV} {g : MG} {μ : MU} {Q : Option MV → MG → MU → Prop} {a : Nat} : Wp E 31 25 ls (.inr (.inr (.inl a)) :: st) g μ Q = ((mKd g a).1 = 0 ∧ Wp E 31 28 ls (mRv (mRf g a 11) :: st) g μ Q) := Wp_getR k31_25 f3_109 (by decide) (by decide)
theorem k31_28 : mCode 31 28 = some (.iload_n 2, 1) := by decide +kernel
theorem x31_28 {E : ME} {ls : MLs} {st : List MV} {g : MG} {μ : MU} {Q : Option MV → MG → MU → Prop} {l0 l1 : Option MV} {v : Int} : Wp E 31 28 (l0 :: l1 :: some (.inl v) :: ls) st g μ Q = Wp E 31 29 (l0 :: l1 :: some (.inl v) :: ls) (.inl v :: st) g μ Q := Wp_nx k31_28 rfl
theorem k31_29 : mCode 31 29 = some (.iaload, 1) := by decide +kernel
theorem x31_29 {E : ME} {ls : MLs} {st : List MV} {g : MG} {μ : MU} {Q : Option MV → MG → MU → Prop} {a : Nat} {j : Int} : Wp E 31 29 ls (.inl j :: .inr (.inr (.inl a)) :: st) g μ Q = (((mKd g a).1 = 10 ∧ 0 ≤ j ∧ j < (mKd g a).2) ∧ Wp E 31 30 ls (.inl (μ a j.toNat) :: st) g μ Q) := Wp_ald k31_29 (fun _ => rfl)
theorem k31_30 : mCode 31 30 = some (.aload_n 1, 1) := by decide +kernel
theorem x31_30 {E : ME} {ls : MLs} {st : List MV} {g : MG} {μ : MU} {Q : Option MV → MG → MU → Prop} {l0 : Option MV} {v : Nat ⊕ Nat} : Wp E 31 30 (l0 :: some (.inr (.inr v)) :: ls) st g μ Q = Wp E 31 31 (l0 :: some (.inr (.inr v)) :: ls) (.inr (.inr v) :: st) g μ Q := Wp_nx k31_30 rfl
theorem k31_31 : mCode 31 31 = some (.getfield 112, 3) := by decide +kernel
theorem x31_31 {E : ME} {ls : MLs} {st : List MV} {g : MG} {μ : MU} {Q : Option MV → MG → MU → Prop} {a : Nat} : Wp E 31 31 ls (.inr (.inr (.inl a)) :: st) g μ Q = ((mKd g a).1 = 0 ∧ Wp E 31 34 ls (mRv (mRf g a 0) :: st) g μ Q) := Wp_getR k31_31 f3_112 (by decide) (by decide)
theorem k31_34 : mCode 31 34 = some (.iconst 4, 1) := by decide +kernel
theorem x31_34 {E : ME} {ls : MLs} {st : List MV} {g : MG} {μ : MU} {Q : Option MV → MG → MU → Prop} : Wp E 31 34 ls st g μ Q = Wp E 31 35 ls (.inl 4 :: st) g μ Q := Wp_nx k31_34 rfl
theorem k31_35 : mCode 31 35 = some (.iaload, 1) := by decide +kernel
theorem x31_35 {E : ME} {ls : MLs} {st : List MV} {g : MG} {μ : MU} {Q : Option MV → MG → MU → Prop} {a : Nat} {j : Int} : Wp E 31 35 ls (.inl j :: .inr (.inr (.inl a)) :: st) g μ Q = (((mKd g a).1 = 10 ∧ 0 ≤ j ∧ j < (mKd g a).2) ∧ Wp E 31 36 ls (.inl (μ a j.toNat) :: st) g μ Q) := Wp_ald k31_35 (fun _ => rfl)
theorem k31_36 : mCode 31 36 = some (.imul, 1) := by decide +kernel
theorem x31_36 {E : ME} {ls : MLs} {st : List MV} {g : MG} {μ : MU} {Q : Option MV → MG → MU → Prop} {a b : Int} : Wp E 31 36 ls (.inl b :: .inl a :: st) g μ Q = Wp E 31 37 ls (.inl (mWr (a * b)) :: st) g μ Q := Wp_nx k31_36 rfl
theorem k31_37 : mCode 31 37 = some (.iastore, 1) := by decide +kernel
theorem x31_37 {E : ME} {ls : MLs} {st : List MV} {g : MG} {μ : MU} {Q : Option MV → MG → MU → Prop} {a : Nat} {j v : Int} : Wp E 31 37 ls (.inl v :: .inl j :: .inr (.inr (.inl a)) :: st) g μ Q = (((mKd g a).1 = 10 ∧ 0 ≤ j ∧ j < (mKd g a).2) ∧ Wp E 31 38 ls st g (mUp μ a j.toNat v) Q) := Wp_iast k31_37
theorem k31_38 : mCode 31 38 = some (.aload_n 0, 1) := by decide +kernel
theorem x31_38 {E : ME} {ls : MLs} {st : List MV} {g : MG} {μ : MU} {Q : Option MV → MG → MU → Prop} {v : Nat ⊕ Nat} : Wp E 31 38 (some (.inr (.inr v)) :: ls) st g μ Q = Wp E 31 39 (some (.inr (.inr v)) :: ls) (.inr (.inr v) :: st) g μ Q := Wp_nx k31_38 rfl
theorem k31_39 : mCode 31 39 = some (.getfield 33, 3) := by decide +kernel
theorem x31_39 {E : ME} {ls : MLs} {st : List MV} {g : MG} {μ : MU} {Q : Option MV → MG → MU → Prop} {a : Nat} : Wp E 31 39 ls (.inr (.inr (.inl a)) :: st) g μ Q = ((mKd g a).1 = 3 ∧ Wp E 31 42 ls (mRv (mRf g a 7) :: st) g μ Q) := Wp_getR k31_39 f3_33 (by decide) (by decide)
theorem k31_42 : mCode 31 42 = some (.iload_n 2, 1) := by decide +kernel
theorem x31_42 {E : ME} {ls : MLs} {st : List MV} {g : MG} {μ : MU} {Q : Option MV → MG → MU → Prop} {l0 l1 : Option MV} {v : Int} : Wp E 31 42 (l0 :: l1 :: some (.inl v) :: ls) st g μ Q = Wp E 31 43 (l0 :: l1 :: some (.inl v) :: ls) (.inl v :: st) g μ Q := Wp_nx k31_42 rfl
theorem k31_43 : mCode 31 43 = some (.aload_n 0, 1) := by decide +kernel
theorem x31_43 {E : ME} {ls : MLs} {st : List MV} {g : MG} {μ : MU} {Q : Option MV → MG → MU → Prop} {v : Nat ⊕ Nat} : Wp E 31 43 (some (.inr (.inr v)) :: ls) st g μ Q = Wp E 31 44 (some (.inr (.inr v)) :: ls) (.inr (.inr v) :: st) g μ Q := Wp_nx k31_43 rfl
theorem k31_44 : mCode 31 44 = some (.getfield 30, 3) := by decide +kernel
theorem x31_44 {E : ME} {ls : MLs} {st : List MV} {g : MG} {μ : MU} {Q : Option MV → MG → MU → Prop} {a : Nat} : Wp E 31 44 ls (.inr (.inr (.inl a)) :: st) g μ Q = ((mKd g a).1 = 3 ∧ Wp E 31 47 ls (mRv (mRf g a 6) :: st) g μ Q) := Wp_getR k31_44 f3_30 (by decide) (by decide)
theorem k31_47 : mCode 31 47 = some (.iload_n 2, 1) := by decide +kernel
theorem x31_47 {E : ME} {ls : MLs} {st : List MV} {g : MG} {μ : MU} {Q : Option MV → MG → MU → Prop} {l0 l1 : Option MV} {v : Int} : Wp E 31 47 (l0 :: l1 :: some (.inl v) :: ls) st g μ Q = Wp E 31 48 (l0 :: l1 :: some (.inl v) :: ls) (.inl v :: st) g μ Q := Wp_nx k31_47 rfl
theorem k31_48 : mCode 31 48 = some (.iaload, 1) := by decide +kernel
theorem x31_48 {E : ME} {ls : MLs} {st : List MV} {g : MG} {μ : MU} {Q : Option MV → MG → MU → Prop} {a : Nat} {j : Int} : Wp E 31 48 ls (.inl j :: .inr (.inr (.inl a)) :: st) g μ Q = (((mKd g a).1 = 10 ∧ 0 ≤ j ∧ j < (mKd g a).2) ∧ Wp E 31 49 ls (.inl (μ a j.toNat) :: st) g μ Q) := Wp_ald k31_48 (fun _ => rfl)
theorem k31_49 : mCode 31 49 = some (.aload_n 0, 1) := by decide +kernel
theorem x31_49 {E : ME} {ls : MLs} {st : List MV} {g : MG} {μ : MU} {Q : Option MV → MG → MU → Prop} {v : Nat ⊕ Nat} : Wp E 31 49 (some (.inr (.inr v)) :: ls) st g μ Q = Wp E 31 50 (some (.inr (.inr v)) :: ls) (.inr (.inr v) :: st) g μ Q := Wp_nx k31_49 rfl
theorem k31_50 : mCode 31 50 = some (.getfield 30, 3) := by decide +kernel
theorem x31_50 {E : ME} {ls : MLs} {st : List MV} {g : MG} {μ : MU} {Q : Option MV → MG → MU → Prop} {a : Nat} : Wp E 31 50 ls (.inr (.inr (.inl a)) :: st) g μ Q = ((mKd g a).1 = 3 ∧ Wp E 31 53 ls (mRv (mRf g a 6) :: st) g μ Q) := Wp_getR k31_50 f3_30 (by decide) (by decide)
theorem k31_53 : mCode 31 53 = some (.iload_n 2, 1) := by decide +kernel
theorem x31_53 {E : ME} {ls : MLs} {st : List MV} {g : MG} {μ : MU} {Q : Option MV → MG → MU → Prop} {l0 l1 : Option MV} {v : Int} : Wp E 31 53 (l0 :: l1 :: some (.inl v) :: ls) st g μ Q = Wp E 31 54 (l0 :: l1 :: some (.inl v) :: ls) (.inl v :: st) g μ Q := Wp_nx k31_53 rfl
theorem k31_54 : mCode 31 54 = some (.iaload, 1) := by decide +kernel
theorem x31_54 {E : ME} {ls : MLs} {st : List MV} {g : MG} {μ : MU} {Q : Option MV → MG → MU → Prop} {a : Nat} {j : Int} : Wp E 31 54 ls (.inl j :: .inr (.inr (.inl a)) :: st) g μ Q = (((mKd g a).1 = 10 ∧ 0 ≤ j ∧ j < (mKd g a).2) ∧ Wp E 31 55 ls (.inl (μ a j.toNat) :: st) g μ Q) := Wp_ald k31_54 (fun _ => rfl)
theorem k31_55 : mCode 31 55 = some (.aload_n 0, 1) := by decide +kernel
theorem x31_55 {E : ME} {ls : MLs} {st : List MV} {g : MG} {μ : MU} {Q : Option MV → MG → MU → Prop} {v : Nat ⊕ Nat} : Wp E 31 55 (some (.inr (.inr v)) :: ls) st g μ Q = Wp E 31 56 (some (.inr (.inr v)) :: ls) (.inr (.inr v) :: st) g μ Q := Wp_nx k31_55 rfl
theorem k31_56 : mCode 31 56 = some (.getfield 24, 3) := by decide +kernel
theorem x31_56 {E : ME} {ls : MLs} {st : List MV} {g : MG} {μ : MU} {Q : Option MV → MG → MU → Prop} {a : Nat} : Wp E 31 56 ls (.inr (.inr (.inl a)) :: st) g μ Q = ((mKd g a).1 = 3 ∧ Wp E 31 59 ls (mRv (mRf g a 4) :: st) g μ Q) := Wp_getR k31_56 f3_24 (by decide) (by decide)
theorem k31_59 : mCode 31 59 = some (.iload_n 2, 1) := by decide +kernel
theorem x31_59 {E : ME} {ls : MLs} {st : List MV} {g : MG} {μ : MU} {Q : Option MV → MG → MU → Prop} {l0 l1 : Option MV} {v : Int} : Wp E 31 59 (l0 :: l1 :: some (.inl v) :: ls) st g μ Q = Wp E 31 60 (l0 :: l1 :: some (.inl v) :: ls) (.inl v :: st) g μ Q := Wp_nx k31_59 rfl
theorem k31_60 : mCode 31 60 = some (.iaload, 1) := by decide +kernel
theorem x31_60 {E : ME} {ls : MLs} {st : List MV} {g : MG} {μ : MU} {Q : Option MV → MG → MU → Prop} {a : Nat} {j : Int} : Wp E 31 60 ls (.inl j :: .inr (.inr (.inl a)) :: st) g μ Q = (((mKd g a).1 = 10 ∧ 0 ≤ j ∧ j < (mKd g a).2) ∧ Wp E 31 61 ls (.inl (μ a j.toNat) :: st) g μ Q) := Wp_ald k31_60 (fun _ => rfl)
theorem k31_61 : mCode 31 61 = some (.invokestatic 115, 3) := by decide +kernel
theorem x31_61 {E : ME} {ls : MLs} {st : List MV} {g : MG} {μ : MU} {Q : Option MV → MG → MU → Prop} {a0 : Int} : Wp E 31 61 ls (.inl a0 :: st) g μ Q = (st.length ≤ 4 ∧ Wp E 142 0 [some (.inl a0)] [] g μ (fun r g' μ' => (g'.1 = g.1 ∧ g'.2.1 = g.2.1) ∧ Wp E 31 64 ls (mPush r st) g' μ' Q)) := Wp_cS k31_61 m3_115 (by decide) (as := [.inl a0]) rfl rfl rfl ⟨Nat.le_of_ble_eq_true rfl, by decide⟩
theorem k31_64 : mCode 31 64 = some (.imul, 1) := by decide +kernel
theorem x31_64 {E : ME} {ls : MLs} {st : List MV} {g : MG} {μ : MU} {Q : Option MV → MG → MU → Prop} {a b : Int} : Wp E 31 64 ls (.inl b :: .inl a :: st) g μ Q = Wp E 31 65 ls (.inl (mWr (a * b)) :: st) g μ Q := Wp_nx k31_64 rfl
theorem k31_65 : mCode 31 65 = some (.iload 4, 2) := by decide +kernel
theorem x31_65 {E : ME} {ls : MLs} {st : List MV} {g : MG} {μ : MU} {Q : Option MV → MG → MU → Prop} {l0 l1 l2 l3 : Option MV} {v : Int} : Wp E 31 65 (l0 :: l1 :: l2 :: l3 :: some (.inl v) :: ls) st g μ Q = Wp E 31 67 (l0 :: l1 :: l2 :: l3 :: some (.inl v) :: ls) (.inl v :: st) g μ Q := Wp_nx k31_65 rfl
theorem k31_67 : mCode 31 67 = some (.idiv, 1) := by decide +kernel
theorem x31_67 {E : ME} {ls : MLs} {st : List MV} {g : MG} {μ : MU} {Q : Option MV → MG → MU → Prop} {a b : Int} : Wp E 31 67 ls (.inl b :: .inl a :: st) g μ Q = (¬ b = 0 ∧ Wp E 31 68 ls (.inl (mWr (a.tdiv b)) :: st) g μ Q) := Wp_div (f := mIdiv) k31_67 (fun _ => rfl)
theorem k31_68 : mCode 31 68 = some (.isub, 1) := by decide +kernel
theorem x31_68 {E : ME} {ls : MLs} {st : List MV} {g : MG} {μ : MU} {Q : Option MV → MG → MU → Prop} {a b : Int} : Wp E 31 68 ls (.inl b :: .inl a :: st) g μ Q = Wp E 31 69 ls (.inl (mWr (a - b)) :: st) g μ Q := Wp_nx k31_68 rfl
theorem k31_69 : mCode 31 69 = some (.iastore, 1) := by decide +kernel
theorem x31_69 {E : ME} {ls : MLs} {st : List MV} {g : MG} {μ : MU} {Q : Option MV → MG → MU → Prop} {a : Nat} {j v : Int} : Wp E 31 69 ls (.inl v :: .inl j :: .inr (.inr (.inl a)) :: st) g μ Q = (((mKd g a).1 = 10 ∧ 0 ≤ j ∧ j < (mKd g a).2) ∧ Wp E 31 70 ls st g (mUp μ a j.toNat v) Q) := Wp_iast k31_69
theorem k31_70 : mCode 31 70 = some (.aload_n 0, 1) := by decide +kernel
theorem x31_70 {E : ME} {ls : MLs} {st : List MV} {g : MG} {μ : MU} {Q : Option MV → MG → MU → Prop} {v : Nat ⊕ Nat} : Wp E 31 70 (some (.inr (.inr v)) :: ls) st g μ Q = Wp E 31 71 (some (.inr (.inr v)) :: ls) (.inr (.inr v) :: st) g μ Q := Wp_nx k31_70 rfl
theorem k31_71 : mCode 31 71 = some (.getfield 36, 3) := by decide +kernel
theorem x31_71 {E : ME} {ls : MLs} {st : List MV} {g : MG} {μ : MU} {Q : Option MV → MG → MU → Prop} {a : Nat} : Wp E 31 71 ls (.inr (.inr (.inl a)) :: st) g μ Q = ((mKd g a).1 = 3 ∧ Wp E 31 74 ls (mRv (mRf g a 8) :: st) g μ Q) := Wp_getR k31_71 f3_36 (by decide) (by decide)
theorem k31_74 : mCode 31 74 = some (.iload_n 2, 1) := by decide +kernel
theorem x31_74 {E : ME} {ls : MLs} {st : List MV} {g : MG} {μ : MU} {Q : Option MV → MG → MU → Prop} {l0 l1 : Option MV} {v : Int} : Wp E 31 74 (l0 :: l1 :: some (.inl v) :: ls) st g μ Q = Wp E 31 75 (l0 :: l1 :: some (.inl v) :: ls) (.inl v :: st) g μ Q := Wp_nx k31_74 rfl
theorem k31_75 : mCode 31 75 = some (.aload_n 0, 1) := by decide +kernel
theorem x31_75 {E : ME} {ls : MLs} {st : List MV} {g : MG} {μ : MU} {Q : Option MV → MG → MU → Prop} {v : Nat ⊕ Nat} : Wp E 31 75 (some (.inr (.inr v)) :: ls) st g μ Q = Wp E 31 76 (some (.inr (.inr v)) :: ls) (.inr (.inr v) :: st) g μ Q := Wp_nx k31_75 rfl
theorem k31_76 : mCode 31 76 = some (.getfield 33, 3) := by decide +kernel
theorem x31_76 {E : ME} {ls : MLs} {st : List MV} {g : MG} {μ : MU} {Q : Option MV → MG → MU → Prop} {a : Nat} : Wp E 31 76 ls (.inr (.inr (.inl a)) :: st) g μ Q = ((mKd g a).1 = 3 ∧ Wp E 31 79 ls (mRv (mRf g a 7) :: st) g μ Q) := Wp_getR k31_76 f3_33 (by decide) (by decide)
theorem k31_79 : mCode 31 79 = some (.iload_n 2, 1) := by decide +kernel
theorem x31_79 {E : ME} {ls : MLs} {st : List MV} {g : MG} {μ : MU} {Q : Option MV → MG → MU → Prop} {l0 l1 : Option MV} {v : Int} : Wp E 31 79 (l0 :: l1 :: some (.inl v) :: ls) st g μ Q = Wp E 31 80 (l0 :: l1 :: some (.inl v) :: ls) (.inl v :: st) g μ Q := Wp_nx k31_79 rfl
theorem k31_80 : mCode 31 80 = some (.iaload, 1) := by decide +kernel
theorem x31_80 {E : ME} {ls : MLs} {st : List MV} {g : MG} {μ : MU} {Q : Option MV → MG → MU → Prop} {a : Nat} {j : Int} : Wp E 31 80 ls (.inl j :: .inr (.inr (.inl a)) :: st) g μ Q = (((mKd g a).1 = 10 ∧ 0 ≤ j ∧ j < (mKd g a).2) ∧ Wp E 31 81 ls (.inl (μ a j.toNat) :: st) g μ Q) := Wp_ald k31_80 (fun _ => rfl)
theorem k31_81 : mCode 31 81 = some (.aload_n 1, 1) := by decide +kernel
theorem x31_81 {E : ME} {ls : MLs} {st : List MV} {g : MG} {μ : MU} {Q : Option MV → MG → MU → Prop} {l0 : Option MV} {v : Nat ⊕ Nat} : Wp E 31 81 (l0 :: some (.inr (.inr v)) :: ls) st g μ Q = Wp E 31 82 (l0 :: some (.inr (.inr v)) :: ls) (.inr (.inr v) :: st) g μ Q := Wp_nx k31_81 rfl
theorem k31_82 : mCode 31 82 = some (.getfield 121, 3) := by decide +kernel
theorem x31_82 {E : ME} {ls : MLs} {st : List MV} {g : MG} {μ : MU} {Q : Option MV → MG → MU → Prop} {a : Nat} : Wp E 31 82 ls (.inr (.inr (.inl a)) :: st) g μ Q = ((mKd g a).1 = 0 ∧ Wp E 31 85 ls (mRv (mRf g a 5) :: st) g μ Q) := Wp_getR k31_82 f3_121 (by decide) (by decide)
theorem k31_85 : mCode 31 85 = some (.iload_n 3, 1) := by decide +kernel
theorem x31_85 {E : ME} {ls : MLs} {st : List MV} {g : MG} {μ : MU} {Q : Option MV → MG → MU → Prop} {l0 l1 l2 : Option MV} {v : Int} : Wp E 31 85 (l0 :: l1 :: l2 :: some (.inl v) :: ls) st g μ Q = Wp E 31 86 (l0 :: l1 :: l2 :: some (.inl v) :: ls) (.inl v :: st) g μ Q := Wp_nx k31_85 rfl
theorem k31_86 : mCode 31 86 = some (.iaload, 1) := by decide +kernel
theorem x31_86 {E : ME} {ls : MLs} {st : List MV} {g : MG} {μ : MU} {Q : Option MV → MG → MU → Prop} {a : Nat} {j : Int} : Wp E 31 86 ls (.inl j :: .inr (.inr (.inl a)) :: st) g μ Q = (((mKd g a).1 = 10 ∧ 0 ≤ j ∧ j < (mKd g a).2) ∧ Wp E 31 87 ls (.inl (μ a j.toNat) :: st) g μ Q) := Wp_ald k31_86 (fun _ => rfl)
theorem k31_87 : mCode 31 87 = some (.imul, 1) := by decide +kernel
theorem x31_87 {E : ME} {ls : MLs} {st : List MV} {g : MG} {μ : MU} {Q : Option MV → MG → MU → Prop} {a b : Int} : Wp E 31 87 ls (.inl b :: .inl a :: st) g μ Q = Wp E 31 88 ls (.inl (mWr (a * b)) :: st) g μ Q := Wp_nx k31_87 rfl
theorem k31_88 : mCode 31 88 = some (.bipush 100, 2) := by decide +kernel
theorem x31_88 {E : ME} {ls : MLs} {st : List MV} {g : MG} {μ : MU} {Q : Option MV → MG → MU → Prop} : Wp E 31 88 ls st g μ Q = Wp E 31 90 ls (.inl 100 :: st) g μ Q := Wp_nx k31_88 rfl
theorem k31_90 : mCode 31 90 = some (.idiv, 1) := by decide +kernel
theorem x31_90 {E : ME} {ls : MLs} {st : List MV} {g : MG} {μ : MU} {Q : Option MV → MG → MU → Prop} {a b : Int} : Wp E 31 90 ls (.inl b :: .inl a :: st) g μ Q = (¬ b = 0 ∧ Wp E 31 91 ls (.inl (mWr (a.tdiv b)) :: st) g μ Q) := Wp_div (f := mIdiv) k31_90 (fun _ => rfl)
theorem k31_91 : mCode 31 91 = some (.iastore, 1) := by decide +kernel
theorem x31_91 {E : ME} {ls : MLs} {st : List MV} {g : MG} {μ : MU} {Q : Option MV → MG → MU → Prop} {a : Nat} {j v : Int} : Wp E 31 91 ls (.inl v :: .inl j :: .inr (.inr (.inl a)) :: st) g μ Q = (((mKd g a).1 = 10 ∧ 0 ≤ j ∧ j < (mKd g a).2) ∧ Wp E 31 92 ls st g (mUp μ a j.toNat v) Q) := Wp_iast k31_91
theorem k31_92 : mCode 31 92 = some (.return_, 1) := by decide +kernel
theorem x31_92 {E : ME} {ls : MLs} {g : MG} {μ : MU} {Q : Option MV → MG → MU → Prop} : Wp E 31 92 ls [] g μ Q = Q none g μ := Wp_retV k31_92 (by decide)
theorem k32_0 : mCode 32 0 = some (.iconst 0, 1) := by decide +kernel
theorem x32_0 {E : ME} {ls : MLs} {st : List MV} {g : MG} {μ : MU} {Q : Option MV → MG → MU → Prop} : Wp E 32 0 ls st g μ Q = Wp E 32 1 ls (.inl 0 :: st) g μ Q := Wp_nx k32_0 rfl
theorem k32_1 : mCode 32 1 = some (.istore_n 2, 1) := by decide +kernel
theorem x32_1 {E : ME} {ls : MLs} {st : List MV} {g : MG} {μ : MU} {Q : Option MV → MG → MU → Prop} {l0 l1 : Option MV} {lk : Option MV} {v : Int} : Wp E 32 1 (l0 :: l1 :: lk :: ls) (.inl v :: st) g μ Q = ((mNl (some l1) = true ∧ mNl (some lk) = true) ∧ Wp E 32 2 (l0 :: l1 :: some (.inl v) :: ls) st g μ Q) := Wp_sti k32_1 (fun _ => rfl) rfl rfl rfl
theorem k32_2 : mCode 32 2 = some (.iconst 0, 1) := by decide +kernel
theorem x32_2 {E : ME} {ls : MLs} {st : List MV} {g : MG} {μ : MU} {Q : Option MV → MG → MU → Prop} : Wp E 32 2 ls st g μ Q = Wp E 32 3 ls (.inl 0 :: st) g μ Q := Wp_nx k32_2 rfl
theorem k32_3 : mCode 32 3 = some (.istore_n 3, 1) := by decide +kernel
theorem x32_3 {E : ME} {ls : MLs} {st : List MV} {g : MG} {μ : MU} {Q : Option MV → MG → MU → Prop} {l0 l1 l2 : Option MV} {lk : Option MV} {v : Int} : Wp E 32 3 (l0 :: l1 :: l2 :: lk :: ls) (.inl v :: st) g μ Q = ((mNl (some l2) = true ∧ mNl (some lk) = true) ∧ Wp E 32 4 (l0 :: l1 :: l2 :: some (.inl v) :: ls) st g μ Q) := Wp_sti k32_3 (fun _ => rfl) rfl rfl rfl
theorem k32_4 : mCode 32 4 = some (.iload_n 3, 1) := by decide +kernel
theorem x32_4 {E : ME} {ls : MLs} {st : List MV} {g : MG} {μ : MU} {Q : Option MV → MG → MU → Prop} {l0 l1 l2 : Option MV} {v : Int} : Wp E 32 4 (l0 :: l1 :: l2 :: some (.inl v) :: ls) st g μ Q = Wp E 32 5 (l0 :: l1 :: l2 :: some (.inl v) :: ls) (.inl v :: st) g μ Q := Wp_nx k32_4 rfl
theorem k32_5 : mCode 32 5 = some (.aload_n 1, 1) := by decide +kernel
theorem x32_5 {E : ME} {ls : MLs} {st : List MV} {g : MG} {μ : MU} {Q : Option MV → MG → MU → Prop} {l0 : Option MV} {v : Nat ⊕ Nat} : Wp E 32 5 (l0 :: some (.inr (.inr v)) :: ls) st g μ Q = Wp E 32 6 (l0 :: some (.inr (.inr v)) :: ls) (.inr (.inr v) :: st) g μ Q := Wp_nx k32_5 rfl
theorem k32_6 : mCode 32 6 = some (.getfield 63, 3) := by decide +kernel
theorem x32_6 {E : ME} {ls : MLs} {st : List MV} {g : MG} {μ : MU} {Q : Option MV → MG → MU → Prop} {a : Nat} : Wp E 32 6 ls (.inr (.inr (.inl a)) :: st) g μ Q = ((mKd g a).1 = 0 ∧ Wp E 32 9 ls (.inl (μ a 7) :: st) g μ Q) := Wp_getI k32_6 f3_63 (by decide) (by decide)
theorem k32_9 : mCode 32 9 = some (.if_icmp .ge 21, 3) := by decide +kernel
theorem x32_9 {E : ME} {ls : MLs} {st : List MV} {g : MG} {μ : MU} {Q : Option MV → MG → MU → Prop} {a b : Int} : Wp E 32 9 ls (.inl b :: .inl a :: st) g μ Q = ((b ≤ a → Wp E 32 30 ls st g μ Q) ∧ (a < b → Wp E 32 12 ls st g μ Q)) := Wp_cmp_ge k32_9 (by decide)
theorem k32_12 : mCode 32 12 = some (.iload_n 2, 1) := by decide +kernel
theorem x32_12 {E : ME} {ls : MLs} {st : List MV} {g : MG} {μ : MU} {Q : Option MV → MG → MU → Prop} {l0 l1 : Option MV} {v : Int} : Wp E 32 12 (l0 :: l1 :: some (.inl v) :: ls) st g μ Q = Wp E 32 13 (l0 :: l1 :: some (.inl v) :: ls) (.inl v :: st) g μ Q := Wp_nx k32_12 rfl
theorem k32_13 : mCode 32 13 = some (.aload_n 0, 1) := by decide +kernel
theorem x32_13 {E : ME} {ls : MLs} {st : List MV} {g : MG} {μ : MU} {Q : Option MV → MG → MU → Prop} {v : Nat ⊕ Nat} : Wp E 32 13 (some (.inr (.inr v)) :: ls) st g μ Q = Wp E 32 14 (some (.inr (.inr v)) :: ls) (.inr (.inr v) :: st) g μ Q := Wp_nx k32_13 rfl
theorem k32_14 : mCode 32 14 = some (.getfield 24, 3) := by decide +kernel
theorem x32_14 {E : ME} {ls : MLs} {st : List MV} {g : MG} {μ : MU} {Q : Option MV → MG → MU → Prop} {a : Nat} : Wp E 32 14 ls (.inr (.inr (.inl a)) :: st) g μ Q = ((mKd g a).1 = 3 ∧ Wp E 32 17 ls (mRv (mRf g a 4) :: st) g μ Q) := Wp_getR k32_14 f3_24 (by decide) (by decide)
theorem k32_17 : mCode 32 17 = some (.iload_n 3, 1) := by decide +kernel
theorem x32_17 {E : ME} {ls : MLs} {st : List MV} {g : MG} {μ : MU} {Q : Option MV → MG → MU → Prop} {l0 l1 l2 : Option MV} {v : Int} : Wp E 32 17 (l0 :: l1 :: l2 :: some (.inl v) :: ls) st g μ Q = Wp E 32 18 (l0 :: l1 :: l2 :: some (.inl v) :: ls) (.inl v :: st) g μ Q := Wp_nx k32_17 rfl
theorem k32_18 : mCode 32 18 = some (.iaload, 1) := by decide +kernel
theorem x32_18 {E : ME} {ls : MLs} {st : List MV} {g : MG} {μ : MU} {Q : Option MV → MG → MU → Prop} {a : Nat} {j : Int} : Wp E 32 18 ls (.inl j :: .inr (.inr (.inl a)) :: st) g μ Q = (((mKd g a).1 = 10 ∧ 0 ≤ j ∧ j < (mKd g a).2) ∧ Wp E 32 19 ls (.inl (μ a j.toNat) :: st) g μ Q) := Wp_ald k32_18 (fun _ => rfl)
theorem k32_19 : mCode 32 19 = some (.invokestatic 115, 3) := by decide +kernel
theorem x32_19 {E : ME} {ls : MLs} {st : List MV} {g : MG} {μ : MU} {Q : Option MV → MG → MU → Prop} {a0 : Int} : Wp E 32 19 ls (.inl a0 :: st) g μ Q = (st.length ≤ 4 ∧ Wp E 142 0 [some (.inl a0)] [] g μ (fun r g' μ' => (g'.1 = g.1 ∧ g'.2.1 = g.2.1) ∧ Wp E 32 22 ls (mPush r st) g' μ' Q)) := Wp_cS k32_19 m3_115 (by decide) (as := [.inl a0]) rfl rfl rfl ⟨Nat.le_of_ble_eq_true rfl, by decide⟩
theorem k32_22 : mCode 32 22 = some (.iadd, 1) := by decide +kernel
theorem x32_22 {E : ME} {ls : MLs} {st : List MV} {g : MG} {μ : MU} {Q : Option MV → MG → MU → Prop} {a b : Int} : Wp E 32 22 ls (.inl b :: .inl a :: st) g μ Q = Wp E 32 23 ls (.inl (mWr (a + b)) :: st) g μ Q := Wp_nx k32_22 rfl
theorem k32_23 : mCode 32 23 = some (.istore_n 2, 1) := by decide +kernel
theorem x32_23 {E : ME} {ls : MLs} {st : List MV} {g : MG} {μ : MU} {Q : Option MV → MG → MU → Prop} {l0 l1 : Option MV} {lk : Option MV} {v : Int} : Wp E 32 23 (l0 :: l1 :: lk :: ls) (.inl v :: st) g μ Q = ((mNl (some l1) = true ∧ mNl (some lk) = true) ∧ Wp E 32 24 (l0 :: l1 :: some (.inl v) :: ls) st g μ Q) := Wp_sti k32_23 (fun _ => rfl) rfl rfl rfl
theorem k32_24 : mCode 32 24 = some (.iinc 3 1, 3) := by decide +kernel
theorem x32_24 {E : ME} {ls : MLs} {st : List MV} {g : MG} {μ : MU} {Q : Option MV → MG → MU → Prop} {l0 l1 l2 : Option MV} {v : Int} : Wp E 32 24 (l0 :: l1 :: l2 :: some (.inl v) :: ls) st g μ Q = (mNl (some l2) = true ∧ Wp E 32 27 (l0 :: l1 :: l2 :: some (.inl (mWr (v + 1))) :: ls) st g μ Q) := Wp_inc k32_24 rfl rfl rfl
theorem k32_27 : mCode 32 27 = some (.goto (-23), 3) := by decide +kernel
theorem x32_27 {E : ME} {ls : MLs} {st : List MV} {g : MG} {μ : MU} {Q : Option MV → MG → MU → Prop} : Wp E 32 27 ls st g μ Q = Wp E 32 4 ls st g μ Q := Wp_goto k32_27 (by decide)
theorem k32_30 : mCode 32 30 = some (.iload_n 2, 1) := by decide +kernel
theorem x32_30 {E : ME} {ls : MLs} {st : List MV} {g : MG} {μ : MU} {Q : Option MV → MG → MU → Prop} {l0 l1 : Option MV} {v : Int} : Wp E 32 30 (l0 :: l1 :: some (.inl v) :: ls) st g μ Q = Wp E 32 31 (l0 :: l1 :: some (.inl v) :: ls) (.inl v :: st) g μ Q := Wp_nx k32_30 rfl
theorem k32_31 : mCode 32 31 = some (.ireturn, 1) := by decide +kernel
theorem x32_31 {E : ME} {ls : MLs} {g : MG} {μ : MU} {Q : Option MV → MG → MU → Prop} {v : Int} : Wp E 32 31 ls [.inl v] g μ Q = Q (some (.inl v)) g μ := Wp_retI k32_31 (by decide)
theorem k33_0 : mCode 33 0 = some (.iconst 0, 1) := by decide +kernel
theorem x33_0 {E : ME} {ls : MLs} {st : List MV} {g : MG} {μ : MU} {Q : Option MV → MG → MU → Prop} : Wp E 33 0 ls st g μ Q = Wp E 33 1 ls (.inl 0 :: st) g μ Q := Wp_nx k33_0 rfl
theorem k33_1 : mCode 33 1 = some (.istore_n 2, 1) := by decide +kernel
theorem x33_1 {E : ME} {ls : MLs} {st : List MV} {g : MG} {μ : MU} {Q : Option MV → MG → MU → Prop} {l0 l1 : Option MV} {lk : Option MV} {v : Int} : Wp E 33 1 (l0 :: l1 :: lk :: ls) (.inl v :: st) g μ Q = ((mNl (some l1) = true ∧ mNl (some lk) = true) ∧ Wp E 33 2 (l0 :: l1 :: some (.inl v) :: ls) st g μ Q) := Wp_sti k33_1 (fun _ => rfl) rfl rfl rfl
theorem k33_2 : mCode 33 2 = some (.iconst 0, 1) := by decide +kernel
theorem x33_2 {E : ME} {ls : MLs} {st : List MV} {g : MG} {μ : MU} {Q : Option MV → MG → MU → Prop} : Wp E 33 2 ls st g μ Q = Wp E 33 3 ls (.inl 0 :: st) g μ Q := Wp_nx k33_2 rfl
theorem k33_3 : mCode 33 3 = some (.istore_n 3, 1) := by decide +kernel
theorem x33_3 {E : ME} {ls : MLs} {st : List MV} {g : MG} {μ : MU} {Q : Option MV → MG → MU → Prop} {l0 l1 l2 : Option MV} {lk : Option MV} {v : Int} : Wp E 33 3 (l0 :: l1 :: l2 :: lk :: ls) (.inl v :: st) g μ Q = ((mNl (some l2) = true ∧ mNl (some lk) = true) ∧ Wp E 33 4 (l0 :: l1 :: l2 :: some (.inl v) :: ls) st g μ Q) := Wp_sti k33_3 (fun _ => rfl) rfl rfl rfl
theorem k33_4 : mCode 33 4 = some (.iload_n 3, 1) := by decide +kernel
theorem x33_4 {E : ME} {ls : MLs} {st : List MV} {g : MG} {μ : MU} {Q : Option MV → MG → MU → Prop} {l0 l1 l2 : Option MV} {v : Int} : Wp E 33 4 (l0 :: l1 :: l2 :: some (.inl v) :: ls) st g μ Q = Wp E 33 5 (l0 :: l1 :: l2 :: some (.inl v) :: ls) (.inl v :: st) g μ Q := Wp_nx k33_4 rfl
theorem k33_5 : mCode 33 5 = some (.aload_n 1, 1) := by decide +kernel
theorem x33_5 {E : ME} {ls : MLs} {st : List MV} {g : MG} {μ : MU} {Q : Option MV → MG → MU → Prop} {l0 : Option MV} {v : Nat ⊕ Nat} : Wp E 33 5 (l0 :: some (.inr (.inr v)) :: ls) st g μ Q = Wp E 33 6 (l0 :: some (.inr (.inr v)) :: ls) (.inr (.inr v) :: st) g μ Q := Wp_nx k33_5 rfl
theorem k33_6 : mCode 33 6 = some (.getfield 63, 3) := by decide +kernel
theorem x33_6 {E : ME} {ls : MLs} {st : List MV} {g : MG} {μ : MU} {Q : Option MV → MG → MU → Prop} {a : Nat} : Wp E 33 6 ls (.inr (.inr (.inl a)) :: st) g μ Q = ((mKd g a).1 = 0 ∧ Wp E 33 9 ls (.inl (μ a 7) :: st) g μ Q) := Wp_getI k33_6 f3_63 (by decide) (by decide)
theorem k33_9 : mCode 33 9 = some (.if_icmp .ge 20, 3) := by decide +kernel
theorem x33_9 {E : ME} {ls : MLs} {st : List MV} {g : MG} {μ : MU} {Q : Option MV → MG → MU → Prop} {a b : Int} : Wp E 33 9 ls (.inl b :: .inl a :: st) g μ Q = ((b ≤ a → Wp E 33 29 ls st g μ Q) ∧ (a < b → Wp E 33 12 ls st g μ Q)) := Wp_cmp_ge k33_9 (by decide)
theorem k33_12 : mCode 33 12 = some (.iload_n 2, 1) := by decide +kernel
theorem x33_12 {E : ME} {ls : MLs} {st : List MV} {g : MG} {μ : MU} {Q : Option MV → MG → MU → Prop} {l0 l1 : Option MV} {v : Int} : Wp E 33 12 (l0 :: l1 :: some (.inl v) :: ls) st g μ Q = Wp E 33 13 (l0 :: l1 :: some (.inl v) :: ls) (.inl v :: st) g μ Q := Wp_nx k33_12 rfl
theorem k33_13 : mCode 33 13 = some (.aload_n 0, 1) := by decide +kernel
theorem x33_13 {E : ME} {ls : MLs} {st : List MV} {g : MG} {μ : MU} {Q : Option MV → MG → MU → Prop} {v : Nat ⊕ Nat} : Wp E 33 13 (some (.inr (.inr v)) :: ls) st g μ Q = Wp E 33 14 (some (.inr (.inr v)) :: ls) (.inr (.inr v) :: st) g μ Q := Wp_nx k33_13 rfl
theorem k33_14 : mCode 33 14 = some (.getfield 18, 3) := by decide +kernel
theorem x33_14 {E : ME} {ls : MLs} {st : List MV} {g : MG} {μ : MU} {Q : Option MV → MG → MU → Prop} {a : Nat} : Wp E 33 14 ls (.inr (.inr (.inl a)) :: st) g μ Q = ((mKd g a).1 = 3 ∧ Wp E 33 17 ls (mRv (mRf g a 2) :: st) g μ Q) := Wp_getR k33_14 f3_18 (by decide) (by decide)
theorem k33_17 : mCode 33 17 = some (.iload_n 3, 1) := by decide +kernel
theorem x33_17 {E : ME} {ls : MLs} {st : List MV} {g : MG} {μ : MU} {Q : Option MV → MG → MU → Prop} {l0 l1 l2 : Option MV} {v : Int} : Wp E 33 17 (l0 :: l1 :: l2 :: some (.inl v) :: ls) st g μ Q = Wp E 33 18 (l0 :: l1 :: l2 :: some (.inl v) :: ls) (.inl v :: st) g μ Q := Wp_nx k33_17 rfl
theorem k33_18 : mCode 33 18 = some (.iaload, 1) := by decide +kernel
theorem x33_18 {E : ME} {ls : MLs} {st : List MV} {g : MG} {μ : MU} {Q : Option MV → MG → MU → Prop} {a : Nat} {j : Int} : Wp E 33 18 ls (.inl j :: .inr (.inr (.inl a)) :: st) g μ Q = (((mKd g a).1 = 10 ∧ 0 ≤ j ∧ j < (mKd g a).2) ∧ Wp E 33 19 ls (.inl (μ a j.toNat) :: st) g μ Q) := Wp_ald k33_18 (fun _ => rfl)
theorem k33_19 : mCode 33 19 = some (.invokestatic 103, 3) := by decide +kernel
theorem x33_19 {E : ME} {ls : MLs} {st : List MV} {g : MG} {μ : MU} {Q : Option MV → MG → MU → Prop} {a0 : Int} {a1 : Int} : Wp E 33 19 ls (.inl a1 :: .inl a0 :: st) g μ Q = (st.length ≤ 4 ∧ Wp E 143 0 [some (.inl a0), some (.inl a1)] [] g μ (fun r g' μ' => (g'.1 = g.1 ∧ g'.2.1 = g.2.1) ∧ Wp E 33 22 ls (mPush r st) g' μ' Q)) := Wp_cS k33_19 m3_103 (by decide) (as := [.inl a0, .inl a1]) rfl rfl rfl ⟨Nat.le_of_ble_eq_true rfl, by decide⟩
theorem k33_22 : mCode 33 22 = some (.istore_n 2, 1) := by decide +kernel
theorem x33_22 {E : ME} {ls : MLs} {st : List MV} {g : MG} {μ : MU} {Q : Option MV → MG → MU → Prop} {l0 l1 : Option MV} {lk : Option MV} {v : Int} : Wp E 33 22 (l0 :: l1 :: lk :: ls) (.inl v :: st) g μ Q = ((mNl (some l1) = true ∧ mNl (some lk) = true) ∧ Wp E 33 23 (l0 :: l1 :: some (.inl v) :: ls) st g μ Q) := Wp_sti k33_22 (fun _ => rfl) rfl rfl rfl
theorem k33_23 : mCode 33 23 = some (.iinc 3 1, 3) := by decide +kernel
theorem x33_23 {E : ME} {ls : MLs} {st : List MV} {g : MG} {μ : MU} {Q : Option MV → MG → MU → Prop} {l0 l1 l2 : Option MV} {v : Int} : Wp E 33 23 (l0 :: l1 :: l2 :: some (.inl v) :: ls) st g μ Q = (mNl (some l2) = true ∧ Wp E 33 26 (l0 :: l1 :: l2 :: some (.inl (mWr (v + 1))) :: ls) st g μ Q) := Wp_inc k33_23 rfl rfl rfl
theorem k33_26 : mCode 33 26 = some (.goto (-22), 3) := by decide +kernel
theorem x33_26 {E : ME} {ls : MLs} {st : List MV} {g : MG} {μ : MU} {Q : Option MV → MG → MU → Prop} : Wp E 33 26 ls st g μ Q = Wp E 33 4 ls st g μ Q := Wp_goto k33_26 (by decide)
theorem k33_29 : mCode 33 29 = some (.iload_n 2, 1) := by decide +kernel
theorem x33_29 {E : ME} {ls : MLs} {st : List MV} {g : MG} {μ : MU} {Q : Option MV → MG → MU → Prop} {l0 l1 : Option MV} {v : Int} : Wp E 33 29 (l0 :: l1 :: some (.inl v) :: ls) st g μ Q = Wp E 33 30 (l0 :: l1 :: some (.inl v) :: ls) (.inl v :: st) g μ Q := Wp_nx k33_29 rfl
theorem k33_30 : mCode 33 30 = some (.ireturn, 1) := by decide +kernel
theorem x33_30 {E : ME} {ls : MLs} {g : MG} {μ : MU} {Q : Option MV → MG → MU → Prop} {v : Int} : Wp E 33 30 ls [.inl v] g μ Q = Q (some (.inl v)) g μ := Wp_retI k33_30 (by decide)
theorem k34_0 : mCode 34 0 = some (.aload_n 0, 1) := by decide +kernel
theorem x34_0 {E : ME} {ls : MLs} {st : List MV} {g : MG} {μ : MU} {Q : Option MV → MG → MU → Prop} {v : Nat ⊕ Nat} : Wp E 34 0 (some (.inr (.inr v)) :: ls) st g μ Q = Wp E 34 1 (some (.inr (.inr v)) :: ls) (.inr (.inr v) :: st) g μ Q := Wp_nx k34_0 rfl
theorem k34_1 : mCode 34 1 = some (.invokespecial 3, 3) := by decide +kernel
theorem x34_1 {E : ME} {ls : MLs} {st : List MV} {g : MG} {μ : MU} {Q : Option MV → MG → MU → Prop} {a : Nat} : Wp E 34 1 ls (.inr (.inr (.inl a)) :: st) g μ Q = (st.length ≤ 4 ∧ Wp E 34 4 ls st g μ Q) := Wp_oin k34_1 m4_3
theorem k34_4 : mCode 34 4 = some (.aload_n 0, 1) := by decide +kernel
theorem x34_4 {E : ME} {ls : MLs} {st : List MV} {g : MG} {μ : MU} {Q : Option MV → MG → MU → Prop} {v : Nat ⊕ Nat} : Wp E 34 4 (some (.inr (.inr v)) :: ls) st g μ Q = Wp E 34 5 (some (.inr (.inr v)) :: ls) (.inr (.inr v) :: st) g μ Q := Wp_nx k34_4 rfl
theorem k34_5 : mCode 34 5 = some (.bipush 6, 2) := by decide +kernel
theorem x34_5 {E : ME} {ls : MLs} {st : List MV} {g : MG} {μ : MU} {Q : Option MV → MG → MU → Prop} : Wp E 34 5 ls st g μ Q = Wp E 34 7 ls (.inl 6 :: st) g μ Q := Wp_nx k34_5 rfl
theorem k34_7 : mCode 34 7 = some (.newarray .int, 2) := by decide +kernel
theorem x34_7 {E : ME} {ls : MLs} {st : List MV} {g : MG} {μ : MU} {Q : Option MV → MG → MU → Prop} {n : Int} : Wp E 34 7 ls (.inl n :: st) g μ Q = ((0 ≤ n ∧ n < 2000) ∧ Wp E 34 9 ls (mR g.1 :: st) (mGrow g (10, n.toNat) n.toNat) (mZero μ g.1) Q) := Wp_newa k34_7 (fun _ => rfl)
theorem k34_9 : mCode 34 9 = some (.putfield 9, 3) := by decide +kernel
theorem x34_9 {E : ME} {ls : MLs} {st : List MV} {g : MG} {μ : MU} {Q : Option MV → MG → MU → Prop} {a b : Nat} : Wp E 34 9 ls (.inr (.inr (.inl b)) :: .inr (.inr (.inl a)) :: st) g μ Q = ((mKd g a).1 = 4 ∧ Wp E 34 12 ls st (mSetR g a 0 (some b)) μ Q) := Wp_putR k34_9 f4_9 (by decide) (by decide) (by decide)
theorem k34_12 : mCode 34 12 = some (.aload_n 0, 1) := by decide +kernel
theorem x34_12 {E : ME} {ls : MLs} {st : List MV} {g : MG} {μ : MU} {Q : Option MV → MG → MU → Prop} {v : Nat ⊕ Nat} : Wp E 34 12 (some (.inr (.inr v)) :: ls) st g μ Q = Wp E 34 13 (some (.inr (.inr v)) :: ls) (.inr (.inr v) :: st) g μ Q := Wp_nx k34_12 rfl
theorem k34_13 : mCode 34 13 = some (.bipush 6, 2) := by decide +kernel
theorem x34_13 {E : ME} {ls : MLs} {st : List MV} {g : MG} {μ : MU} {Q : Option MV → MG → MU → Prop} : Wp E 34 13 ls st g μ Q = Wp E 34 15 ls (.inl 6 :: st) g μ Q := Wp_nx k34_13 rfl
theorem k34_15 : mCode 34 15 = some (.newarray .int, 2) := by decide +kernel
theorem x34_15 {E : ME} {ls : MLs} {st : List MV} {g : MG} {μ : MU} {Q : Option MV → MG → MU → Prop} {n : Int} : Wp E 34 15 ls (.inl n :: st) g μ Q = ((0 ≤ n ∧ n < 2000) ∧ Wp E 34 17 ls (mR g.1 :: st) (mGrow g (10, n.toNat) n.toNat) (mZero μ g.1) Q) := Wp_newa k34_15 (fun _ => rfl)
theorem k34_17 : mCode 34 17 = some (.putfield 15, 3) := by decide +kernel
theorem x34_17 {E : ME} {ls : MLs} {st : List MV} {g : MG} {μ : MU} {Q : Option MV → MG → MU → Prop} {a b : Nat} : Wp E 34 17 ls (.inr (.inr (.inl b)) :: .inr (.inr (.inl a)) :: st) g μ Q = ((mKd g a).1 = 4 ∧ Wp E 34 20 ls st (mSetR g a 1 (some b)) μ Q) := Wp_putR k34_17 f4_15 (by decide) (by decide) (by decide)
theorem k34_20 : mCode 34 20 = some (.aload_n 0, 1) := by decide +kernel
theorem x34_20 {E : ME} {ls : MLs} {st : List MV} {g : MG} {μ : MU} {Q : Option MV → MG → MU → Prop} {v : Nat ⊕ Nat} : Wp E 34 20 (some (.inr (.inr v)) :: ls) st g μ Q = Wp E 34 21 (some (.inr (.inr v)) :: ls) (.inr (.inr v) :: st) g μ Q := Wp_nx k34_20 rfl
theorem k34_21 : mCode 34 21 = some (.bipush 6, 2) := by decide +kernel
theorem x34_21 {E : ME} {ls : MLs} {st : List MV} {g : MG} {μ : MU} {Q : Option MV → MG → MU → Prop} : Wp E 34 21 ls st g μ Q = Wp E 34 23 ls (.inl 6 :: st) g μ Q := Wp_nx k34_21 rfl
theorem k34_23 : mCode 34 23 = some (.newarray .int, 2) := by decide +kernel
theorem x34_23 {E : ME} {ls : MLs} {st : List MV} {g : MG} {μ : MU} {Q : Option MV → MG → MU → Prop} {n : Int} : Wp E 34 23 ls (.inl n :: st) g μ Q = ((0 ≤ n ∧ n < 2000) ∧ Wp E 34 25 ls (mR g.1 :: st) (mGrow g (10, n.toNat) n.toNat) (mZero μ g.1) Q) := Wp_newa k34_23 (fun _ => rfl)
theorem k34_25 : mCode 34 25 = some (.putfield 18, 3) := by decide +kernel
theorem x34_25 {E : ME} {ls : MLs} {st : List MV} {g : MG} {μ : MU} {Q : Option MV → MG → MU → Prop} {a b : Nat} : Wp E 34 25 ls (.inr (.inr (.inl b)) :: .inr (.inr (.inl a)) :: st) g μ Q = ((mKd g a).1 = 4 ∧ Wp E 34 28 ls st (mSetR g a 2 (some b)) μ Q) := Wp_putR k34_25 f4_18 (by decide) (by decide) (by decide)
theorem k34_28 : mCode 34 28 = some (.aload_n 0, 1) := by decide +kernel
theorem x34_28 {E : ME} {ls : MLs} {st : List MV} {g : MG} {μ : MU} {Q : Option MV → MG → MU → Prop} {v : Nat ⊕ Nat} : Wp E 34 28 (some (.inr (.inr v)) :: ls) st g μ Q = Wp E 34 29 (some (.inr (.inr v)) :: ls) (.inr (.inr v) :: st) g μ Q := Wp_nx k34_28 rfl
theorem k34_29 : mCode 34 29 = some (.bipush 6, 2) := by decide +kernel
theorem x34_29 {E : ME} {ls : MLs} {st : List MV} {g : MG} {μ : MU} {Q : Option MV → MG → MU → Prop} : Wp E 34 29 ls st g μ Q = Wp E 34 31 ls (.inl 6 :: st) g μ Q := Wp_nx k34_29 rfl
theorem k34_31 : mCode 34 31 = some (.newarray .int, 2) := by decide +kernel
theorem x34_31 {E : ME} {ls : MLs} {st : List MV} {g : MG} {μ : MU} {Q : Option MV → MG → MU → Prop} {n : Int} : Wp E 34 31 ls (.inl n :: st) g μ Q = ((0 ≤ n ∧ n < 2000) ∧ Wp E 34 33 ls (mR g.1 :: st) (mGrow g (10, n.toNat) n.toNat) (mZero μ g.1) Q) := Wp_newa k34_31 (fun _ => rfl)
theorem k34_33 : mCode 34 33 = some (.putfield 21, 3) := by decide +kernel
theorem x34_33 {E : ME} {ls : MLs} {st : List MV} {g : MG} {μ : MU} {Q : Option MV → MG → MU → Prop} {a b : Nat} : Wp E 34 33 ls (.inr (.inr (.inl b)) :: .inr (.inr (.inl a)) :: st) g μ Q = ((mKd g a).1 = 4 ∧ Wp E 34 36 ls st (mSetR g a 3 (some b)) μ Q) := Wp_putR k34_33 f4_21 (by decide) (by decide) (by decide)
theorem k34_36 : mCode 34 36 = some (.aload_n 0, 1) := by decide +kernel
theorem x34_36 {E : ME} {ls : MLs} {st : List MV} {g : MG} {μ : MU} {Q : Option MV → MG → MU → Prop} {v : Nat ⊕ Nat} : Wp E 34 36 (some (.inr (.inr v)) :: ls) st g μ Q = Wp E 34 37 (some (.inr (.inr v)) :: ls) (.inr (.inr v) :: st) g μ Q := Wp_nx k34_36 rfl
theorem k34_37 : mCode 34 37 = some (.iconst 0, 1) := by decide +kernel
theorem x34_37 {E : ME} {ls : MLs} {st : List MV} {g : MG} {μ : MU} {Q : Option MV → MG → MU → Prop} : Wp E 34 37 ls st g μ Q = Wp E 34 38 ls (.inl 0 :: st) g μ Q := Wp_nx k34_37 rfl
theorem k34_38 : mCode 34 38 = some (.putfield 24, 3) := by decide +kernel
theorem x34_38 {E : ME} {ls : MLs} {st : List MV} {g : MG} {μ : MU} {Q : Option MV → MG → MU → Prop} {a : Nat} {v : Int} : Wp E 34 38 ls (.inl v :: .inr (.inr (.inl a)) :: st) g μ Q = ((mKd g a).1 = 4 ∧ Wp E 34 41 ls st g (mUp μ a 4 v) Q) := Wp_putI0 k34_38 f4_24 (by decide) (by decide)
theorem k34_41 : mCode 34 41 = some (.aload_n 0, 1) := by decide +kernel
theorem x34_41 {E : ME} {ls : MLs} {st : List MV} {g : MG} {μ : MU} {Q : Option MV → MG → MU → Prop} {v : Nat ⊕ Nat} : Wp E 34 41 (some (.inr (.inr v)) :: ls) st g μ Q = Wp E 34 42 (some (.inr (.inr v)) :: ls) (.inr (.inr v) :: st) g μ Q := Wp_nx k34_41 rfl
theorem k34_42 : mCode 34 42 = some (.iconst 0, 1) := by decide +kernel
theorem x34_42 {E : ME} {ls : MLs} {st : List MV} {g : MG} {μ : MU} {Q : Option MV → MG → MU → Prop} : Wp E 34 42 ls st g μ Q = Wp E 34 43 ls (.inl 0 :: st) g μ Q := Wp_nx k34_42 rfl
theorem k34_43 : mCode 34 43 = some (.putfield 28, 3) := by decide +kernel
theorem x34_43 {E : ME} {ls : MLs} {st : List MV} {g : MG} {μ : MU} {Q : Option MV → MG → MU → Prop} {a : Nat} {v : Int} : Wp E 34 43 ls (.inl v :: .inr (.inr (.inl a)) :: st) g μ Q = ((mKd g a).1 = 4 ∧ Wp E 34 46 ls st g (mUp μ a 5 v) Q) := Wp_putI0 k34_43 f4_28 (by decide) (by decide)
theorem k34_46 : mCode 34 46 = some (.aload_n 0, 1) := by decide +kernel
theorem x34_46 {E : ME} {ls : MLs} {st : List MV} {g : MG} {μ : MU} {Q : Option MV → MG → MU → Prop} {v : Nat ⊕ Nat} : Wp E 34 46 (some (.inr (.inr v)) :: ls) st g μ Q = Wp E 34 47 (some (.inr (.inr v)) :: ls) (.inr (.inr v) :: st) g μ Q := Wp_nx k34_46 rfl
theorem k34_47 : mCode 34 47 = some (.iconst 0, 1) := by decide +kernel
theorem x34_47 {E : ME} {ls : MLs} {st : List MV} {g : MG} {μ : MU} {Q : Option MV → MG → MU → Prop} : Wp E 34 47 ls st g μ Q = Wp E 34 48 ls (.inl 0 :: st) g μ Q := Wp_nx k34_47 rfl
theorem k34_48 : mCode 34 48 = some (.putfield 31, 3) := by decide +kernel
theorem x34_48 {E : ME} {ls : MLs} {st : List MV} {g : MG} {μ : MU} {Q : Option MV → MG → MU → Prop} {a : Nat} {v : Int} : Wp E 34 48 ls (.inl v :: .inr (.inr (.inl a)) :: st) g μ Q = ((mKd g a).1 = 4 ∧ Wp E 34 51 ls st g (mUp μ a 6 v) Q) := Wp_putI0 k34_48 f4_31 (by decide) (by decide)
theorem k34_51 : mCode 34 51 = some (.aload_n 0, 1) := by decide +kernel
theorem x34_51 {E : ME} {ls : MLs} {st : List MV} {g : MG} {μ : MU} {Q : Option MV → MG → MU → Prop} {v : Nat ⊕ Nat} : Wp E 34 51 (some (.inr (.inr v)) :: ls) st g μ Q = Wp E 34 52 (some (.inr (.inr v)) :: ls) (.inr (.inr v) :: st) g μ Q := Wp_nx k34_51 rfl
theorem k34_52 : mCode 34 52 = some (.iconst 0, 1) := by decide +kernel
theorem x34_52 {E : ME} {ls : MLs} {st : List MV} {g : MG} {μ : MU} {Q : Option MV → MG → MU → Prop} : Wp E 34 52 ls st g μ Q = Wp E 34 53 ls (.inl 0 :: st) g μ Q := Wp_nx k34_52 rfl
theorem k34_53 : mCode 34 53 = some (.putfield 34, 3) := by decide +kernel
theorem x34_53 {E : ME} {ls : MLs} {st : List MV} {g : MG} {μ : MU} {Q : Option MV → MG → MU → Prop} {a : Nat} {v : Int} : Wp E 34 53 ls (.inl v :: .inr (.inr (.inl a)) :: st) g μ Q = ((mKd g a).1 = 4 ∧ Wp E 34 56 ls st g (mUp μ a 7 v) Q) := Wp_putI0 k34_53 f4_34 (by decide) (by decide)
theorem k34_56 : mCode 34 56 = some (.aload_n 0, 1) := by decide +kernel
theorem x34_56 {E : ME} {ls : MLs} {st : List MV} {g : MG} {μ : MU} {Q : Option MV → MG → MU → Prop} {v : Nat ⊕ Nat} : Wp E 34 56 (some (.inr (.inr v)) :: ls) st g μ Q = Wp E 34 57 (some (.inr (.inr v)) :: ls) (.inr (.inr v) :: st) g μ Q := Wp_nx k34_56 rfl
theorem k34_57 : mCode 34 57 = some (.iconst 0, 1) := by decide +kernel
theorem x34_57 {E : ME} {ls : MLs} {st : List MV} {g : MG} {μ : MU} {Q : Option MV → MG → MU → Prop} : Wp E 34 57 ls st g μ Q = Wp E 34 58 ls (.inl 0 :: st) g μ Q := Wp_nx k34_57 rfl
theorem k34_58 : mCode 34 58 = some (.putfield 37, 3) := by decide +kernel
theorem x34_58 {E : ME} {ls : MLs} {st : List MV} {g : MG} {μ : MU} {Q : Option MV → MG → MU → Prop} {a : Nat} {v : Int} : Wp E 34 58 ls (.inl v :: .inr (.inr (.inl a)) :: st) g μ Q = ((mKd g a).1 = 4 ∧ Wp E 34 61 ls st g (mUp μ a 8 v) Q) := Wp_putI0 k34_58 f4_37 (by decide) (by decide)
theorem k34_61 : mCode 34 61 = some (.return_, 1) := by decide +kernel
theorem x34_61 {E : ME} {ls : MLs} {g : MG} {μ : MU} {Q : Option MV → MG → MU → Prop} : Wp E 34 61 ls [] g μ Q = Q none g μ := Wp_retV k34_61 (by decide)
theorem k35_0 : mCode 35 0 = some (.aload_n 0, 1) := by decide +kernel
theorem x35_0 {E : ME} {ls : MLs} {st : List MV} {g : MG} {μ : MU} {Q : Option MV → MG → MU → Prop} {v : Nat ⊕ Nat} : Wp E 35 0 (some (.inr (.inr v)) :: ls) st g μ Q = Wp E 35 1 (some (.inr (.inr v)) :: ls) (.inr (.inr v) :: st) g μ Q := Wp_nx k35_0 rfl
theorem k35_1 : mCode 35 1 = some (.aload_n 1, 1) := by decide +kernel
theorem x35_1 {E : ME} {ls : MLs} {st : List MV} {g : MG} {μ : MU} {Q : Option MV → MG → MU → Prop} {l0 : Option MV} {v : Nat ⊕ Nat} : Wp E 35 1 (l0 :: some (.inr (.inr v)) :: ls) st g μ Q = Wp E 35 2 (l0 :: some (.inr (.inr v)) :: ls) (.inr (.inr v) :: st) g μ Q := Wp_nx k35_1 rfl
theorem k35_2 : mCode 35 2 = some (.getfield 40, 3) := by decide +kernel
theorem x35_2 {E : ME} {ls : MLs} {st : List MV} {g : MG} {μ : MU} {Q : Option MV → MG → MU → Prop} {a : Nat} : Wp E 35 2 ls (.inr (.inr (.inl a)) :: st) g μ Q = ((mKd g a).1 = 0 ∧ Wp E 35 5 ls (mRv (mRf g a 3) :: st) g μ Q) := Wp_getR k35_2 f4_40 (by decide) (by decide)
theorem k35_5 : mCode 35 5 = some (.iload_n 2, 1) := by decide +kernel
theorem x35_5 {E : ME} {ls : MLs} {st : List MV} {g : MG} {μ : MU} {Q : Option MV → MG → MU → Prop} {l0 l1 : Option MV} {v : Int} : Wp E 35 5 (l0 :: l1 :: some (.inl v) :: ls) st g μ Q = Wp E 35 6 (l0 :: l1 :: some (.inl v) :: ls) (.inl v :: st) g μ Q := Wp_nx k35_5 rfl
theorem k35_6 : mCode 35 6 = some (.iaload, 1) := by decide +kernel
theorem x35_6 {E : ME} {ls : MLs} {st : List MV} {g : MG} {μ : MU} {Q : Option MV → MG → MU → Prop} {a : Nat} {j : Int} : Wp E 35 6 ls (.inl j :: .inr (.inr (.inl a)) :: st) g μ Q = (((mKd g a).1 = 10 ∧ 0 ≤ j ∧ j < (mKd g a).2) ∧ Wp E 35 7 ls (.inl (μ a j.toNat) :: st) g μ Q) := Wp_ald k35_6 (fun _ => rfl)
theorem k35_7 : mCode 35 7 = some (.putfield 24, 3) := by decide +kernel
theorem x35_7 {E : ME} {ls : MLs} {st : List MV} {g : MG} {μ : MU} {Q : Option MV → MG → MU → Prop} {a : Nat} {v : Int} : Wp E 35 7 ls (.inl v :: .inr (.inr (.inl a)) :: st) g μ Q = ((mKd g a).1 = 4 ∧ Wp E 35 10 ls st g (mUp μ a 4 v) Q) := Wp_putI0 k35_7 f4_24 (by decide) (by decide)
theorem k35_10 : mCode 35 10 = some (.aload_n 0, 1) := by decide +kernel
theorem x35_10 {E : ME} {ls : MLs} {st : List MV} {g : MG} {μ : MU} {Q : Option MV → MG → MU → Prop} {v : Nat ⊕ Nat} : Wp E 35 10 (some (.inr (.inr v)) :: ls) st g μ Q = Wp E 35 11 (some (.inr (.inr v)) :: ls) (.inr (.inr v) :: st) g μ Q := Wp_nx k35_10 rfl
theorem k35_11 : mCode 35 11 = some (.getfield 9, 3) := by decide +kernel
theorem x35_11 {E : ME} {ls : MLs} {st : List MV} {g : MG} {μ : MU} {Q : Option MV → MG → MU → Prop} {a : Nat} : Wp E 35 11 ls (.inr (.inr (.inl a)) :: st) g μ Q = ((mKd g a).1 = 4 ∧ Wp E 35 14 ls (mRv (mRf g a 0) :: st) g μ Q) := Wp_getR k35_11 f4_9 (by decide) (by decide)
theorem k35_14 : mCode 35 14 = some (.aload_n 1, 1) := by decide +kernel
theorem x35_14 {E : ME} {ls : MLs} {st : List MV} {g : MG} {μ : MU} {Q : Option MV → MG → MU → Prop} {l0 : Option MV} {v : Nat ⊕ Nat} : Wp E 35 14 (l0 :: some (.inr (.inr v)) :: ls) st g μ Q = Wp E 35 15 (l0 :: some (.inr (.inr v)) :: ls) (.inr (.inr v) :: st) g μ Q := Wp_nx k35_14 rfl
theorem k35_15 : mCode 35 15 = some (.getfield 45, 3) := by decide +kernel
theorem x35_15 {E : ME} {ls : MLs} {st : List MV} {g : MG} {μ : MU} {Q : Option MV → MG → MU → Prop} {a : Nat} : Wp E 35 15 ls (.inr (.inr (.inl a)) :: st) g μ Q = ((mKd g a).1 = 0 ∧ Wp E 35 18 ls (mRv (mRf g a 4) :: st) g μ Q) := Wp_getR k35_15 f4_45 (by decide) (by decide)
theorem k35_18 : mCode 35 18 = some (.iload_n 2, 1) := by decide +kernel
theorem x35_18 {E : ME} {ls : MLs} {st : List MV} {g : MG} {μ : MU} {Q : Option MV → MG → MU → Prop} {l0 l1 : Option MV} {v : Int} : Wp E 35 18 (l0 :: l1 :: some (.inl v) :: ls) st g μ Q = Wp E 35 19 (l0 :: l1 :: some (.inl v) :: ls) (.inl v :: st) g μ Q := Wp_nx k35_18 rfl
theorem k35_19 : mCode 35 19 = some (.iaload, 1) := by decide +kernel
theorem x35_19 {E : ME} {ls : MLs} {st : List MV} {g : MG} {μ : MU} {Q : Option MV → MG → MU → Prop} {a : Nat} {j : Int} : Wp E 35 19 ls (.inl j :: .inr (.inr (.inl a)) :: st) g μ Q = (((mKd g a).1 = 10 ∧ 0 ≤ j ∧ j < (mKd g a).2) ∧ Wp E 35 20 ls (.inl (μ a j.toNat) :: st) g μ Q) := Wp_ald k35_19 (fun _ => rfl)
theorem k35_20 : mCode 35 20 = some (.invokestatic 48, 3) := by decide +kernel
theorem x35_20 {E : ME} {ls : MLs} {st : List MV} {g : MG} {μ : MU} {Q : Option MV → MG → MU → Prop} {a0 : Nat ⊕ Nat} {a1 : Int} : Wp E 35 20 ls (.inl a1 :: .inr (.inr a0) :: st) g μ Q = (st.length ≤ 4 ∧ Wp E 151 0 [some (.inr (.inr a0)), some (.inl a1), none, none] [] g μ (fun r g' μ' => (g'.1 = g.1 ∧ g'.2.1 = g.2.1) ∧ Wp E 35 23 ls (mPush r st) g' μ' Q)) := Wp_cS k35_20 m4_48 (by decide) (as := [.inr (.inr a0), .inl a1]) rfl rfl rfl ⟨Nat.le_of_ble_eq_true rfl, by decide⟩
theorem k35_23 : mCode 35 23 = some (.aload_n 0, 1) := by decide +kernel
theorem x35_23 {E : ME} {ls : MLs} {st : List MV} {g : MG} {μ : MU} {Q : Option MV → MG → MU → Prop} {v : Nat ⊕ Nat} : Wp E 35 23 (some (.inr (.inr v)) :: ls) st g μ Q = Wp E 35 24 (some (.inr (.inr v)) :: ls) (.inr (.inr v) :: st) g μ Q := Wp_nx k35_23 rfl
theorem k35_24 : mCode 35 24 = some (.getfield 15, 3) := by decide +kernel
theorem x35_24 {E : ME} {ls : MLs} {st : List MV} {g : MG} {μ : MU} {Q : Option MV → MG → MU → Prop} {a : Nat} : Wp E 35 24 ls (.inr (.inr (.inl a)) :: st) g μ Q = ((mKd g a).1 = 4 ∧ Wp E 35 27 ls (mRv (mRf g a 1) :: st) g μ Q) := Wp_getR k35_24 f4_15 (by decide) (by decide)
theorem k35_27 : mCode 35 27 = some (.iconst 0, 1) := by decide +kernel
theorem x35_27 {E : ME} {ls : MLs} {st : List MV} {g : MG} {μ : MU} {Q : Option MV → MG → MU → Prop} : Wp E 35 27 ls st g μ Q = Wp E 35 28 ls (.inl 0 :: st) g μ Q := Wp_nx k35_27 rfl
theorem k35_28 : mCode 35 28 = some (.invokestatic 48, 3) := by decide +kernel
theorem x35_28 {E : ME} {ls : MLs} {st : List MV} {g : MG} {μ : MU} {Q : Option MV → MG → MU → Prop} {a0 : Nat ⊕ Nat} {a1 : Int} : Wp E 35 28 ls (.inl a1 :: .inr (.inr a0) :: st) g μ Q = (st.length ≤ 4 ∧ Wp E 151 0 [some (.inr (.inr a0)), some (.inl a1), none, none] [] g μ (fun r g' μ' => (g'.1 = g.1 ∧ g'.2.1 = g.2.1) ∧ Wp E 35 31 ls (mPush r st) g' μ' Q)) := Wp_cS k35_28 m4_48 (by decide) (as := [.inr (.inr a0), .inl a1]) rfl rfl rfl ⟨Nat.le_of_ble_eq_true rfl, by decide⟩
theorem k35_31 : mCode 35 31 = some (.aload_n 1, 1) := by decide +kernel
theorem x35_31 {E : ME} {ls : MLs} {st : List MV} {g : MG} {μ : MU} {Q : Option MV → MG → MU → Prop} {l0 : Option MV} {v : Nat ⊕ Nat} : Wp E 35 31 (l0 :: some (.inr (.inr v)) :: ls) st g μ Q = Wp E 35 32 (l0 :: some (.inr (.inr v)) :: ls) (.inr (.inr v) :: st) g μ Q := Wp_nx k35_31 rfl
theorem k35_32 : mCode 35 32 = some (.getfield 54, 3) := by decide +kernel
theorem x35_32 {E : ME} {ls : MLs} {st : List MV} {g : MG} {μ : MU} {Q : Option MV → MG → MU → Prop} {a : Nat} : Wp E 35 32 ls (.inr (.inr (.inl a)) :: st) g μ Q = ((mKd g a).1 = 0 ∧ Wp E 35 35 ls (mRv (mRf g a 6) :: st) g μ Q) := Wp_getR k35_32 f4_54 (by decide) (by decide)
theorem k35_35 : mCode 35 35 = some (.iload_n 2, 1) := by decide +kernel
theorem x35_35 {E : ME} {ls : MLs} {st : List MV} {g : MG} {μ : MU} {Q : Option MV → MG → MU → Prop} {l0 l1 : Option MV} {v : Int} : Wp E 35 35 (l0 :: l1 :: some (.inl v) :: ls) st g μ Q = Wp E 35 36 (l0 :: l1 :: some (.inl v) :: ls) (.inl v :: st) g μ Q := Wp_nx k35_35 rfl
theorem k35_36 : mCode 35 36 = some (.bipush 6, 2) := by decide +kernel
theorem x35_36 {E : ME} {ls : MLs} {st : List MV} {g : MG} {μ : MU} {Q : Option MV → MG → MU → Prop} : Wp E 35 36 ls st g μ Q = Wp E 35 38 ls (.inl 6 :: st) g μ Q := Wp_nx k35_36 rfl
theorem k35_38 : mCode 35 38 = some (.imul, 1) := by decide +kernel
theorem x35_38 {E : ME} {ls : MLs} {st : List MV} {g : MG} {μ : MU} {Q : Option MV → MG → MU → Prop} {a b : Int} : Wp E 35 38 ls (.inl b :: .inl a :: st) g μ Q = Wp E 35 39 ls (.inl (mWr (a * b)) :: st) g μ Q := Wp_nx k35_38 rfl
theorem k35_39 : mCode 35 39 = some (.aload_n 0, 1) := by decide +kernel
theorem x35_39 {E : ME} {ls : MLs} {st : List MV} {g : MG} {μ : MU} {Q : Option MV → MG → MU → Prop} {v : Nat ⊕ Nat} : Wp E 35 39 (some (.inr (.inr v)) :: ls) st g μ Q = Wp E 35 40 (some (.inr (.inr v)) :: ls) (.inr (.inr v) :: st) g μ Q := Wp_nx k35_39 rfl
theorem k35_40 : mCode 35 40 = some (.getfield 18, 3) := by decide +kernel
theorem x35_40 {E : ME} {ls : MLs} {st : List MV} {g : MG} {μ : MU} {Q : Option MV → MG → MU → Prop} {a : Nat} : Wp E 35 40 ls (.inr (.inr (.inl a)) :: st) g μ Q = ((mKd g a).1 = 4 ∧ Wp E 35 43 ls (mRv (mRf g a 2) :: st) g μ Q) := Wp_getR k35_40 f4_18 (by decide) (by decide)
theorem k35_43 : mCode 35 43 = some (.iconst 0, 1) := by decide +kernel
theorem x35_43 {E : ME} {ls : MLs} {st : List MV} {g : MG} {μ : MU} {Q : Option MV → MG → MU → Prop} : Wp E 35 43 ls st g μ Q = Wp E 35 44 ls (.inl 0 :: st) g μ Q := Wp_nx k35_43 rfl
theorem k35_44 : mCode 35 44 = some (.bipush 6, 2) := by decide +kernel
theorem x35_44 {E : ME} {ls : MLs} {st : List MV} {g : MG} {μ : MU} {Q : Option MV → MG → MU → Prop} : Wp E 35 44 ls st g μ Q = Wp E 35 46 ls (.inl 6 :: st) g μ Q := Wp_nx k35_44 rfl
theorem k35_46 : mCode 35 46 = some (.invokestatic 55, 3) := by decide +kernel
theorem x35_46 {E : ME} {ls : MLs} {st : List MV} {g : MG} {μ : MU} {Q : Option MV → MG → MU → Prop} {a a0 : Nat} {n dp sp : Int} : Wp E 35 46 ls (.inl n :: .inl dp :: .inr (.inr (.inl a)) :: .inl sp :: .inr (.inr (.inl a0)) :: st) g μ Q = (((mKd g a).1 = 10 ∧ (mKd g a0).1 = 10 ∧ 0 ≤ sp ∧ 0 ≤ dp ∧ 0 ≤ n ∧ sp + n ≤ (mKd g a0).2 ∧ dp + n ≤ (mKd g a).2 ∧ st.length ≤ 4) ∧ Wp E 35 49 ls st g (mCpy μ a0 sp.toNat a dp.toNat n.toNat) Q) := Wp_copy k35_46 m4_55
theorem k35_49 : mCode 35 49 = some (.return_, 1) := by decide +kernel
theorem x35_49 {E : ME} {ls : MLs} {g : MG} {μ : MU} {Q : Option MV → MG → MU → Prop} : Wp E 35 49 ls [] g μ Q = Q none g μ := Wp_retV k35_49 (by decide)
theorem k36_0 : mCode 36 0 = some (.aload_n 0, 1) := by decide +kernel
theorem x36_0 {E : ME} {ls : MLs} {st : List MV} {g : MG} {μ : MU} {Q : Option MV → MG → MU → Prop} {v : Nat ⊕ Nat} : Wp E 36 0 (some (.inr (.inr v)) :: ls) st g μ Q = Wp E 36 1 (some (.inr (.inr v)) :: ls) (.inr (.inr v) :: st) g μ Q := Wp_nx k36_0 rfl
theorem k36_1 : mCode 36 1 = some (.aload_n 1, 1) := by decide +kernel
theorem x36_1 {E : ME} {ls : MLs} {st : List MV} {g : MG} {μ : MU} {Q : Option MV → MG → MU → Prop} {l0 : Option MV} {v : Nat ⊕ Nat} : Wp E 36 1 (l0 :: some (.inr (.inr v)) :: ls) st g μ Q = Wp E 36 2 (l0 :: some (.inr (.inr v)) :: ls) (.inr (.inr v) :: st) g μ Q := Wp_nx k36_1 rfl
theorem k36_2 : mCode 36 2 = some (.getfield 24, 3) := by decide +kernel
theorem x36_2 {E : ME} {ls : MLs} {st : List MV} {g : MG} {μ : MU} {Q : Option MV → MG → MU → Prop} {a : Nat} : Wp E 36 2 ls (.inr (.inr (.inl a)) :: st) g μ Q = ((mKd g a).1 = 4 ∧ Wp E 36 5 ls (.inl (μ a 4) :: st) g μ Q) := Wp_getI k36_2 f4_24 (by decide) (by decide)
theorem k36_5 : mCode 36 5 = some (.putfield 24, 3) := by decide +kernel
theorem x36_5 {E : ME} {ls : MLs} {st : List MV} {g : MG} {μ : MU} {Q : Option MV → MG → MU → Prop} {a : Nat} {v : Int} : Wp E 36 5 ls (.inl v :: .inr (.inr (.inl a)) :: st) g μ Q = ((mKd g a).1 = 4 ∧ Wp E 36 8 ls st g (mUp μ a 4 v) Q) := Wp_putI0 k36_5 f4_24 (by decide) (by decide)
theorem k36_8 : mCode 36 8 = some (.aload_n 1, 1) := by decide +kernel
theorem x36_8 {E : ME} {ls : MLs} {st : List MV} {g : MG} {μ : MU} {Q : Option MV → MG → MU → Prop} {l0 : Option MV} {v : Nat ⊕ Nat} : Wp E 36 8 (l0 :: some (.inr (.inr v)) :: ls) st g μ Q = Wp E 36 9 (l0 :: some (.inr (.inr v)) :: ls) (.inr (.inr v) :: st) g μ Q := Wp_nx k36_8 rfl
theorem k36_9 : mCode 36 9 = some (.getfield 9, 3) := by decide +kernel
theorem x36_9 {E : ME} {ls : MLs} {st : List MV} {g : MG} {μ : MU} {Q : Option MV → MG → MU → Prop} {a : Nat} : Wp E 36 9 ls (.inr (.inr (.inl a)) :: st) g μ Q = ((mKd g a).1 = 4 ∧ Wp E 36 12 ls (mRv (mRf g a 0) :: st) g μ Q) := Wp_getR k36_9 f4_9 (by decide) (by decide)
theorem k36_12 : mCode 36 12 = some (.iconst 0, 1) := by decide +kernel
theorem x36_12 {E : ME} {ls : MLs} {st : List MV} {g : MG} {μ : MU} {Q : Option MV → MG → MU → Prop} : Wp E 36 12 ls st g μ Q = Wp E 36 13 ls (.inl 0 :: st) g μ Q := Wp_nx k36_12 rfl
theorem k36_13 : mCode 36 13 = some (.aload_n 0, 1) := by decide +kernel
theorem x36_13 {E : ME} {ls : MLs} {st : List MV} {g : MG} {μ : MU} {Q : Option MV → MG → MU → Prop} {v : Nat ⊕ Nat} : Wp E 36 13 (some (.inr (.inr v)) :: ls) st g μ Q = Wp E 36 14 (some (.inr (.inr v)) :: ls) (.inr (.inr v) :: st) g μ Q := Wp_nx k36_13 rfl
theorem k36_14 : mCode 36 14 = some (.getfield 9, 3) := by decide +kernel
theorem x36_14 {E : ME} {ls : MLs} {st : List MV} {g : MG} {μ : MU} {Q : Option MV → MG → MU → Prop} {a : Nat} : Wp E 36 14 ls (.inr (.inr (.inl a)) :: st) g μ Q = ((mKd g a).1 = 4 ∧ Wp E 36 17 ls (mRv (mRf g a 0) :: st) g μ Q) := Wp_getR k36_14 f4_9 (by decide) (by decide)
theorem k36_17 : mCode 36 17 = some (.iconst 0, 1) := by decide +kernel
theorem x36_17 {E : ME} {ls : MLs} {st : List MV} {g : MG} {μ : MU} {Q : Option MV → MG → MU → Prop} : Wp E 36 17 ls st g μ Q = Wp E 36 18 ls (.inl 0 :: st) g μ Q := Wp_nx k36_17 rfl
theorem k36_18 : mCode 36 18 = some (.bipush 6, 2) := by decide +kernel
theorem x36_18 {E : ME} {ls : MLs} {st : List MV} {g : MG} {μ : MU} {Q : Option MV → MG → MU → Prop} : Wp E 36 18 ls st g μ Q = Wp E 36 20 ls (.inl 6 :: st) g μ Q := Wp_nx k36_18 rfl
theorem k36_20 : mCode 36 20 = some (.invokestatic 55, 3) := by decide +kernel
theorem x36_20 {E : ME} {ls : MLs} {st : List MV} {g : MG} {μ : MU} {Q : Option MV → MG → MU → Prop} {a a0 : Nat} {n dp sp : Int} : Wp E 36 20 ls (.inl n :: .inl dp :: .inr (.inr (.inl a)) :: .inl sp :: .inr (.inr (.inl a0)) :: st) g μ Q = (((mKd g a).1 = 10 ∧ (mKd g a0).1 = 10 ∧ 0 ≤ sp ∧ 0 ≤ dp ∧ 0 ≤ n ∧ sp + n ≤ (mKd g a0).2 ∧ dp + n ≤ (mKd g a).2 ∧ st.length ≤ 4) ∧ Wp E 36 23 ls st g (mCpy μ a0 sp.toNat a dp.toNat n.toNat) Q) := Wp_copy k36_20 m4_55
theorem k36_23 : mCode 36 23 = some (.aload_n 1, 1) := by decide +kernel
theorem x36_23 {E : ME} {ls : MLs} {st : List MV} {g : MG} {μ : MU} {Q : Option MV → MG → MU → Prop} {l0 : Option MV} {v : Nat ⊕ Nat} : Wp E 36 23 (l0 :: some (.inr (.inr v)) :: ls) st g μ Q = Wp E 36 24 (l0 :: some (.inr (.inr v)) :: ls) (.inr (.inr v) :: st) g μ Q := Wp_nx k36_23 rfl
theorem k36_24 : mCode 36 24 = some (.getfield 15, 3) := by decide +kernel
theorem x36_24 {E : ME} {ls : MLs} {st : List MV} {g : MG} {μ : MU} {Q : Option MV → MG → MU → Prop} {a : Nat} : Wp E 36 24 ls (.inr (.inr (.inl a)) :: st) g μ Q = ((mKd g a).1 = 4 ∧ Wp E 36 27 ls (mRv (mRf g a 1) :: st) g μ Q) := Wp_getR k36_24 f4_15 (by decide) (by decide)
theorem k36_27 : mCode 36 27 = some (.iconst 0, 1) := by decide +kernel
theorem x36_27 {E : ME} {ls : MLs} {st : List MV} {g : MG} {μ : MU} {Q : Option MV → MG → MU → Prop} : Wp E 36 27 ls st g μ Q = Wp E 36 28 ls (.inl 0 :: st) g μ Q := Wp_nx k36_27 rfl
theorem k36_28 : mCode 36 28 = some (.aload_n 0, 1) := by decide +kernel
theorem x36_28 {E : ME} {ls : MLs} {st : List MV} {g : MG} {μ : MU} {Q : Option MV → MG → MU → Prop} {v : Nat ⊕ Nat} : Wp E 36 28 (some (.inr (.inr v)) :: ls) st g μ Q = Wp E 36 29 (some (.inr (.inr v)) :: ls) (.inr (.inr v) :: st) g μ Q := Wp_nx k36_28 rfl
theorem k36_29 : mCode 36 29 = some (.getfield 15, 3) := by decide +kernel
theorem x36_29 {E : ME} {ls : MLs} {st : List MV} {g : MG} {μ : MU} {Q : Option MV → MG → MU → Prop} {a : Nat} : Wp E 36 29 ls (.inr (.inr (.inl a)) :: st) g μ Q = ((mKd g a).1 = 4 ∧ Wp E 36 32 ls (mRv (mRf g a 1) :: st) g μ Q) := Wp_getR k36_29 f4_15 (by decide) (by decide)
theorem k36_32 : mCode 36 32 = some (.iconst 0, 1) := by decide +kernel
theorem x36_32 {E : ME} {ls : MLs} {st : List MV} {g : MG} {μ : MU} {Q : Option MV → MG → MU → Prop} : Wp E 36 32 ls st g μ Q = Wp E 36 33 ls (.inl 0 :: st) g μ Q := Wp_nx k36_32 rfl
theorem k36_33 : mCode 36 33 = some (.bipush 6, 2) := by decide +kernel
theorem x36_33 {E : ME} {ls : MLs} {st : List MV} {g : MG} {μ : MU} {Q : Option MV → MG → MU → Prop} : Wp E 36 33 ls st g μ Q = Wp E 36 35 ls (.inl 6 :: st) g μ Q := Wp_nx k36_33 rfl
theorem k36_35 : mCode 36 35 = some (.invokestatic 55, 3) := by decide +kernel
theorem x36_35 {E : ME} {ls : MLs} {st : List MV} {g : MG} {μ : MU} {Q : Option MV → MG → MU → Prop} {a a0 : Nat} {n dp sp : Int} : Wp E 36 35 ls (.inl n :: .inl dp :: .inr (.inr (.inl a)) :: .inl sp :: .inr (.inr (.inl a0)) :: st) g μ Q = (((mKd g a).1 = 10 ∧ (mKd g a0).1 = 10 ∧ 0 ≤ sp ∧ 0 ≤ dp ∧ 0 ≤ n ∧ sp + n ≤ (mKd g a0).2 ∧ dp + n ≤ (mKd g a).2 ∧ st.length ≤ 4) ∧ Wp E 36 38 ls st g (mCpy μ a0 sp.toNat a dp.toNat n.toNat) Q) := Wp_copy k36_35 m4_55
theorem k36_38 : mCode 36 38 = some (.aload_n 1, 1) := by decide +kernel
theorem x36_38 {E : ME} {ls : MLs} {st : List MV} {g : MG} {μ : MU} {Q : Option MV → MG → MU → Prop} {l0 : Option MV} {v : Nat ⊕ Nat} : Wp E 36 38 (l0 :: some (.inr (.inr v)) :: ls) st g μ Q = Wp E 36 39 (l0 :: some (.inr (.inr v)) :: ls) (.inr (.inr v) :: st) g μ Q := Wp_nx k36_38 rfl
theorem k36_39 : mCode 36 39 = some (.getfield 18, 3) := by decide +kernel
theorem x36_39 {E : ME} {ls : MLs} {st : List MV} {g : MG} {μ : MU} {Q : Option MV → MG → MU → Prop} {a : Nat} : Wp E 36 39 ls (.inr (.inr (.inl a)) :: st) g μ Q = ((mKd g a).1 = 4 ∧ Wp E 36 42 ls (mRv (mRf g a 2) :: st) g μ Q) := Wp_getR k36_39 f4_18 (by decide) (by decide)
theorem k36_42 : mCode 36 42 = some (.iconst 0, 1) := by decide +kernel
theorem x36_42 {E : ME} {ls : MLs} {st : List MV} {g : MG} {μ : MU} {Q : Option MV → MG → MU → Prop} : Wp E 36 42 ls st g μ Q = Wp E 36 43 ls (.inl 0 :: st) g μ Q := Wp_nx k36_42 rfl
theorem k36_43 : mCode 36 43 = some (.aload_n 0, 1) := by decide +kernel
theorem x36_43 {E : ME} {ls : MLs} {st : List MV} {g : MG} {μ : MU} {Q : Option MV → MG → MU → Prop} {v : Nat ⊕ Nat} : Wp E 36 43 (some (.inr (.inr v)) :: ls) st g μ Q = Wp E 36 44 (some (.inr (.inr v)) :: ls) (.inr (.inr v) :: st) g μ Q := Wp_nx k36_43 rfl
theorem k36_44 : mCode 36 44 = some (.getfield 18, 3) := by decide +kernel
theorem x36_44 {E : ME} {ls : MLs} {st : List MV} {g : MG} {μ : MU} {Q : Option MV → MG → MU → Prop} {a : Nat} : Wp E 36 44 ls (.inr (.inr (.inl a)) :: st) g μ Q = ((mKd g a).1 = 4 ∧ Wp E 36 47 ls (mRv (mRf g a 2) :: st) g μ Q) := Wp_getR k36_44 f4_18 (by decide) (by decide)
theorem k36_47 : mCode 36 47 = some (.iconst 0, 1) := by decide +kernel
theorem x36_47 {E : ME} {ls : MLs} {st : List MV} {g : MG} {μ : MU} {Q : Option MV → MG → MU → Prop} : Wp E 36 47 ls st g μ Q = Wp E 36 48 ls (.inl 0 :: st) g μ Q := Wp_nx k36_47 rfl
theorem k36_48 : mCode 36 48 = some (.bipush 6, 2) := by decide +kernel
theorem x36_48 {E : ME} {ls : MLs} {st : List MV} {g : MG} {μ : MU} {Q : Option MV → MG → MU → Prop} : Wp E 36 48 ls st g μ Q = Wp E 36 50 ls (.inl 6 :: st) g μ Q := Wp_nx k36_48 rfl
theorem k36_50 : mCode 36 50 = some (.invokestatic 55, 3) := by decide +kernel
theorem x36_50 {E : ME} {ls : MLs} {st : List MV} {g : MG} {μ : MU} {Q : Option MV → MG → MU → Prop} {a a0 : Nat} {n dp sp : Int} : Wp E 36 50 ls (.inl n :: .inl dp :: .inr (.inr (.inl a)) :: .inl sp :: .inr (.inr (.inl a0)) :: st) g μ Q = (((mKd g a).1 = 10 ∧ (mKd g a0).1 = 10 ∧ 0 ≤ sp ∧ 0 ≤ dp ∧ 0 ≤ n ∧ sp + n ≤ (mKd g a0).2 ∧ dp + n ≤ (mKd g a).2 ∧ st.length ≤ 4) ∧ Wp E 36 53 ls st g (mCpy μ a0 sp.toNat a dp.toNat n.toNat) Q) := Wp_copy k36_50 m4_55
theorem k36_53 : mCode 36 53 = some (.return_, 1) := by decide +kernel
theorem x36_53 {E : ME} {ls : MLs} {g : MG} {μ : MU} {Q : Option MV → MG → MU → Prop} : Wp E 36 53 ls [] g μ Q = Q none g μ := Wp_retV k36_53 (by decide)
theorem k37_0 : mCode 37 0 = some (.aload_n 0, 1) := by decide +kernel
theorem x37_0 {E : ME} {ls : MLs} {st : List MV} {g : MG} {μ : MU} {Q : Option MV → MG → MU → Prop} {v : Nat ⊕ Nat} : Wp E 37 0 (some (.inr (.inr v)) :: ls) st g μ Q = Wp E 37 1 (some (.inr (.inr v)) :: ls) (.inr (.inr v) :: st) g μ Q := Wp_nx k37_0 rfl
theorem k37_1 : mCode 37 1 = some (.iload_n 3, 1) := by decide +kernel
theorem x37_1 {E : ME} {ls : MLs} {st : List MV} {g : MG} {μ : MU} {Q : Option MV → MG → MU → Prop} {l0 l1 l2 : Option MV} {v : Int} : Wp E 37 1 (l0 :: l1 :: l2 :: some (.inl v) :: ls) st g μ Q = Wp E 37 2 (l0 :: l1 :: l2 :: some (.inl v) :: ls) (.inl v :: st) g μ Q := Wp_nx k37_1 rfl
theorem k37_2 : mCode 37 2 = some (.putfield 28, 3) := by decide +kernel
theorem x37_2 {E : ME} {ls : MLs} {st : List MV} {g : MG} {μ : MU} {Q : Option MV → MG → MU → Prop} {a : Nat} {v : Int} : Wp E 37 2 ls (.inl v :: .inr (.inr (.inl a)) :: st) g μ Q = ((mKd g a).1 = 4 ∧ Wp E 37 5 ls st g (mUp μ a 5 v) Q) := Wp_putI0 k37_2 f4_28 (by decide) (by decide)
theorem k37_5 : mCode 37 5 = some (.aload_n 0, 1) := by decide +kernel
theorem x37_5 {E : ME} {ls : MLs} {st : List MV} {g : MG} {μ : MU} {Q : Option MV → MG → MU → Prop} {v : Nat ⊕ Nat} : Wp E 37 5 (some (.inr (.inr v)) :: ls) st g μ Q = Wp E 37 6 (some (.inr (.inr v)) :: ls) (.inr (.inr v) :: st) g μ Q := Wp_nx k37_5 rfl
theorem k37_6 : mCode 37 6 = some (.iconst 0, 1) := by decide +kernel
theorem x37_6 {E : ME} {ls : MLs} {st : List MV} {g : MG} {μ : MU} {Q : Option MV → MG → MU → Prop} : Wp E 37 6 ls st g μ Q = Wp E 37 7 ls (.inl 0 :: st) g μ Q := Wp_nx k37_6 rfl
theorem k37_7 : mCode 37 7 = some (.putfield 31, 3) := by decide +kernel
theorem x37_7 {E : ME} {ls : MLs} {st : List MV} {g : MG} {μ : MU} {Q : Option MV → MG → MU → Prop} {a : Nat} {v : Int} : Wp E 37 7 ls (.inl v :: .inr (.inr (.inl a)) :: st) g μ Q = ((mKd g a).1 = 4 ∧ Wp E 37 10 ls st g (mUp μ a 6 v) Q) := Wp_putI0 k37_7 f4_31 (by decide) (by decide)
theorem k37_10 : mCode 37 10 = some (.aload_n 0, 1) := by decide +kernel
theorem x37_10 {E : ME} {ls : MLs} {st : List MV} {g : MG} {μ : MU} {Q : Option MV → MG → MU → Prop} {v : Nat ⊕ Nat} : Wp E 37 10 (some (.inr (.inr v)) :: ls) st g μ Q = Wp E 37 11 (some (.inr (.inr v)) :: ls) (.inr (.inr v) :: st) g μ Q := Wp_nx k37_10 rfl
theorem k37_11 : mCode 37 11 = some (.iconst 0, 1) := by decide +kernel
theorem x37_11 {E : ME} {ls : MLs} {st : List MV} {g : MG} {μ : MU} {Q : Option MV → MG → MU → Prop} : Wp E 37 11 ls st g μ Q = Wp E 37 12 ls (.inl 0 :: st) g μ Q := Wp_nx k37_11 rfl
theorem k37_12 : mCode 37 12 = some (.putfield 34, 3) := by decide +kernel
theorem x37_12 {E : ME} {ls : MLs} {st : List MV} {g : MG} {μ : MU} {Q : Option MV → MG → MU → Prop} {a : Nat} {v : Int} : Wp E 37 12 ls (.inl v :: .inr (.inr (.inl a)) :: st) g μ Q = ((mKd g a).1 = 4 ∧ Wp E 37 15 ls st g (mUp μ a 7 v) Q) := Wp_putI0 k37_12 f4_34 (by decide) (by decide)
theorem k37_15 : mCode 37 15 = some (.aload_n 0, 1) := by decide +kernel
theorem x37_15 {E : ME} {ls : MLs} {st : List MV} {g : MG} {μ : MU} {Q : Option MV → MG → MU → Prop} {v : Nat ⊕ Nat} : Wp E 37 15 (some (.inr (.inr v)) :: ls) st g μ Q = Wp E 37 16 (some (.inr (.inr v)) :: ls) (.inr (.inr v) :: st) g μ Q := Wp_nx k37_15 rfl
theorem k37_16 : mCode 37 16 = some (.iconst 0, 1) := by decide +kernel
theorem x37_16 {E : ME} {ls : MLs} {st : List MV} {g : MG} {μ : MU} {Q : Option MV → MG → MU → Prop} : Wp E 37 16 ls st g μ Q = Wp E 37 17 ls (.inl 0 :: st) g μ Q := Wp_nx k37_16 rfl
theorem k37_17 : mCode 37 17 = some (.putfield 37, 3) := by decide +kernel
theorem x37_17 {E : ME} {ls : MLs} {st : List MV} {g : MG} {μ : MU} {Q : Option MV → MG → MU → Prop} {a : Nat} {v : Int} : Wp E 37 17 ls (.inl v :: .inr (.inr (.inl a)) :: st) g μ Q = ((mKd g a).1 = 4 ∧ Wp E 37 20 ls st g (mUp μ a 8 v) Q) := Wp_putI0 k37_17 f4_37 (by decide) (by decide)
theorem k37_20 : mCode 37 20 = some (.iconst 0, 1) := by decide +kernel
theorem x37_20 {E : ME} {ls : MLs} {st : List MV} {g : MG} {μ : MU} {Q : Option MV → MG → MU → Prop} : Wp E 37 20 ls st g μ Q = Wp E 37 21 ls (.inl 0 :: st) g μ Q := Wp_nx k37_20 rfl
theorem k37_21 : mCode 37 21 = some (.istore 4, 2) := by decide +kernel
theorem x37_21 {E : ME} {ls : MLs} {st : List MV} {g : MG} {μ : MU} {Q : Option MV → MG → MU → Prop} {l0 l1 l2 l3 : Option MV} {lk : Option MV} {v : Int} : Wp E 37 21 (l0 :: l1 :: l2 :: l3 :: lk :: ls) (.inl v :: st) g μ Q = ((mNl (some l3) = true ∧ mNl (some lk) = true) ∧ Wp E 37 23 (l0 :: l1 :: l2 :: l3 :: some (.inl v) :: ls) st g μ Q) := Wp_sti k37_21 (fun _ => rfl) rfl rfl rfl
theorem k37_23 : mCode 37 23 = some (.iload 4, 2) := by decide +kernel
theorem x37_23 {E : ME} {ls : MLs} {st : List MV} {g : MG} {μ : MU} {Q : Option MV → MG → MU → Prop} {l0 l1 l2 l3 : Option MV} {v : Int} : Wp E 37 23 (l0 :: l1 :: l2 :: l3 :: some (.inl v) :: ls) st g μ Q = Wp E 37 25 (l0 :: l1 :: l2 :: l3 :: some (.inl v) :: ls) (.inl v :: st) g μ Q := Wp_nx k37_23 rfl
theorem k37_25 : mCode 37 25 = some (.aload_n 0, 1) := by decide +kernel
theorem x37_25 {E : ME} {ls : MLs} {st : List MV} {g : MG} {μ : MU} {Q : Option MV → MG → MU → Prop} {v : Nat ⊕ Nat} : Wp E 37 25 (some (.inr (.inr v)) :: ls) st g μ Q = Wp E 37 26 (some (.inr (.inr v)) :: ls) (.inr (.inr v) :: st) g μ Q := Wp_nx k37_25 rfl
theorem k37_26 : mCode 37 26 = some (.getfield 24, 3) := by decide +kernel
theorem x37_26 {E : ME} {ls : MLs} {st : List MV} {g : MG} {μ : MU} {Q : Option MV → MG → MU → Prop} {a : Nat} : Wp E 37 26 ls (.inr (.inr (.inl a)) :: st) g μ Q = ((mKd g a).1 = 4 ∧ Wp E 37 29 ls (.inl (μ a 4) :: st) g μ Q) := Wp_getI k37_26 f4_24 (by decide) (by decide)
theorem k37_29 : mCode 37 29 = some (.if_icmp .ge 176, 3) := by decide +kernel
theorem x37_29 {E : ME} {ls : MLs} {st : List MV} {g : MG} {μ : MU} {Q : Option MV → MG → MU → Prop} {a b : Int} : Wp E 37 29 ls (.inl b :: .inl a :: st) g μ Q = ((b ≤ a → Wp E 37 205 ls st g μ Q) ∧ (a < b → Wp E 37 32 ls st g μ Q)) := Wp_cmp_ge k37_29 (by decide)
theorem k37_32 : mCode 37 32 = some (.aload_n 0, 1) := by decide +kernel
theorem x37_32 {E : ME} {ls : MLs} {st : List MV} {g : MG} {μ : MU} {Q : Option MV → MG → MU → Prop} {v : Nat ⊕ Nat} : Wp E 37 32 (some (.inr (.inr v)) :: ls) st g μ Q = Wp E 37 33 (some (.inr (.inr v)) :: ls) (.inr (.inr v) :: st) g μ Q := Wp_nx k37_32 rfl
theorem k37_33 : mCode 37 33 = some (.getfield 28, 3) := by decide +kernel
theorem x37_33 {E : ME} {ls : MLs} {st : List MV} {g : MG} {μ : MU} {Q : Option MV → MG → MU → Prop} {a : Nat} : Wp E 37 33 ls (.inr (.inr (.inl a)) :: st) g μ Q = ((mKd g a).1 = 4 ∧ Wp E 37 36 ls (.inl (μ a 5) :: st) g μ Q) := Wp_getI k37_33 f4_28 (by decide) (by decide)
theorem k37_36 : mCode 37 36 = some (.istore 5, 2) := by decide +kernel
theorem x37_36 {E : ME} {ls : MLs} {st : List MV} {g : MG} {μ : MU} {Q : Option MV → MG → MU → Prop} {l0 l1 l2 l3 l4 : Option MV} {lk : Option MV} {v : Int} : Wp E 37 36 (l0 :: l1 :: l2 :: l3 :: l4 :: lk :: ls) (.inl v :: st) g μ Q = ((mNl (some l4) = true ∧ mNl (some lk) = true) ∧ Wp E 37 38 (l0 :: l1 :: l2 :: l3 :: l4 :: some (.inl v) :: ls) st g μ Q) := Wp_sti k37_36 (fun _ => rfl) rfl rfl rfl
theorem k37_38 : mCode 37 38 = some (.aload_n 0, 1) := by decide +kernel
theorem x37_38 {E : ME} {ls : MLs} {st : List MV} {g : MG} {μ : MU} {Q : Option MV → MG → MU → Prop} {v : Nat ⊕ Nat} : Wp E 37 38 (some (.inr (.inr v)) :: ls) st g μ Q = Wp E 37 39 (some (.inr (.inr v)) :: ls) (.inr (.inr v) :: st) g μ Q := Wp_nx k37_38 rfl
theorem k37_39 : mCode 37 39 = some (.getfield 15, 3) := by decide +kernel
theorem x37_39 {E : ME} {ls : MLs} {st : List MV} {g : MG} {μ : MU} {Q : Option MV → MG → MU → Prop} {a : Nat} : Wp E 37 39 ls (.inr (.inr (.inl a)) :: st) g μ Q = ((mKd g a).1 = 4 ∧ Wp E 37 42 ls (mRv (mRf g a 1) :: st) g μ Q) := Wp_getR k37_39 f4_15 (by decide) (by decide)
theorem k37_42 : mCode 37 42 = some (.iload 4, 2) := by decide +kernel
theorem x37_42 {E : ME} {ls : MLs} {st : List MV} {g : MG} {μ : MU} {Q : Option MV → MG → MU → Prop} {l0 l1 l2 l3 : Option MV} {v : Int} : Wp E 37 42 (l0 :: l1 :: l2 :: l3 :: some (.inl v) :: ls) st g μ Q = Wp E 37 44 (l0 :: l1 :: l2 :: l3 :: some (.inl v) :: ls) (.inl v :: st) g μ Q := Wp_nx k37_42 rfl
theorem k37_44 : mCode 37 44 = some (.iaload, 1) := by decide +kernel
theorem x37_44 {E : ME} {ls : MLs} {st : List MV} {g : MG} {μ : MU} {Q : Option MV → MG → MU → Prop} {a : Nat} {j : Int} : Wp E 37 44 ls (.inl j :: .inr (.inr (.inl a)) :: st) g μ Q = (((mKd g a).1 = 10 ∧ 0 ≤ j ∧ j < (mKd g a).2) ∧ Wp E 37 45 ls (.inl (μ a j.toNat) :: st) g μ Q) := Wp_ald k37_44 (fun _ => rfl)
theorem k37_45 : mCode 37 45 = some (.aload_n 1, 1) := by decide +kernel
theorem x37_45 {E : ME} {ls : MLs} {st : List MV} {g : MG} {μ : MU} {Q : Option MV → MG → MU → Prop} {l0 : Option MV} {v : Nat ⊕ Nat} : Wp E 37 45 (l0 :: some (.inr (.inr v)) :: ls) st g μ Q = Wp E 37 46 (l0 :: some (.inr (.inr v)) :: ls) (.inr (.inr v) :: st) g μ Q := Wp_nx k37_45 rfl
theorem k37_46 : mCode 37 46 = some (.aload_n 0, 1) := by decide +kernel
theorem x37_46 {E : ME} {ls : MLs} {st : List MV} {g : MG} {μ : MU} {Q : Option MV → MG → MU → Prop} {v : Nat ⊕ Nat} : Wp E 37 46 (some (.inr (.inr v)) :: ls) st g μ Q = Wp E 37 47 (some (.inr (.inr v)) :: ls) (.inr (.inr v) :: st) g μ Q := Wp_nx k37_46 rfl
theorem k37_47 : mCode 37 47 = some (.getfield 9, 3) := by decide +kernel
theorem x37_47 {E : ME} {ls : MLs} {st : List MV} {g : MG} {μ : MU} {Q : Option MV → MG → MU → Prop} {a : Nat} : Wp E 37 47 ls (.inr (.inr (.inl a)) :: st) g μ Q = ((mKd g a).1 = 4 ∧ Wp E 37 50 ls (mRv (mRf g a 0) :: st) g μ Q) := Wp_getR k37_47 f4_9 (by decide) (by decide)
theorem k37_50 : mCode 37 50 = some (.iload 4, 2) := by decide +kernel
theorem x37_50 {E : ME} {ls : MLs} {st : List MV} {g : MG} {μ : MU} {Q : Option MV → MG → MU → Prop} {l0 l1 l2 l3 : Option MV} {v : Int} : Wp E 37 50 (l0 :: l1 :: l2 :: l3 :: some (.inl v) :: ls) st g μ Q = Wp E 37 52 (l0 :: l1 :: l2 :: l3 :: some (.inl v) :: ls) (.inl v :: st) g μ Q := Wp_nx k37_50 rfl
theorem k37_52 : mCode 37 52 = some (.iaload, 1) := by decide +kernel
theorem x37_52 {E : ME} {ls : MLs} {st : List MV} {g : MG} {μ : MU} {Q : Option MV → MG → MU → Prop} {a : Nat} {j : Int} : Wp E 37 52 ls (.inl j :: .inr (.inr (.inl a)) :: st) g μ Q = (((mKd g a).1 = 10 ∧ 0 ≤ j ∧ j < (mKd g a).2) ∧ Wp E 37 53 ls (.inl (μ a j.toNat) :: st) g μ Q) := Wp_ald k37_52 (fun _ => rfl)
theorem k37_53 : mCode 37 53 = some (.iload_n 2, 1) := by decide +kernel
theorem x37_53 {E : ME} {ls : MLs} {st : List MV} {g : MG} {μ : MU} {Q : Option MV → MG → MU → Prop} {l0 l1 : Option MV} {v : Int} : Wp E 37 53 (l0 :: l1 :: some (.inl v) :: ls) st g μ Q = Wp E 37 54 (l0 :: l1 :: some (.inl v) :: ls) (.inl v :: st) g μ Q := Wp_nx k37_53 rfl
theorem k37_54 : mCode 37 54 = some (.invokevirtual 61, 3) := by decide +kernel
theorem x37_54 {E : ME} {ls : MLs} {st : List MV} {g : MG} {μ : MU} {Q : Option MV → MG → MU → Prop} {r : Nat} {a0 : Int} {a1 : Int} : Wp E 37 54 ls (.inl a1 :: .inl a0 :: .inr (.inr (.inl r)) :: st) g μ Q = ((st.length ≤ 4 ∧ ((mKd g r).1 == 0) = true) ∧ Wp E 5 0 [some (.inr (.inr (.inl r))), some (.inl a0), some (.inl a1)] [] g μ (fun r g' μ' => (g'.1 = g.1 ∧ g'.2.1 = g.2.1) ∧ Wp E 37 57 ls (mPush r st) g' μ' Q)) := Wp_cV k37_54 m4_61 (by decide) (as := [.inr (.inr (.inl r)), .inl a0, .inl a1]) rfl rfl rfl ⟨Nat.le_of_ble_eq_true rfl, by decide⟩
theorem k37_57 : mCode 37 57 = some (.iadd, 1) := by decide +kernel
theorem x37_57 {E : ME} {ls : MLs} {st : List MV} {g : MG} {μ : MU} {Q : Option MV → MG → MU → Prop} {a b : Int} : Wp E 37 57 ls (.inl b :: .inl a :: st) g μ Q = Wp E 37 58 ls (.inl (mWr (a + b)) :: st) g μ Q := Wp_nx k37_57 rfl
theorem k37_58 : mCode 37 58 = some (.istore 6, 2) := by decide +kernel
theorem x37_58 {E : ME} {ls : MLs} {st : List MV} {g : MG} {μ : MU} {Q : Option MV → MG → MU → Prop} {l0 l1 l2 l3 l4 l5 : Option MV} {lk : Option MV} {v : Int} : Wp E 37 58 (l0 :: l1 :: l2 :: l3 :: l4 :: l5 :: lk :: ls) (.inl v :: st) g μ Q = ((mNl (some l5) = true ∧ mNl (some lk) = true) ∧ Wp E 37 60 (l0 :: l1 :: l2 :: l3 :: l4 :: l5 :: some (.inl v) :: ls) st g μ Q) := Wp_sti k37_58 (fun _ => rfl) rfl rfl rfl
theorem k37_60 : mCode 37 60 = some (.iload 6, 2) := by decide +kernel
theorem x37_60 {E : ME} {ls : MLs} {st : List MV} {g : MG} {μ : MU} {Q : Option MV → MG → MU → Prop} {l0 l1 l2 l3 l4 l5 : Option MV} {v : Int} : Wp E 37 60 (l0 :: l1 :: l2 :: l3 :: l4 :: l5 :: some (.inl v) :: ls) st g μ Q = Wp E 37 62 (l0 :: l1 :: l2 :: l3 :: l4 :: l5 :: some (.inl v) :: ls) (.inl v :: st) g μ Q := Wp_nx k37_60 rfl
theorem k37_62 : mCode 37 62 = some (.iload 5, 2) := by decide +kernel
theorem x37_62 {E : ME} {ls : MLs} {st : List MV} {g : MG} {μ : MU} {Q : Option MV → MG → MU → Prop} {l0 l1 l2 l3 l4 : Option MV} {v : Int} : Wp E 37 62 (l0 :: l1 :: l2 :: l3 :: l4 :: some (.inl v) :: ls) st g μ Q = Wp E 37 64 (l0 :: l1 :: l2 :: l3 :: l4 :: some (.inl v) :: ls) (.inl v :: st) g μ Q := Wp_nx k37_62 rfl
theorem k37_64 : mCode 37 64 = some (.aload_n 1, 1) := by decide +kernel
theorem x37_64 {E : ME} {ls : MLs} {st : List MV} {g : MG} {μ : MU} {Q : Option MV → MG → MU → Prop} {l0 : Option MV} {v : Nat ⊕ Nat} : Wp E 37 64 (l0 :: some (.inr (.inr v)) :: ls) st g μ Q = Wp E 37 65 (l0 :: some (.inr (.inr v)) :: ls) (.inr (.inr v) :: st) g μ Q := Wp_nx k37_64 rfl
theorem k37_65 : mCode 37 65 = some (.getfield 65, 3) := by decide +kernel
theorem x37_65 {E : ME} {ls : MLs} {st : List MV} {g : MG} {μ : MU} {Q : Option MV → MG → MU → Prop} {a : Nat} : Wp E 37 65 ls (.inr (.inr (.inl a)) :: st) g μ Q = ((mKd g a).1 = 0 ∧ Wp E 37 68 ls (mRv (mRf g a 0) :: st) g μ Q) := Wp_getR k37_65 f4_65 (by decide) (by decide)
theorem k37_68 : mCode 37 68 = some (.iconst 1, 1) := by decide +kernel
theorem x37_68 {E : ME} {ls : MLs} {st : List MV} {g : MG} {μ : MU} {Q : Option MV → MG → MU → Prop} : Wp E 37 68 ls st g μ Q = Wp E 37 69 ls (.inl 1 :: st) g μ Q := Wp_nx k37_68 rfl
theorem k37_69 : mCode 37 69 = some (.iaload, 1) := by decide +kernel
theorem x37_69 {E : ME} {ls : MLs} {st : List MV} {g : MG} {μ : MU} {Q : Option MV → MG → MU → Prop} {a : Nat} {j : Int} : Wp E 37 69 ls (.inl j :: .inr (.inr (.inl a)) :: st) g μ Q = (((mKd g a).1 = 10 ∧ 0 ≤ j ∧ j < (mKd g a).2) ∧ Wp E 37 70 ls (.inl (μ a j.toNat) :: st) g μ Q) := Wp_ald k37_69 (fun _ => rfl)
theorem k37_70 : mCode 37 70 = some (.iadd, 1) := by decide +kernel
theorem x37_70 {E : ME} {ls : MLs} {st : List MV} {g : MG} {μ : MU} {Q : Option MV → MG → MU → Prop} {a b : Int} : Wp E 37 70 ls (.inl b :: .inl a :: st) g μ Q = Wp E 37 71 ls (.inl (mWr (a + b)) :: st) g μ Q := Wp_nx k37_70 rfl
theorem k37_71 : mCode 37 71 = some (.if_icmp .le 28, 3) := by decide +kernel
theorem x37_71 {E : ME} {ls : MLs} {st : List MV} {g : MG} {μ : MU} {Q : Option MV → MG → MU → Prop} {a b : Int} : Wp E 37 71 ls (.inl b :: .inl a :: st) g μ Q = ((a ≤ b → Wp E 37 99 ls st g μ Q) ∧ (b < a → Wp E 37 74 ls st g μ Q)) := Wp_cmp_le k37_71 (by decide)
theorem k37_74 : mCode 37 74 = some (.aload_n 0, 1) := by decide +kernel
theorem x37_74 {E : ME} {ls : MLs} {st : List MV} {g : MG} {μ : MU} {Q : Option MV → MG → MU → Prop} {v : Nat ⊕ Nat} : Wp E 37 74 (some (.inr (.inr v)) :: ls) st g μ Q = Wp E 37 75 (some (.inr (.inr v)) :: ls) (.inr (.inr v) :: st) g μ Q := Wp_nx k37_74 rfl
theorem k37_75 : mCode 37 75 = some (.dup, 1) := by decide +kernel
theorem x37_75 {E : ME} {ls : MLs} {st : List MV} {g : MG} {μ : MU} {Q : Option MV → MG → MU → Prop} {v : MV} : Wp E 37 75 ls (v :: st) g μ Q = (mC1 v = true ∧ Wp E 37 76 ls (v :: v :: st) g μ Q) := Wp_dup k37_75
theorem k37_76 : mCode 37 76 = some (.getfield 34, 3) := by decide +kernel
theorem x37_76 {E : ME} {ls : MLs} {st : List MV} {g : MG} {μ : MU} {Q : Option MV → MG → MU → Prop} {a : Nat} : Wp E 37 76 ls (.inr (.inr (.inl a)) :: st) g μ Q = ((mKd g a).1 = 4 ∧ Wp E 37 79 ls (.inl (μ a 7) :: st) g μ Q) := Wp_getI k37_76 f4_34 (by decide) (by decide)
theorem k37_79 : mCode 37 79 = some (.iconst 1, 1) := by decide +kernel
theorem x37_79 {E : ME} {ls : MLs} {st : List MV} {g : MG} {μ : MU} {Q : Option MV → MG → MU → Prop} : Wp E 37 79 ls st g μ Q = Wp E 37 80 ls (.inl 1 :: st) g μ Q := Wp_nx k37_79 rfl
theorem k37_80 : mCode 37 80 = some (.iload 4, 2) := by decide +kernel
theorem x37_80 {E : ME} {ls : MLs} {st : List MV} {g : MG} {μ : MU} {Q : Option MV → MG → MU → Prop} {l0 l1 l2 l3 : Option MV} {v : Int} : Wp E 37 80 (l0 :: l1 :: l2 :: l3 :: some (.inl v) :: ls) st g μ Q = Wp E 37 82 (l0 :: l1 :: l2 :: l3 :: some (.inl v) :: ls) (.inl v :: st) g μ Q := Wp_nx k37_80 rfl
theorem k37_82 : mCode 37 82 = some (.ishl, 1) := by decide +kernel
theorem x37_82 {E : ME} {ls : MLs} {st : List MV} {g : MG} {μ : MU} {Q : Option MV → MG → MU → Prop} {a b : Int} : Wp E 37 82 ls (.inl b :: .inl a :: st) g μ Q = Wp E 37 83 ls (.inl (mIshl a b) :: st) g μ Q := Wp_nx k37_82 rfl
theorem k37_83 : mCode 37 83 = some (.ior, 1) := by decide +kernel
theorem x37_83 {E : ME} {ls : MLs} {st : List MV} {g : MG} {μ : MU} {Q : Option MV → MG → MU → Prop} {a b : Int} : Wp E 37 83 ls (.inl b :: .inl a :: st) g μ Q = Wp E 37 84 ls (.inl (mIor a b) :: st) g μ Q := Wp_nx k37_83 rfl
theorem k37_84 : mCode 37 84 = some (.putfield 34, 3) := by decide +kernel
theorem x37_84 {E : ME} {ls : MLs} {st : List MV} {g : MG} {μ : MU} {Q : Option MV → MG → MU → Prop} {a : Nat} {v : Int} : Wp E 37 84 ls (.inl v :: .inr (.inr (.inl a)) :: st) g μ Q = ((mKd g a).1 = 4 ∧ Wp E 37 87 ls st g (mUp μ a 7 v) Q) := Wp_putI0 k37_84 f4_34 (by decide) (by decide)
theorem k37_87 : mCode 37 87 = some (.aload_n 0, 1) := by decide +kernel
theorem x37_87 {E : ME} {ls : MLs} {st : List MV} {g : MG} {μ : MU} {Q : Option MV → MG → MU → Prop} {v : Nat ⊕ Nat} : Wp E 37 87 (some (.inr (.inr v)) :: ls) st g μ Q = Wp E 37 88 (some (.inr (.inr v)) :: ls) (.inr (.inr v) :: st) g μ Q := Wp_nx k37_87 rfl
theorem k37_88 : mCode 37 88 = some (.getfield 21, 3) := by decide +kernel
theorem x37_88 {E : ME} {ls : MLs} {st : List MV} {g : MG} {μ : MU} {Q : Option MV → MG → MU → Prop} {a : Nat} : Wp E 37 88 ls (.inr (.inr (.inl a)) :: st) g μ Q = ((mKd g a).1 = 4 ∧ Wp E 37 91 ls (mRv (mRf g a 3) :: st) g μ Q) := Wp_getR k37_88 f4_21 (by decide) (by decide)
theorem k37_91 : mCode 37 91 = some (.iload 4, 2) := by decide +kernel
theorem x37_91 {E : ME} {ls : MLs} {st : List MV} {g : MG} {μ : MU} {Q : Option MV → MG → MU → Prop} {l0 l1 l2 l3 : Option MV} {v : Int} : Wp E 37 91 (l0 :: l1 :: l2 :: l3 :: some (.inl v) :: ls) st g μ Q = Wp E 37 93 (l0 :: l1 :: l2 :: l3 :: some (.inl v) :: ls) (.inl v :: st) g μ Q := Wp_nx k37_91 rfl
theorem k37_93 : mCode 37 93 = some (.bipush (-6), 2) := by decide +kernel
theorem x37_93 {E : ME} {ls : MLs} {st : List MV} {g : MG} {μ : MU} {Q : Option MV → MG → MU → Prop} : Wp E 37 93 ls st g μ Q = Wp E 37 95 ls (.inl (-6) :: st) g μ Q := Wp_nx k37_93 rfl
theorem k37_95 : mCode 37 95 = some (.iastore, 1) := by decide +kernel
theorem x37_95 {E : ME} {ls : MLs} {st : List MV} {g : MG} {μ : MU} {Q : Option MV → MG → MU → Prop} {a : Nat} {j v : Int} : Wp E 37 95 ls (.inl v :: .inl j :: .inr (.inr (.inl a)) :: st) g μ Q = (((mKd g a).1 = 10 ∧ 0 ≤ j ∧ j < (mKd g a).2) ∧ Wp E 37 96 ls st g (mUp μ a j.toNat v) Q) := Wp_iast k37_95
theorem k37_96 : mCode 37 96 = some (.goto 103, 3) := by decide +kernel
theorem x37_96 {E : ME} {ls : MLs} {st : List MV} {g : MG} {μ : MU} {Q : Option MV → MG → MU → Prop} : Wp E 37 96 ls st g μ Q = Wp E 37 199 ls st g μ Q := Wp_goto k37_96 (by decide)
theorem k37_99 : mCode 37 99 = some (.aload_n 0, 1) := by decide +kernel
theorem x37_99 {E : ME} {ls : MLs} {st : List MV} {g : MG} {μ : MU} {Q : Option MV → MG → MU → Prop} {v : Nat ⊕ Nat} : Wp E 37 99 (some (.inr (.inr v)) :: ls) st g μ Q = Wp E 37 100 (some (.inr (.inr v)) :: ls) (.inr (.inr v) :: st) g μ Q := Wp_nx k37_99 rfl
theorem k37_100 : mCode 37 100 = some (.getfield 9, 3) := by decide +kernel
theorem x37_100 {E : ME} {ls : MLs} {st : List MV} {g : MG} {μ : MU} {Q : Option MV → MG → MU → Prop} {a : Nat} : Wp E 37 100 ls (.inr (.inr (.inl a)) :: st) g μ Q = ((mKd g a).1 = 4 ∧ Wp E 37 103 ls (mRv (mRf g a 0) :: st) g μ Q) := Wp_getR k37_100 f4_9 (by decide) (by decide)
theorem k37_103 : mCode 37 103 = some (.iload 4, 2) := by decide +kernel
theorem x37_103 {E : ME} {ls : MLs} {st : List MV} {g : MG} {μ : MU} {Q : Option MV → MG → MU → Prop} {l0 l1 l2 l3 : Option MV} {v : Int} : Wp E 37 103 (l0 :: l1 :: l2 :: l3 :: some (.inl v) :: ls) st g μ Q = Wp E 37 105 (l0 :: l1 :: l2 :: l3 :: some (.inl v) :: ls) (.inl v :: st) g μ Q := Wp_nx k37_103 rfl
theorem k37_105 : mCode 37 105 = some (.iaload, 1) := by decide +kernel
theorem x37_105 {E : ME} {ls : MLs} {st : List MV} {g : MG} {μ : MU} {Q : Option MV → MG → MU → Prop} {a : Nat} {j : Int} : Wp E 37 105 ls (.inl j :: .inr (.inr (.inl a)) :: st) g μ Q = (((mKd g a).1 = 10 ∧ 0 ≤ j ∧ j < (mKd g a).2) ∧ Wp E 37 106 ls (.inl (μ a j.toNat) :: st) g μ Q) := Wp_ald k37_105 (fun _ => rfl)
theorem k37_106 : mCode 37 106 = some (.iload_n 2, 1) := by decide +kernel
theorem x37_106 {E : ME} {ls : MLs} {st : List MV} {g : MG} {μ : MU} {Q : Option MV → MG → MU → Prop} {l0 l1 : Option MV} {v : Int} : Wp E 37 106 (l0 :: l1 :: some (.inl v) :: ls) st g μ Q = Wp E 37 107 (l0 :: l1 :: some (.inl v) :: ls) (.inl v :: st) g μ Q := Wp_nx k37_106 rfl
theorem k37_107 : mCode 37 107 = some (.if_icmp .eq 13, 3) := by decide +kernel
theorem x37_107 {E : ME} {ls : MLs} {st : List MV} {g : MG} {μ : MU} {Q : Option MV → MG → MU → Prop} {a b : Int} : Wp E 37 107 ls (.inl b :: .inl a :: st) g μ Q = ((a = b → Wp E 37 120 ls st g μ Q) ∧ (¬ a = b → Wp E 37 110 ls st g μ Q)) := Wp_cmp_eq k37_107 (by decide)
theorem k37_110 : mCode 37 110 = some (.aload_n 0, 1) := by decide +kernel
theorem x37_110 {E : ME} {ls : MLs} {st : List MV} {g : MG} {μ : MU} {Q : Option MV → MG → MU → Prop} {v : Nat ⊕ Nat} : Wp E 37 110 (some (.inr (.inr v)) :: ls) st g μ Q = Wp E 37 111 (some (.inr (.inr v)) :: ls) (.inr (.inr v) :: st) g μ Q := Wp_nx k37_110 rfl
theorem k37_111 : mCode 37 111 = some (.dup, 1) := by decide +kernel
theorem x37_111 {E : ME} {ls : MLs} {st : List MV} {g : MG} {μ : MU} {Q : Option MV → MG → MU → Prop} {v : MV} : Wp E 37 111 ls (v :: st) g μ Q = (mC1 v = true ∧ Wp E 37 112 ls (v :: v :: st) g μ Q) := Wp_dup k37_111
theorem k37_112 : mCode 37 112 = some (.getfield 37, 3) := by decide +kernel
theorem x37_112 {E : ME} {ls : MLs} {st : List MV} {g : MG} {μ : MU} {Q : Option MV → MG → MU → Prop} {a : Nat} : Wp E 37 112 ls (.inr (.inr (.inl a)) :: st) g μ Q = ((mKd g a).1 = 4 ∧ Wp E 37 115 ls (.inl (μ a 8) :: st) g μ Q) := Wp_getI k37_112 f4_37 (by decide) (by decide)
theorem k37_115 : mCode 37 115 = some (.iconst 1, 1) := by decide +kernel
theorem x37_115 {E : ME} {ls : MLs} {st : List MV} {g : MG} {μ : MU} {Q : Option MV → MG → MU → Prop} : Wp E 37 115 ls st g μ Q = Wp E 37 116 ls (.inl 1 :: st) g μ Q := Wp_nx k37_115 rfl
theorem k37_116 : mCode 37 116 = some (.iadd, 1) := by decide +kernel
theorem x37_116 {E : ME} {ls : MLs} {st : List MV} {g : MG} {μ : MU} {Q : Option MV → MG → MU → Prop} {a b : Int} : Wp E 37 116 ls (.inl b :: .inl a :: st) g μ Q = Wp E 37 117 ls (.inl (mWr (a + b)) :: st) g μ Q := Wp_nx k37_116 rfl
theorem k37_117 : mCode 37 117 = some (.putfield 37, 3) := by decide +kernel
theorem x37_117 {E : ME} {ls : MLs} {st : List MV} {g : MG} {μ : MU} {Q : Option MV → MG → MU → Prop} {a : Nat} {v : Int} : Wp E 37 117 ls (.inl v :: .inr (.inr (.inl a)) :: st) g μ Q = ((mKd g a).1 = 4 ∧ Wp E 37 120 ls st g (mUp μ a 8 v) Q) := Wp_putI0 k37_117 f4_37 (by decide) (by decide)
theorem k37_120 : mCode 37 120 = some (.aload_n 0, 1) := by decide +kernel
theorem x37_120 {E : ME} {ls : MLs} {st : List MV} {g : MG} {μ : MU} {Q : Option MV → MG → MU → Prop} {v : Nat ⊕ Nat} : Wp E 37 120 (some (.inr (.inr v)) :: ls) st g μ Q = Wp E 37 121 (some (.inr (.inr v)) :: ls) (.inr (.inr v) :: st) g μ Q := Wp_nx k37_120 rfl
theorem k37_121 : mCode 37 121 = some (.getfield 9, 3) := by decide +kernel
theorem x37_121 {E : ME} {ls : MLs} {st : List MV} {g : MG} {μ : MU} {Q : Option MV → MG → MU → Prop} {a : Nat} : Wp E 37 121 ls (.inr (.inr (.inl a)) :: st) g μ Q = ((mKd g a).1 = 4 ∧ Wp E 37 124 ls (mRv (mRf g a 0) :: st) g μ Q) := Wp_getR k37_121 f4_9 (by decide) (by decide)
theorem k37_124 : mCode 37 124 = some (.iload 4, 2) := by decide +kernel
theorem x37_124 {E : ME} {ls : MLs} {st : List MV} {g : MG} {μ : MU} {Q : Option MV → MG → MU → Prop} {l0 l1 l2 l3 : Option MV} {v : Int} : Wp E 37 124 (l0 :: l1 :: l2 :: l3 :: some (.inl v) :: ls) st g μ Q = Wp E 37 126 (l0 :: l1 :: l2 :: l3 :: some (.inl v) :: ls) (.inl v :: st) g μ Q := Wp_nx k37_124 rfl
theorem k37_126 : mCode 37 126 = some (.iload_n 2, 1) := by decide +kernel
theorem x37_126 {E : ME} {ls : MLs} {st : List MV} {g : MG} {μ : MU} {Q : Option MV → MG → MU → Prop} {l0 l1 : Option MV} {v : Int} : Wp E 37 126 (l0 :: l1 :: some (.inl v) :: ls) st g μ Q = Wp E 37 127 (l0 :: l1 :: some (.inl v) :: ls) (.inl v :: st) g μ Q := Wp_nx k37_126 rfl
theorem k37_127 : mCode 37 127 = some (.iastore, 1) := by decide +kernel
theorem x37_127 {E : ME} {ls : MLs} {st : List MV} {g : MG} {μ : MU} {Q : Option MV → MG → MU → Prop} {a : Nat} {j v : Int} : Wp E 37 127 ls (.inl v :: .inl j :: .inr (.inr (.inl a)) :: st) g μ Q = (((mKd g a).1 = 10 ∧ 0 ≤ j ∧ j < (mKd g a).2) ∧ Wp E 37 128 ls st g (mUp μ a j.toNat v) Q) := Wp_iast k37_127
theorem k37_128 : mCode 37 128 = some (.aload_n 0, 1) := by decide +kernel
theorem x37_128 {E : ME} {ls : MLs} {st : List MV} {g : MG} {μ : MU} {Q : Option MV → MG → MU → Prop} {v : Nat ⊕ Nat} : Wp E 37 128 (some (.inr (.inr v)) :: ls) st g μ Q = Wp E 37 129 (some (.inr (.inr v)) :: ls) (.inr (.inr v) :: st) g μ Q := Wp_nx k37_128 rfl
theorem k37_129 : mCode 37 129 = some (.getfield 21, 3) := by decide +kernel
theorem x37_129 {E : ME} {ls : MLs} {st : List MV} {g : MG} {μ : MU} {Q : Option MV → MG → MU → Prop} {a : Nat} : Wp E 37 129 ls (.inr (.inr (.inl a)) :: st) g μ Q = ((mKd g a).1 = 4 ∧ Wp E 37 132 ls (mRv (mRf g a 3) :: st) g μ Q) := Wp_getR k37_129 f4_21 (by decide) (by decide)
theorem k37_132 : mCode 37 132 = some (.iload 4, 2) := by decide +kernel
theorem x37_132 {E : ME} {ls : MLs} {st : List MV} {g : MG} {μ : MU} {Q : Option MV → MG → MU → Prop} {l0 l1 l2 l3 : Option MV} {v : Int} : Wp E 37 132 (l0 :: l1 :: l2 :: l3 :: some (.inl v) :: ls) st g μ Q = Wp E 37 134 (l0 :: l1 :: l2 :: l3 :: some (.inl v) :: ls) (.inl v :: st) g μ Q := Wp_nx k37_132 rfl
theorem k37_134 : mCode 37 134 = some (.iload 5, 2) := by decide +kernel
theorem x37_134 {E : ME} {ls : MLs} {st : List MV} {g : MG} {μ : MU} {Q : Option MV → MG → MU → Prop} {l0 l1 l2 l3 l4 : Option MV} {v : Int} : Wp E 37 134 (l0 :: l1 :: l2 :: l3 :: l4 :: some (.inl v) :: ls) st g μ Q = Wp E 37 136 (l0 :: l1 :: l2 :: l3 :: l4 :: some (.inl v) :: ls) (.inl v :: st) g μ Q := Wp_nx k37_134 rfl
theorem k37_136 : mCode 37 136 = some (.iload 6, 2) := by decide +kernel
theorem x37_136 {E : ME} {ls : MLs} {st : List MV} {g : MG} {μ : MU} {Q : Option MV → MG → MU → Prop} {l0 l1 l2 l3 l4 l5 : Option MV} {v : Int} : Wp E 37 136 (l0 :: l1 :: l2 :: l3 :: l4 :: l5 :: some (.inl v) :: ls) st g μ Q = Wp E 37 138 (l0 :: l1 :: l2 :: l3 :: l4 :: l5 :: some (.inl v) :: ls) (.inl v :: st) g μ Q := Wp_nx k37_136 rfl
theorem k37_138 : mCode 37 138 = some (.invokestatic 68, 3) := by decide +kernel
theorem x37_138 {E : ME} {ls : MLs} {st : List MV} {g : MG} {μ : MU} {Q : Option MV → MG → MU → Prop} {a0 : Int} {a1 : Int} : Wp E 37 138 ls (.inl a1 :: .inl a0 :: st) g μ Q = (st.length ≤ 4 ∧ Wp E 143 0 [some (.inl a0), some (.inl a1)] [] g μ (fun r g' μ' => (g'.1 = g.1 ∧ g'.2.1 = g.2.1) ∧ Wp E 37 141 ls (mPush r st) g' μ' Q)) := Wp_cS k37_138 m4_68 (by decide) (as := [.inl a0, .inl a1]) rfl rfl rfl ⟨Nat.le_of_ble_eq_true rfl, by decide⟩
theorem k37_141 : mCode 37 141 = some (.iastore, 1) := by decide +kernel
theorem x37_141 {E : ME} {ls : MLs} {st : List MV} {g : MG} {μ : MU} {Q : Option MV → MG → MU → Prop} {a : Nat} {j v : Int} : Wp E 37 141 ls (.inl v :: .inl j :: .inr (.inr (.inl a)) :: st) g μ Q = (((mKd g a).1 = 10 ∧ 0 ≤ j ∧ j < (mKd g a).2) ∧ Wp E 37 142 ls st g (mUp μ a j.toNat v) Q) := Wp_iast k37_141
theorem k37_142 : mCode 37 142 = some (.aload_n 0, 1) := by decide +kernel
theorem x37_142 {E : ME} {ls : MLs} {st : List MV} {g : MG} {μ : MU} {Q : Option MV → MG → MU → Prop} {v : Nat ⊕ Nat} : Wp E 37 142 (some (.inr (.inr v)) :: ls) st g μ Q = Wp E 37 143 (some (.inr (.inr v)) :: ls) (.inr (.inr v) :: st) g μ Q := Wp_nx k37_142 rfl
theorem k37_143 : mCode 37 143 = some (.dup, 1) := by decide +kernel
theorem x37_143 {E : ME} {ls : MLs} {st : List MV} {g : MG} {μ : MU} {Q : Option MV → MG → MU → Prop} {v : MV} : Wp E 37 143 ls (v :: st) g μ Q = (mC1 v = true ∧ Wp E 37 144 ls (v :: v :: st) g μ Q) := Wp_dup k37_143
theorem k37_144 : mCode 37 144 = some (.getfield 31, 3) := by decide +kernel
theorem x37_144 {E : ME} {ls : MLs} {st : List MV} {g : MG} {μ : MU} {Q : Option MV → MG → MU → Prop} {a : Nat} : Wp E 37 144 ls (.inr (.inr (.inl a)) :: st) g μ Q = ((mKd g a).1 = 4 ∧ Wp E 37 147 ls (.inl (μ a 6) :: st) g μ Q) := Wp_getI k37_144 f4_31 (by decide) (by decide)
theorem k37_147 : mCode 37 147 = some (.aload_n 0, 1) := by decide +kernel
theorem x37_147 {E : ME} {ls : MLs} {st : List MV} {g : MG} {μ : MU} {Q : Option MV → MG → MU → Prop} {v : Nat ⊕ Nat} : Wp E 37 147 (some (.inr (.inr v)) :: ls) st g μ Q = Wp E 37 148 (some (.inr (.inr v)) :: ls) (.inr (.inr v) :: st) g μ Q := Wp_nx k37_147 rfl
theorem k37_148 : mCode 37 148 = some (.getfield 21, 3) := by decide +kernel
theorem x37_148 {E : ME} {ls : MLs} {st : List MV} {g : MG} {μ : MU} {Q : Option MV → MG → MU → Prop} {a : Nat} : Wp E 37 148 ls (.inr (.inr (.inl a)) :: st) g μ Q = ((mKd g a).1 = 4 ∧ Wp E 37 151 ls (mRv (mRf g a 3) :: st) g μ Q) := Wp_getR k37_148 f4_21 (by decide) (by decide)
theorem k37_151 : mCode 37 151 = some (.iload 4, 2) := by decide +kernel
theorem x37_151 {E : ME} {ls : MLs} {st : List MV} {g : MG} {μ : MU} {Q : Option MV → MG → MU → Prop} {l0 l1 l2 l3 : Option MV} {v : Int} : Wp E 37 151 (l0 :: l1 :: l2 :: l3 :: some (.inl v) :: ls) st g μ Q = Wp E 37 153 (l0 :: l1 :: l2 :: l3 :: some (.inl v) :: ls) (.inl v :: st) g μ Q := Wp_nx k37_151 rfl
theorem k37_153 : mCode 37 153 = some (.iaload, 1) := by decide +kernel
theorem x37_153 {E : ME} {ls : MLs} {st : List MV} {g : MG} {μ : MU} {Q : Option MV → MG → MU → Prop} {a : Nat} {j : Int} : Wp E 37 153 ls (.inl j :: .inr (.inr (.inl a)) :: st) g μ Q = (((mKd g a).1 = 10 ∧ 0 ≤ j ∧ j < (mKd g a).2) ∧ Wp E 37 154 ls (.inl (μ a j.toNat) :: st) g μ Q) := Wp_ald k37_153 (fun _ => rfl)
theorem k37_154 : mCode 37 154 = some (.iload 5, 2) := by decide +kernel
theorem x37_154 {E : ME} {ls : MLs} {st : List MV} {g : MG} {μ : MU} {Q : Option MV → MG → MU → Prop} {l0 l1 l2 l3 l4 : Option MV} {v : Int} : Wp E 37 154 (l0 :: l1 :: l2 :: l3 :: l4 :: some (.inl v) :: ls) st g μ Q = Wp E 37 156 (l0 :: l1 :: l2 :: l3 :: l4 :: some (.inl v) :: ls) (.inl v :: st) g μ Q := Wp_nx k37_154 rfl
theorem k37_156 : mCode 37 156 = some (.isub, 1) := by decide +kernel
theorem x37_156 {E : ME} {ls : MLs} {st : List MV} {g : MG} {μ : MU} {Q : Option MV → MG → MU → Prop} {a b : Int} : Wp E 37 156 ls (.inl b :: .inl a :: st) g μ Q = Wp E 37 157 ls (.inl (mWr (a - b)) :: st) g μ Q := Wp_nx k37_156 rfl
theorem k37_157 : mCode 37 157 = some (.iadd, 1) := by decide +kernel
theorem x37_157 {E : ME} {ls : MLs} {st : List MV} {g : MG} {μ : MU} {Q : Option MV → MG → MU → Prop} {a b : Int} : Wp E 37 157 ls (.inl b :: .inl a :: st) g μ Q = Wp E 37 158 ls (.inl (mWr (a + b)) :: st) g μ Q := Wp_nx k37_157 rfl
theorem k37_158 : mCode 37 158 = some (.putfield 31, 3) := by decide +kernel
theorem x37_158 {E : ME} {ls : MLs} {st : List MV} {g : MG} {μ : MU} {Q : Option MV → MG → MU → Prop} {a : Nat} {v : Int} : Wp E 37 158 ls (.inl v :: .inr (.inr (.inl a)) :: st) g μ Q = ((mKd g a).1 = 4 ∧ Wp E 37 161 ls st g (mUp μ a 6 v) Q) := Wp_putI0 k37_158 f4_31 (by decide) (by decide)
theorem k37_161 : mCode 37 161 = some (.aload_n 0, 1) := by decide +kernel
theorem x37_161 {E : ME} {ls : MLs} {st : List MV} {g : MG} {μ : MU} {Q : Option MV → MG → MU → Prop} {v : Nat ⊕ Nat} : Wp E 37 161 (some (.inr (.inr v)) :: ls) st g μ Q = Wp E 37 162 (some (.inr (.inr v)) :: ls) (.inr (.inr v) :: st) g μ Q := Wp_nx k37_161 rfl
theorem k37_162 : mCode 37 162 = some (.aload_n 0, 1) := by decide +kernel
theorem x37_162 {E : ME} {ls : MLs} {st : List MV} {g : MG} {μ : MU} {Q : Option MV → MG → MU → Prop} {v : Nat ⊕ Nat} : Wp E 37 162 (some (.inr (.inr v)) :: ls) st g μ Q = Wp E 37 163 (some (.inr (.inr v)) :: ls) (.inr (.inr v) :: st) g μ Q := Wp_nx k37_162 rfl
theorem k37_163 : mCode 37 163 = some (.getfield 21, 3) := by decide +kernel
theorem x37_163 {E : ME} {ls : MLs} {st : List MV} {g : MG} {μ : MU} {Q : Option MV → MG → MU → Prop} {a : Nat} : Wp E 37 163 ls (.inr (.inr (.inl a)) :: st) g μ Q = ((mKd g a).1 = 4 ∧ Wp E 37 166 ls (mRv (mRf g a 3) :: st) g μ Q) := Wp_getR k37_163 f4_21 (by decide) (by decide)
theorem k37_166 : mCode 37 166 = some (.iload 4, 2) := by decide +kernel
theorem x37_166 {E : ME} {ls : MLs} {st : List MV} {g : MG} {μ : MU} {Q : Option MV → MG → MU → Prop} {l0 l1 l2 l3 : Option MV} {v : Int} : Wp E 37 166 (l0 :: l1 :: l2 :: l3 :: some (.inl v) :: ls) st g μ Q = Wp E 37 168 (l0 :: l1 :: l2 :: l3 :: some (.inl v) :: ls) (.inl v :: st) g μ Q := Wp_nx k37_166 rfl
theorem k37_168 : mCode 37 168 = some (.iaload, 1) := by decide +kernel
theorem x37_168 {E : ME} {ls : MLs} {st : List MV} {g : MG} {μ : MU} {Q : Option MV → MG → MU → Prop} {a : Nat} {j : Int} : Wp E 37 168 ls (.inl j :: .inr (.inr (.inl a)) :: st) g μ Q = (((mKd g a).1 = 10 ∧ 0 ≤ j ∧ j < (mKd g a).2) ∧ Wp E 37 169 ls (.inl (μ a j.toNat) :: st) g μ Q) := Wp_ald k37_168 (fun _ => rfl)
theorem k37_169 : mCode 37 169 = some (.aload_n 1, 1) := by decide +kernel
theorem x37_169 {E : ME} {ls : MLs} {st : List MV} {g : MG} {μ : MU} {Q : Option MV → MG → MU → Prop} {l0 : Option MV} {v : Nat ⊕ Nat} : Wp E 37 169 (l0 :: some (.inr (.inr v)) :: ls) st g μ Q = Wp E 37 170 (l0 :: some (.inr (.inr v)) :: ls) (.inr (.inr v) :: st) g μ Q := Wp_nx k37_169 rfl
theorem k37_170 : mCode 37 170 = some (.getfield 65, 3) := by decide +kernel
theorem x37_170 {E : ME} {ls : MLs} {st : List MV} {g : MG} {μ : MU} {Q : Option MV → MG → MU → Prop} {a : Nat} : Wp E 37 170 ls (.inr (.inr (.inl a)) :: st) g μ Q = ((mKd g a).1 = 0 ∧ Wp E 37 173 ls (mRv (mRf g a 0) :: st) g μ Q) := Wp_getR k37_170 f4_65 (by decide) (by decide)
theorem k37_173 : mCode 37 173 = some (.iconst 0, 1) := by decide +kernel
theorem x37_173 {E : ME} {ls : MLs} {st : List MV} {g : MG} {μ : MU} {Q : Option MV → MG → MU → Prop} : Wp E 37 173 ls st g μ Q = Wp E 37 174 ls (.inl 0 :: st) g μ Q := Wp_nx k37_173 rfl
theorem k37_174 : mCode 37 174 = some (.iaload, 1) := by decide +kernel
theorem x37_174 {E : ME} {ls : MLs} {st : List MV} {g : MG} {μ : MU} {Q : Option MV → MG → MU → Prop} {a : Nat} {j : Int} : Wp E 37 174 ls (.inl j :: .inr (.inr (.inl a)) :: st) g μ Q = (((mKd g a).1 = 10 ∧ 0 ≤ j ∧ j < (mKd g a).2) ∧ Wp E 37 175 ls (.inl (μ a j.toNat) :: st) g μ Q) := Wp_ald k37_174 (fun _ => rfl)
theorem k37_175 : mCode 37 175 = some (.iadd, 1) := by decide +kernel
theorem x37_175 {E : ME} {ls : MLs} {st : List MV} {g : MG} {μ : MU} {Q : Option MV → MG → MU → Prop} {a b : Int} : Wp E 37 175 ls (.inl b :: .inl a :: st) g μ Q = Wp E 37 176 ls (.inl (mWr (a + b)) :: st) g μ Q := Wp_nx k37_175 rfl
theorem k37_176 : mCode 37 176 = some (.putfield 28, 3) := by decide +kernel
theorem x37_176 {E : ME} {ls : MLs} {st : List MV} {g : MG} {μ : MU} {Q : Option MV → MG → MU → Prop} {a : Nat} {v : Int} : Wp E 37 176 ls (.inl v :: .inr (.inr (.inl a)) :: st) g μ Q = ((mKd g a).1 = 4 ∧ Wp E 37 179 ls st g (mUp μ a 5 v) Q) := Wp_putI0 k37_176 f4_28 (by decide) (by decide)
theorem k37_179 : mCode 37 179 = some (.aload_n 0, 1) := by decide +kernel
theorem x37_179 {E : ME} {ls : MLs} {st : List MV} {g : MG} {μ : MU} {Q : Option MV → MG → MU → Prop} {v : Nat ⊕ Nat} : Wp E 37 179 (some (.inr (.inr v)) :: ls) st g μ Q = Wp E 37 180 (some (.inr (.inr v)) :: ls) (.inr (.inr v) :: st) g μ Q := Wp_nx k37_179 rfl
theorem k37_180 : mCode 37 180 = some (.getfield 15, 3) := by decide +kernel
theorem x37_180 {E : ME} {ls : MLs} {st : List MV} {g : MG} {μ : MU} {Q : Option MV → MG → MU → Prop} {a : Nat} : Wp E 37 180 ls (.inr (.inr (.inl a)) :: st) g μ Q = ((mKd g a).1 = 4 ∧ Wp E 37 183 ls (mRv (mRf g a 1) :: st) g μ Q) := Wp_getR k37_180 f4_15 (by decide) (by decide)
theorem k37_183 : mCode 37 183 = some (.iload 4, 2) := by decide +kernel
theorem x37_183 {E : ME} {ls : MLs} {st : List MV} {g : MG} {μ : MU} {Q : Option MV → MG → MU → Prop} {l0 l1 l2 l3 : Option MV} {v : Int} : Wp E 37 183 (l0 :: l1 :: l2 :: l3 :: some (.inl v) :: ls) st g μ Q = Wp E 37 185 (l0 :: l1 :: l2 :: l3 :: some (.inl v) :: ls) (.inl v :: st) g μ Q := Wp_nx k37_183 rfl
theorem k37_185 : mCode 37 185 = some (.aload_n 0, 1) := by decide +kernel
theorem x37_185 {E : ME} {ls : MLs} {st : List MV} {g : MG} {μ : MU} {Q : Option MV → MG → MU → Prop} {v : Nat ⊕ Nat} : Wp E 37 185 (some (.inr (.inr v)) :: ls) st g μ Q = Wp E 37 186 (some (.inr (.inr v)) :: ls) (.inr (.inr v) :: st) g μ Q := Wp_nx k37_185 rfl
theorem k37_186 : mCode 37 186 = some (.getfield 28, 3) := by decide +kernel
theorem x37_186 {E : ME} {ls : MLs} {st : List MV} {g : MG} {μ : MU} {Q : Option MV → MG → MU → Prop} {a : Nat} : Wp E 37 186 ls (.inr (.inr (.inl a)) :: st) g μ Q = ((mKd g a).1 = 4 ∧ Wp E 37 189 ls (.inl (μ a 5) :: st) g μ Q) := Wp_getI k37_186 f4_28 (by decide) (by decide)
theorem k37_189 : mCode 37 189 = some (.aload_n 0, 1) := by decide +kernel
theorem x37_189 {E : ME} {ls : MLs} {st : List MV} {g : MG} {μ : MU} {Q : Option MV → MG → MU → Prop} {v : Nat ⊕ Nat} : Wp E 37 189 (some (.inr (.inr v)) :: ls) st g μ Q = Wp E 37 190 (some (.inr (.inr v)) :: ls) (.inr (.inr v) :: st) g μ Q := Wp_nx k37_189 rfl
theorem k37_190 : mCode 37 190 = some (.aload_n 1, 1) := by decide +kernel
theorem x37_190 {E : ME} {ls : MLs} {st : List MV} {g : MG} {μ : MU} {Q : Option MV → MG → MU → Prop} {l0 : Option MV} {v : Nat ⊕ Nat} : Wp E 37 190 (l0 :: some (.inr (.inr v)) :: ls) st g μ Q = Wp E 37 191 (l0 :: some (.inr (.inr v)) :: ls) (.inr (.inr v) :: st) g μ Q := Wp_nx k37_190 rfl
theorem k37_191 : mCode 37 191 = some (.iload 4, 2) := by decide +kernel
theorem x37_191 {E : ME} {ls : MLs} {st : List MV} {g : MG} {μ : MU} {Q : Option MV → MG → MU → Prop} {l0 l1 l2 l3 : Option MV} {v : Int} : Wp E 37 191 (l0 :: l1 :: l2 :: l3 :: some (.inl v) :: ls) st g μ Q = Wp E 37 193 (l0 :: l1 :: l2 :: l3 :: some (.inl v) :: ls) (.inl v :: st) g μ Q := Wp_nx k37_191 rfl
theorem k37_193 : mCode 37 193 = some (.iload_n 3, 1) := by decide +kernel
theorem x37_193 {E : ME} {ls : MLs} {st : List MV} {g : MG} {μ : MU} {Q : Option MV → MG → MU → Prop} {l0 l1 l2 : Option MV} {v : Int} : Wp E 37 193 (l0 :: l1 :: l2 :: some (.inl v) :: ls) st g μ Q = Wp E 37 194 (l0 :: l1 :: l2 :: some (.inl v) :: ls) (.inl v :: st) g μ Q := Wp_nx k37_193 rfl
theorem k37_194 : mCode 37 194 = some (.invokevirtual 73, 3) := by decide +kernel
theorem x37_194 {E : ME} {ls : MLs} {st : List MV} {g : MG} {μ : MU} {Q : Option MV → MG → MU → Prop} {r : Nat} {a0 : Nat ⊕ Nat} {a1 : Int} {a2 : Int} : Wp E 37 194 ls (.inl a2 :: .inl a1 :: .inr (.inr a0) :: .inr (.inr (.inl r)) :: st) g μ Q = ((st.length ≤ 4 ∧ ((mKd g r).1 == 4) = true) ∧ Wp E 38 0 [some (.inr (.inr (.inl r))), some (.inr (.inr a0)), some (.inl a1), some (.inl a2)] [] g μ (fun r g' μ' => (g'.1 = g.1 ∧ g'.2.1 = g.2.1) ∧ Wp E 37 197 ls (mPush r st) g' μ' Q)) := Wp_cV k37_194 m4_73 (by decide) (as := [.inr (.inr (.inl r)), .inr (.inr a0), .inl a1, .inl a2]) rfl rfl rfl ⟨Nat.le_of_ble_eq_true rfl, by decide⟩
theorem k37_197 : mCode 37 197 = some (.iadd, 1) := by decide +kernel
theorem x37_197 {E : ME} {ls : MLs} {st : List MV} {g : MG} {μ : MU} {Q : Option MV → MG → MU → Prop} {a b : Int} : Wp E 37 197 ls (.inl b :: .inl a :: st) g μ Q = Wp E 37 198 ls (.inl (mWr (a + b)) :: st) g μ Q := Wp_nx k37_197 rfl
theorem k37_198 : mCode 37 198 = some (.iastore, 1) := by decide +kernel
theorem x37_198 {E : ME} {ls : MLs} {st : List MV} {g : MG} {μ : MU} {Q : Option MV → MG → MU → Prop} {a : Nat} {j v : Int} : Wp E 37 198 ls (.inl v :: .inl j :: .inr (.inr (.inl a)) :: st) g μ Q = (((mKd g a).1 = 10 ∧ 0 ≤ j ∧ j < (mKd g a).2) ∧ Wp E 37 199 ls st g (mUp μ a j.toNat v) Q) := Wp_iast k37_198
theorem k37_199 : mCode 37 199 = some (.iinc 4 1, 3) := by decide +kernel
theorem x37_199 {E : ME} {ls : MLs} {st : List MV} {g : MG} {μ : MU} {Q : Option MV → MG → MU → Prop} {l0 l1 l2 l3 : Option MV} {v : Int} : Wp E 37 199 (l0 :: l1 :: l2 :: l3 :: some (.inl v) :: ls) st g μ Q = (mNl (some l3) = true ∧ Wp E 37 202 (l0 :: l1 :: l2 :: l3 :: some (.inl (mWr (v + 1))) :: ls) st g μ Q) := Wp_inc k37_199 rfl rfl rfl
theorem k37_202 : mCode 37 202 = some (.goto (-179), 3) := by decide +kernel
theorem x37_202 {E : ME} {ls : MLs} {st : List MV} {g : MG} {μ : MU} {Q : Option MV → MG → MU → Prop} : Wp E 37 202 ls st g μ Q = Wp E 37 23 ls st g μ Q := Wp_goto k37_202 (by decide)
theorem k37_205 : mCode 37 205 = some (.return_, 1) := by decide +kernel
theorem x37_205 {E : ME} {ls : MLs} {g : MG} {μ : MU} {Q : Option MV → MG → MU → Prop} : Wp E 37 205 ls [] g μ Q = Q none g μ := Wp_retV k37_205 (by decide)
theorem k38_0 : mCode 38 0 = some (.aload_n 0, 1) := by decide +kernel
theorem x38_0 {E : ME} {ls : MLs} {st : List MV} {g : MG} {μ : MU} {Q : Option MV → MG → MU → Prop} {v : Nat ⊕ Nat} : Wp E 38 0 (some (.inr (.inr v)) :: ls) st g μ Q = Wp E 38 1 (some (.inr (.inr v)) :: ls) (.inr (.inr v) :: st) g μ Q := Wp_nx k38_0 rfl
theorem k38_1 : mCode 38 1 = some (.getfield 18, 3) := by decide +kernel
theorem x38_1 {E : ME} {ls : MLs} {st : List MV} {g : MG} {μ : MU} {Q : Option MV → MG → MU → Prop} {a : Nat} : Wp E 38 1 ls (.inr (.inr (.inl a)) :: st) g μ Q = ((mKd g a).1 = 4 ∧ Wp E 38 4 ls (mRv (mRf g a 2) :: st) g μ Q) := Wp_getR k38_1 f4_18 (by decide) (by decide)
theorem k38_4 : mCode 38 4 = some (.iload_n 2, 1) := by decide +kernel
theorem x38_4 {E : ME} {ls : MLs} {st : List MV} {g : MG} {μ : MU} {Q : Option MV → MG → MU → Prop} {l0 l1 : Option MV} {v : Int} : Wp E 38 4 (l0 :: l1 :: some (.inl v) :: ls) st g μ Q = Wp E 38 5 (l0 :: l1 :: some (.inl v) :: ls) (.inl v :: st) g μ Q := Wp_nx k38_4 rfl
theorem k38_5 : mCode 38 5 = some (.iaload, 1) := by decide +kernel
theorem x38_5 {E : ME} {ls : MLs} {st : List MV} {g : MG} {μ : MU} {Q : Option MV → MG → MU → Prop} {a : Nat} {j : Int} : Wp E 38 5 ls (.inl j :: .inr (.inr (.inl a)) :: st) g μ Q = (((mKd g a).1 = 10 ∧ 0 ≤ j ∧ j < (mKd g a).2) ∧ Wp E 38 6 ls (.inl (μ a j.toNat) :: st) g μ Q) := Wp_ald k38_5 (fun _ => rfl)
theorem k38_6 : mCode 38 6 = some (.bipush (-6), 2) := by decide +kernel
theorem x38_6 {E : ME} {ls : MLs} {st : List MV} {g : MG} {μ : MU} {Q : Option MV → MG → MU → Prop} : Wp E 38 6 ls st g μ Q = Wp E 38 8 ls (.inl (-6) :: st) g μ Q := Wp_nx k38_6 rfl
theorem k38_8 : mCode 38 8 = some (.if_icmp .eq 13, 3) := by decide +kernel
theorem x38_8 {E : ME} {ls : MLs} {st : List MV} {g : MG} {μ : MU} {Q : Option MV → MG → MU → Prop} {a b : Int} : Wp E 38 8 ls (.inl b :: .inl a :: st) g μ Q = ((a = b → Wp E 38 21 ls st g μ Q) ∧ (¬ a = b → Wp E 38 11 ls st g μ Q)) := Wp_cmp_eq k38_8 (by decide)
theorem k38_11 : mCode 38 11 = some (.aload_n 0, 1) := by decide +kernel
theorem x38_11 {E : ME} {ls : MLs} {st : List MV} {g : MG} {μ : MU} {Q : Option MV → MG → MU → Prop} {v : Nat ⊕ Nat} : Wp E 38 11 (some (.inr (.inr v)) :: ls) st g μ Q = Wp E 38 12 (some (.inr (.inr v)) :: ls) (.inr (.inr v) :: st) g μ Q := Wp_nx k38_11 rfl
theorem k38_12 : mCode 38 12 = some (.getfield 18, 3) := by decide +kernel
theorem x38_12 {E : ME} {ls : MLs} {st : List MV} {g : MG} {μ : MU} {Q : Option MV → MG → MU → Prop} {a : Nat} : Wp E 38 12 ls (.inr (.inr (.inl a)) :: st) g μ Q = ((mKd g a).1 = 4 ∧ Wp E 38 15 ls (mRv (mRf g a 2) :: st) g μ Q) := Wp_getR k38_12 f4_18 (by decide) (by decide)
theorem k38_15 : mCode 38 15 = some (.iload_n 2, 1) := by decide +kernel
theorem x38_15 {E : ME} {ls : MLs} {st : List MV} {g : MG} {μ : MU} {Q : Option MV → MG → MU → Prop} {l0 l1 : Option MV} {v : Int} : Wp E 38 15 (l0 :: l1 :: some (.inl v) :: ls) st g μ Q = Wp E 38 16 (l0 :: l1 :: some (.inl v) :: ls) (.inl v :: st) g μ Q := Wp_nx k38_15 rfl
theorem k38_16 : mCode 38 16 = some (.iaload, 1) := by decide +kernel
theorem x38_16 {E : ME} {ls : MLs} {st : List MV} {g : MG} {μ : MU} {Q : Option MV → MG → MU → Prop} {a : Nat} {j : Int} : Wp E 38 16 ls (.inl j :: .inr (.inr (.inl a)) :: st) g μ Q = (((mKd g a).1 = 10 ∧ 0 ≤ j ∧ j < (mKd g a).2) ∧ Wp E 38 17 ls (.inl (μ a j.toNat) :: st) g μ Q) := Wp_ald k38_16 (fun _ => rfl)
theorem k38_17 : mCode 38 17 = some (.iload_n 3, 1) := by decide +kernel
theorem x38_17 {E : ME} {ls : MLs} {st : List MV} {g : MG} {μ : MU} {Q : Option MV → MG → MU → Prop} {l0 l1 l2 : Option MV} {v : Int} : Wp E 38 17 (l0 :: l1 :: l2 :: some (.inl v) :: ls) st g μ Q = Wp E 38 18 (l0 :: l1 :: l2 :: some (.inl v) :: ls) (.inl v :: st) g μ Q := Wp_nx k38_17 rfl
theorem k38_18 : mCode 38 18 = some (.if_icmp .le 5, 3) := by decide +kernel
theorem x38_18 {E : ME} {ls : MLs} {st : List MV} {g : MG} {μ : MU} {Q : Option MV → MG → MU → Prop} {a b : Int} : Wp E 38 18 ls (.inl b :: .inl a :: st) g μ Q = ((a ≤ b → Wp E 38 23 ls st g μ Q) ∧ (b < a → Wp E 38 21 ls st g μ Q)) := Wp_cmp_le k38_18 (by decide)
theorem k38_21 : mCode 38 21 = some (.iconst 0, 1) := by decide +kernel
theorem x38_21 {E : ME} {ls : MLs} {st : List MV} {g : MG} {μ : MU} {Q : Option MV → MG → MU → Prop} : Wp E 38 21 ls st g μ Q = Wp E 38 22 ls (.inl 0 :: st) g μ Q := Wp_nx k38_21 rfl
theorem k38_22 : mCode 38 22 = some (.ireturn, 1) := by decide +kernel
theorem x38_22 {E : ME} {ls : MLs} {g : MG} {μ : MU} {Q : Option MV → MG → MU → Prop} {v : Int} : Wp E 38 22 ls [.inl v] g μ Q = Q (some (.inl v)) g μ := Wp_retI k38_22 (by decide)
theorem k38_23 : mCode 38 23 = some (.aload_n 0, 1) := by decide +kernel
theorem x38_23 {E : ME} {ls : MLs} {st : List MV} {g : MG} {μ : MU} {Q : Option MV → MG → MU → Prop} {v : Nat ⊕ Nat} : Wp E 38 23 (some (.inr (.inr v)) :: ls) st g μ Q = Wp E 38 24 (some (.inr (.inr v)) :: ls) (.inr (.inr v) :: st) g μ Q := Wp_nx k38_23 rfl
theorem k38_24 : mCode 38 24 = some (.getfield 18, 3) := by decide +kernel
theorem x38_24 {E : ME} {ls : MLs} {st : List MV} {g : MG} {μ : MU} {Q : Option MV → MG → MU → Prop} {a : Nat} : Wp E 38 24 ls (.inr (.inr (.inl a)) :: st) g μ Q = ((mKd g a).1 = 4 ∧ Wp E 38 27 ls (mRv (mRf g a 2) :: st) g μ Q) := Wp_getR k38_24 f4_18 (by decide) (by decide)
theorem k38_27 : mCode 38 27 = some (.iload_n 2, 1) := by decide +kernel
theorem x38_27 {E : ME} {ls : MLs} {st : List MV} {g : MG} {μ : MU} {Q : Option MV → MG → MU → Prop} {l0 l1 : Option MV} {v : Int} : Wp E 38 27 (l0 :: l1 :: some (.inl v) :: ls) st g μ Q = Wp E 38 28 (l0 :: l1 :: some (.inl v) :: ls) (.inl v :: st) g μ Q := Wp_nx k38_27 rfl
theorem k38_28 : mCode 38 28 = some (.bipush (-6), 2) := by decide +kernel
theorem x38_28 {E : ME} {ls : MLs} {st : List MV} {g : MG} {μ : MU} {Q : Option MV → MG → MU → Prop} : Wp E 38 28 ls st g μ Q = Wp E 38 30 ls (.inl (-6) :: st) g μ Q := Wp_nx k38_28 rfl
theorem k38_30 : mCode 38 30 = some (.iastore, 1) := by decide +kernel
theorem x38_30 {E : ME} {ls : MLs} {st : List MV} {g : MG} {μ : MU} {Q : Option MV → MG → MU → Prop} {a : Nat} {j v : Int} : Wp E 38 30 ls (.inl v :: .inl j :: .inr (.inr (.inl a)) :: st) g μ Q = (((mKd g a).1 = 10 ∧ 0 ≤ j ∧ j < (mKd g a).2) ∧ Wp E 38 31 ls st g (mUp μ a j.toNat v) Q) := Wp_iast k38_30
theorem k38_31 : mCode 38 31 = some (.aload_n 1, 1) := by decide +kernel
theorem x38_31 {E : ME} {ls : MLs} {st : List MV} {g : MG} {μ : MU} {Q : Option MV → MG → MU → Prop} {l0 : Option MV} {v : Nat ⊕ Nat} : Wp E 38 31 (l0 :: some (.inr (.inr v)) :: ls) st g μ Q = Wp E 38 32 (l0 :: some (.inr (.inr v)) :: ls) (.inr (.inr v) :: st) g μ Q := Wp_nx k38_31 rfl
theorem k38_32 : mCode 38 32 = some (.getfield 65, 3) := by decide +kernel
theorem x38_32 {E : ME} {ls : MLs} {st : List MV} {g : MG} {μ : MU} {Q : Option MV → MG → MU → Prop} {a : Nat} : Wp E 38 32 ls (.inr (.inr (.inl a)) :: st) g μ Q = ((mKd g a).1 = 0 ∧ Wp E 38 35 ls (mRv (mRf g a 0) :: st) g μ Q) := Wp_getR k38_32 f4_65 (by decide) (by decide)
theorem k38_35 : mCode 38 35 = some (.iconst 2, 1) := by decide +kernel
theorem x38_35 {E : ME} {ls : MLs} {st : List MV} {g : MG} {μ : MU} {Q : Option MV → MG → MU → Prop} : Wp E 38 35 ls st g μ Q = Wp E 38 36 ls (.inl 2 :: st) g μ Q := Wp_nx k38_35 rfl
theorem k38_36 : mCode 38 36 = some (.iaload, 1) := by decide +kernel
theorem x38_36 {E : ME} {ls : MLs} {st : List MV} {g : MG} {μ : MU} {Q : Option MV → MG → MU → Prop} {a : Nat} {j : Int} : Wp E 38 36 ls (.inl j :: .inr (.inr (.inl a)) :: st) g μ Q = (((mKd g a).1 = 10 ∧ 0 ≤ j ∧ j < (mKd g a).2) ∧ Wp E 38 37 ls (.inl (μ a j.toNat) :: st) g μ Q) := Wp_ald k38_36 (fun _ => rfl)
theorem k38_37 : mCode 38 37 = some (.ireturn, 1) := by decide +kernel
theorem x38_37 {E : ME} {ls : MLs} {g : MG} {μ : MU} {Q : Option MV → MG → MU → Prop} {v : Int} : Wp E 38 37 ls [.inl v] g μ Q = Q (some (.inl v)) g μ := Wp_retI k38_37 (by decide)
