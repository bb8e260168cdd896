theorem k76_0 : mCode 76 0 = some (.aload_n 0, 1) := by decide +kernel
theorem x76_0 {E : ME} {ls : MLs} {st : List MV} {g : MG} {μ : MU} {Q : Option MV → MG → MU → Prop} {v : Nat ⊕ Nat} : Wp E 76 0 (some (.inr (.inr v)) :: ls) st g μ Q = Wp E 76 1 (some (.inr (.inr v)) :: ls) (.inr (.inr v) :: st) g μ Q := Wp_nx k76_0 rfl
theorem k76_1 : mCode 76 1 = some (.invokespecial 1, 3) := by decide +kernel
theorem x76_1 {E : ME} {ls : MLs} {st : List MV} {g : MG} {μ : MU} {Q : Option MV → MG → MU → Prop} {a : Nat} : Wp E 76 1 ls (.inr (.inr (.inl a)) :: st) g μ Q = (st.length ≤ 4 ∧ Wp E 76 4 ls st g μ Q) := Wp_oin k76_1 m6_1
theorem k76_4 : mCode 76 4 = some (.aload_n 0, 1) := by decide +kernel
theorem x76_4 {E : ME} {ls : MLs} {st : List MV} {g : MG} {μ : MU} {Q : Option MV → MG → MU → Prop} {v : Nat ⊕ Nat} : Wp E 76 4 (some (.inr (.inr v)) :: ls) st g μ Q = Wp E 76 5 (some (.inr (.inr v)) :: ls) (.inr (.inr v) :: st) g μ Q := Wp_nx k76_4 rfl
theorem k76_5 : mCode 76 5 = some (.sipush 152, 3) := by decide +kernel
theorem x76_5 {E : ME} {ls : MLs} {st : List MV} {g : MG} {μ : MU} {Q : Option MV → MG → MU → Prop} : Wp E 76 5 ls st g μ Q = Wp E 76 8 ls (.inl 152 :: st) g μ Q := Wp_nx k76_5 rfl
theorem k76_8 : mCode 76 8 = some (.newarray .int, 2) := by decide +kernel
theorem x76_8 {E : ME} {ls : MLs} {st : List MV} {g : MG} {μ : MU} {Q : Option MV → MG → MU → Prop} {n : Int} : Wp E 76 8 ls (.inl n :: st) g μ Q = ((0 ≤ n ∧ n < 2000) ∧ Wp E 76 10 ls (mR g.1 :: st) (mGrow g (10, n.toNat) n.toNat) (mZero μ g.1) Q) := Wp_newa k76_8 (fun _ => rfl)
theorem k76_10 : mCode 76 10 = some (.putfield 7, 3) := by decide +kernel
theorem x76_10 {E : ME} {ls : MLs} {st : List MV} {g : MG} {μ : MU} {Q : Option MV → MG → MU → Prop} {a b : Nat} : Wp E 76 10 ls (.inr (.inr (.inl b)) :: .inr (.inr (.inl a)) :: st) g μ Q = ((mKd g a).1 = 6 ∧ Wp E 76 13 ls st (mSetR g a 1 (some b)) μ Q) := Wp_putR k76_10 f6_7 (by decide) (by decide) (by decide)
theorem k76_13 : mCode 76 13 = some (.aload_n 0, 1) := by decide +kernel
theorem x76_13 {E : ME} {ls : MLs} {st : List MV} {g : MG} {μ : MU} {Q : Option MV → MG → MU → Prop} {v : Nat ⊕ Nat} : Wp E 76 13 (some (.inr (.inr v)) :: ls) st g μ Q = Wp E 76 14 (some (.inr (.inr v)) :: ls) (.inr (.inr v) :: st) g μ Q := Wp_nx k76_13 rfl
theorem k76_14 : mCode 76 14 = some (.sipush 888, 3) := by decide +kernel
theorem x76_14 {E : ME} {ls : MLs} {st : List MV} {g : MG} {μ : MU} {Q : Option MV → MG → MU → Prop} : Wp E 76 14 ls st g μ Q = Wp E 76 17 ls (.inl 888 :: st) g μ Q := Wp_nx k76_14 rfl
theorem k76_17 : mCode 76 17 = some (.newarray .int, 2) := by decide +kernel
theorem x76_17 {E : ME} {ls : MLs} {st : List MV} {g : MG} {μ : MU} {Q : Option MV → MG → MU → Prop} {n : Int} : Wp E 76 17 ls (.inl n :: st) g μ Q = ((0 ≤ n ∧ n < 2000) ∧ Wp E 76 19 ls (mR g.1 :: st) (mGrow g (10, n.toNat) n.toNat) (mZero μ g.1) Q) := Wp_newa k76_17 (fun _ => rfl)
theorem k76_19 : mCode 76 19 = some (.putfield 13, 3) := by decide +kernel
theorem x76_19 {E : ME} {ls : MLs} {st : List MV} {g : MG} {μ : MU} {Q : Option MV → MG → MU → Prop} {a b : Nat} : Wp E 76 19 ls (.inr (.inr (.inl b)) :: .inr (.inr (.inl a)) :: st) g μ Q = ((mKd g a).1 = 6 ∧ Wp E 76 22 ls st (mSetR g a 2 (some b)) μ Q) := Wp_putR k76_19 f6_13 (by decide) (by decide) (by decide)
theorem k76_22 : mCode 76 22 = some (.aload_n 0, 1) := by decide +kernel
theorem x76_22 {E : ME} {ls : MLs} {st : List MV} {g : MG} {μ : MU} {Q : Option MV → MG → MU → Prop} {v : Nat ⊕ Nat} : Wp E 76 22 (some (.inr (.inr v)) :: ls) st g μ Q = Wp E 76 23 (some (.inr (.inr v)) :: ls) (.inr (.inr v) :: st) g μ Q := Wp_nx k76_22 rfl
theorem k76_23 : mCode 76 23 = some (.sipush 296, 3) := by decide +kernel
theorem x76_23 {E : ME} {ls : MLs} {st : List MV} {g : MG} {μ : MU} {Q : Option MV → MG → MU → Prop} : Wp E 76 23 ls st g μ Q = Wp E 76 26 ls (.inl 296 :: st) g μ Q := Wp_nx k76_23 rfl
theorem k76_26 : mCode 76 26 = some (.newarray .int, 2) := by decide +kernel
theorem x76_26 {E : ME} {ls : MLs} {st : List MV} {g : MG} {μ : MU} {Q : Option MV → MG → MU → Prop} {n : Int} : Wp E 76 26 ls (.inl n :: st) g μ Q = ((0 ≤ n ∧ n < 2000) ∧ Wp E 76 28 ls (mR g.1 :: st) (mGrow g (10, n.toNat) n.toNat) (mZero μ g.1) Q) := Wp_newa k76_26 (fun _ => rfl)
theorem k76_28 : mCode 76 28 = some (.putfield 16, 3) := by decide +kernel
theorem x76_28 {E : ME} {ls : MLs} {st : List MV} {g : MG} {μ : MU} {Q : Option MV → MG → MU → Prop} {a b : Nat} : Wp E 76 28 ls (.inr (.inr (.inl b)) :: .inr (.inr (.inl a)) :: st) g μ Q = ((mKd g a).1 = 6 ∧ Wp E 76 31 ls st (mSetR g a 4 (some b)) μ Q) := Wp_putR k76_28 f6_16 (by decide) (by decide) (by decide)
theorem k76_31 : mCode 76 31 = some (.aload_n 0, 1) := by decide +kernel
theorem x76_31 {E : ME} {ls : MLs} {st : List MV} {g : MG} {μ : MU} {Q : Option MV → MG → MU → Prop} {v : Nat ⊕ Nat} : Wp E 76 31 (some (.inr (.inr v)) :: ls) st g μ Q = Wp E 76 32 (some (.inr (.inr v)) :: ls) (.inr (.inr v) :: st) g μ Q := Wp_nx k76_31 rfl
theorem k76_32 : mCode 76 32 = some (.iconst 2, 1) := by decide +kernel
theorem x76_32 {E : ME} {ls : MLs} {st : List MV} {g : MG} {μ : MU} {Q : Option MV → MG → MU → Prop} : Wp E 76 32 ls st g μ Q = Wp E 76 33 ls (.inl 2 :: st) g μ Q := Wp_nx k76_32 rfl
theorem k76_33 : mCode 76 33 = some (.newarray .boolean, 2) := by decide +kernel
theorem x76_33 {E : ME} {ls : MLs} {st : List MV} {g : MG} {μ : MU} {Q : Option MV → MG → MU → Prop} {n : Int} : Wp E 76 33 ls (.inl n :: st) g μ Q = ((0 ≤ n ∧ n < 2000) ∧ Wp E 76 35 ls (mR g.1 :: st) (mGrow g (12, n.toNat) n.toNat) (mZero μ g.1) Q) := Wp_newa k76_33 (fun _ => rfl)
theorem k76_35 : mCode 76 35 = some (.putfield 19, 3) := by decide +kernel
theorem x76_35 {E : ME} {ls : MLs} {st : List MV} {g : MG} {μ : MU} {Q : Option MV → MG → MU → Prop} {a b : Nat} : Wp E 76 35 ls (.inr (.inr (.inl b)) :: .inr (.inr (.inl a)) :: st) g μ Q = ((mKd g a).1 = 6 ∧ Wp E 76 38 ls st (mSetR g a 5 (some b)) μ Q) := Wp_putR k76_35 f6_19 (by decide) (by decide) (by decide)
theorem k76_38 : mCode 76 38 = some (.aload_n 0, 1) := by decide +kernel
theorem x76_38 {E : ME} {ls : MLs} {st : List MV} {g : MG} {μ : MU} {Q : Option MV → MG → MU → Prop} {v : Nat ⊕ Nat} : Wp E 76 38 (some (.inr (.inr v)) :: ls) st g μ Q = Wp E 76 39 (some (.inr (.inr v)) :: ls) (.inr (.inr v) :: st) g μ Q := Wp_nx k76_38 rfl
theorem k76_39 : mCode 76 39 = some (.bipush 80, 2) := by decide +kernel
theorem x76_39 {E : ME} {ls : MLs} {st : List MV} {g : MG} {μ : MU} {Q : Option MV → MG → MU → Prop} : Wp E 76 39 ls st g μ Q = Wp E 76 41 ls (.inl 80 :: st) g μ Q := Wp_nx k76_39 rfl
theorem k76_41 : mCode 76 41 = some (.newarray .int, 2) := by decide +kernel
theorem x76_41 {E : ME} {ls : MLs} {st : List MV} {g : MG} {μ : MU} {Q : Option MV → MG → MU → Prop} {n : Int} : Wp E 76 41 ls (.inl n :: st) g μ Q = ((0 ≤ n ∧ n < 2000) ∧ Wp E 76 43 ls (mR g.1 :: st) (mGrow g (10, n.toNat) n.toNat) (mZero μ g.1) Q) := Wp_newa k76_41 (fun _ => rfl)
theorem k76_43 : mCode 76 43 = some (.putfield 23, 3) := by decide +kernel
theorem x76_43 {E : ME} {ls : MLs} {st : List MV} {g : MG} {μ : MU} {Q : Option MV → MG → MU → Prop} {a b : Nat} : Wp E 76 43 ls (.inr (.inr (.inl b)) :: .inr (.inr (.inl a)) :: st) g μ Q = ((mKd g a).1 = 6 ∧ Wp E 76 46 ls st (mSetR g a 6 (some b)) μ Q) := Wp_putR k76_43 f6_23 (by decide) (by decide) (by decide)
theorem k76_46 : mCode 76 46 = some (.aload_n 0, 1) := by decide +kernel
theorem x76_46 {E : ME} {ls : MLs} {st : List MV} {g : MG} {μ : MU} {Q : Option MV → MG → MU → Prop} {v : Nat ⊕ Nat} : Wp E 76 46 (some (.inr (.inr v)) :: ls) st g μ Q = Wp E 76 47 (some (.inr (.inr v)) :: ls) (.inr (.inr v) :: st) g μ Q := Wp_nx k76_46 rfl
theorem k76_47 : mCode 76 47 = some (.bipush 21, 2) := by decide +kernel
theorem x76_47 {E : ME} {ls : MLs} {st : List MV} {g : MG} {μ : MU} {Q : Option MV → MG → MU → Prop} : Wp E 76 47 ls st g μ Q = Wp E 76 49 ls (.inl 21 :: st) g μ Q := Wp_nx k76_47 rfl
theorem k76_49 : mCode 76 49 = some (.newarray .int, 2) := by decide +kernel
theorem x76_49 {E : ME} {ls : MLs} {st : List MV} {g : MG} {μ : MU} {Q : Option MV → MG → MU → Prop} {n : Int} : Wp E 76 49 ls (.inl n :: st) g μ Q = ((0 ≤ n ∧ n < 2000) ∧ Wp E 76 51 ls (mR g.1 :: st) (mGrow g (10, n.toNat) n.toNat) (mZero μ g.1) Q) := Wp_newa k76_49 (fun _ => rfl)
theorem k76_51 : mCode 76 51 = some (.putfield 26, 3) := by decide +kernel
theorem x76_51 {E : ME} {ls : MLs} {st : List MV} {g : MG} {μ : MU} {Q : Option MV → MG → MU → Prop} {a b : Nat} : Wp E 76 51 ls (.inr (.inr (.inl b)) :: .inr (.inr (.inl a)) :: st) g μ Q = ((mKd g a).1 = 6 ∧ Wp E 76 54 ls st (mSetR g a 8 (some b)) μ Q) := Wp_putR k76_51 f6_26 (by decide) (by decide) (by decide)
theorem k76_54 : mCode 76 54 = some (.aload_n 0, 1) := by decide +kernel
theorem x76_54 {E : ME} {ls : MLs} {st : List MV} {g : MG} {μ : MU} {Q : Option MV → MG → MU → Prop} {v : Nat ⊕ Nat} : Wp E 76 54 (some (.inr (.inr v)) :: ls) st g μ Q = Wp E 76 55 (some (.inr (.inr v)) :: ls) (.inr (.inr v) :: st) g μ Q := Wp_nx k76_54 rfl
theorem k76_55 : mCode 76 55 = some (.bipush 21, 2) := by decide +kernel
theorem x76_55 {E : ME} {ls : MLs} {st : List MV} {g : MG} {μ : MU} {Q : Option MV → MG → MU → Prop} : Wp E 76 55 ls st g μ Q = Wp E 76 57 ls (.inl 21 :: st) g μ Q := Wp_nx k76_55 rfl
theorem k76_57 : mCode 76 57 = some (.newarray .int, 2) := by decide +kernel
theorem x76_57 {E : ME} {ls : MLs} {st : List MV} {g : MG} {μ : MU} {Q : Option MV → MG → MU → Prop} {n : Int} : Wp E 76 57 ls (.inl n :: st) g μ Q = ((0 ≤ n ∧ n < 2000) ∧ Wp E 76 59 ls (mR g.1 :: st) (mGrow g (10, n.toNat) n.toNat) (mZero μ g.1) Q) := Wp_newa k76_57 (fun _ => rfl)
theorem k76_59 : mCode 76 59 = some (.putfield 29, 3) := by decide +kernel
theorem x76_59 {E : ME} {ls : MLs} {st : List MV} {g : MG} {μ : MU} {Q : Option MV → MG → MU → Prop} {a b : Nat} : Wp E 76 59 ls (.inr (.inr (.inl b)) :: .inr (.inr (.inl a)) :: st) g μ Q = ((mKd g a).1 = 6 ∧ Wp E 76 62 ls st (mSetR g a 9 (some b)) μ Q) := Wp_putR k76_59 f6_29 (by decide) (by decide) (by decide)
theorem k76_62 : mCode 76 62 = some (.aload_n 0, 1) := by decide +kernel
theorem x76_62 {E : ME} {ls : MLs} {st : List MV} {g : MG} {μ : MU} {Q : Option MV → MG → MU → Prop} {v : Nat ⊕ Nat} : Wp E 76 62 (some (.inr (.inr v)) :: ls) st g μ Q = Wp E 76 63 (some (.inr (.inr v)) :: ls) (.inr (.inr v) :: st) g μ Q := Wp_nx k76_62 rfl
theorem k76_63 : mCode 76 63 = some (.bipush 21, 2) := by decide +kernel
theorem x76_63 {E : ME} {ls : MLs} {st : List MV} {g : MG} {μ : MU} {Q : Option MV → MG → MU → Prop} : Wp E 76 63 ls st g μ Q = Wp E 76 65 ls (.inl 21 :: st) g μ Q := Wp_nx k76_63 rfl
theorem k76_65 : mCode 76 65 = some (.newarray .int, 2) := by decide +kernel
theorem x76_65 {E : ME} {ls : MLs} {st : List MV} {g : MG} {μ : MU} {Q : Option MV → MG → MU → Prop} {n : Int} : Wp E 76 65 ls (.inl n :: st) g μ Q = ((0 ≤ n ∧ n < 2000) ∧ Wp E 76 67 ls (mR g.1 :: st) (mGrow g (10, n.toNat) n.toNat) (mZero μ g.1) Q) := Wp_newa k76_65 (fun _ => rfl)
theorem k76_67 : mCode 76 67 = some (.putfield 32, 3) := by decide +kernel
theorem x76_67 {E : ME} {ls : MLs} {st : List MV} {g : MG} {μ : MU} {Q : Option MV → MG → MU → Prop} {a b : Nat} : Wp E 76 67 ls (.inr (.inr (.inl b)) :: .inr (.inr (.inl a)) :: st) g μ Q = ((mKd g a).1 = 6 ∧ Wp E 76 70 ls st (mSetR g a 10 (some b)) μ Q) := Wp_putR k76_67 f6_32 (by decide) (by decide) (by decide)
theorem k76_70 : mCode 76 70 = some (.aload_n 0, 1) := by decide +kernel
theorem x76_70 {E : ME} {ls : MLs} {st : List MV} {g : MG} {μ : MU} {Q : Option MV → MG → MU → Prop} {v : Nat ⊕ Nat} : Wp E 76 70 (some (.inr (.inr v)) :: ls) st g μ Q = Wp E 76 71 (some (.inr (.inr v)) :: ls) (.inr (.inr v) :: st) g μ Q := Wp_nx k76_70 rfl
theorem k76_71 : mCode 76 71 = some (.bipush 21, 2) := by decide +kernel
theorem x76_71 {E : ME} {ls : MLs} {st : List MV} {g : MG} {μ : MU} {Q : Option MV → MG → MU → Prop} : Wp E 76 71 ls st g μ Q = Wp E 76 73 ls (.inl 21 :: st) g μ Q := Wp_nx k76_71 rfl
theorem k76_73 : mCode 76 73 = some (.newarray .int, 2) := by decide +kernel
theorem x76_73 {E : ME} {ls : MLs} {st : List MV} {g : MG} {μ : MU} {Q : Option MV → MG → MU → Prop} {n : Int} : Wp E 76 73 ls (.inl n :: st) g μ Q = ((0 ≤ n ∧ n < 2000) ∧ Wp E 76 75 ls (mR g.1 :: st) (mGrow g (10, n.toNat) n.toNat) (mZero μ g.1) Q) := Wp_newa k76_73 (fun _ => rfl)
theorem k76_75 : mCode 76 75 = some (.putfield 35, 3) := by decide +kernel
theorem x76_75 {E : ME} {ls : MLs} {st : List MV} {g : MG} {μ : MU} {Q : Option MV → MG → MU → Prop} {a b : Nat} : Wp E 76 75 ls (.inr (.inr (.inl b)) :: .inr (.inr (.inl a)) :: st) g μ Q = ((mKd g a).1 = 6 ∧ Wp E 76 78 ls st (mSetR g a 11 (some b)) μ Q) := Wp_putR k76_75 f6_35 (by decide) (by decide) (by decide)
theorem k76_78 : mCode 76 78 = some (.aload_n 0, 1) := by decide +kernel
theorem x76_78 {E : ME} {ls : MLs} {st : List MV} {g : MG} {μ : MU} {Q : Option MV → MG → MU → Prop} {v : Nat ⊕ Nat} : Wp E 76 78 (some (.inr (.inr v)) :: ls) st g μ Q = Wp E 76 79 (some (.inr (.inr v)) :: ls) (.inr (.inr v) :: st) g μ Q := Wp_nx k76_78 rfl
theorem k76_79 : mCode 76 79 = some (.bipush 126, 2) := by decide +kernel
theorem x76_79 {E : ME} {ls : MLs} {st : List MV} {g : MG} {μ : MU} {Q : Option MV → MG → MU → Prop} : Wp E 76 79 ls st g μ Q = Wp E 76 81 ls (.inl 126 :: st) g μ Q := Wp_nx k76_79 rfl
theorem k76_81 : mCode 76 81 = some (.newarray .int, 2) := by decide +kernel
theorem x76_81 {E : ME} {ls : MLs} {st : List MV} {g : MG} {μ : MU} {Q : Option MV → MG → MU → Prop} {n : Int} : Wp E 76 81 ls (.inl n :: st) g μ Q = ((0 ≤ n ∧ n < 2000) ∧ Wp E 76 83 ls (mR g.1 :: st) (mGrow g (10, n.toNat) n.toNat) (mZero μ g.1) Q) := Wp_newa k76_81 (fun _ => rfl)
theorem k76_83 : mCode 76 83 = some (.putfield 38, 3) := by decide +kernel
theorem x76_83 {E : ME} {ls : MLs} {st : List MV} {g : MG} {μ : MU} {Q : Option MV → MG → MU → Prop} {a b : Nat} : Wp E 76 83 ls (.inr (.inr (.inl b)) :: .inr (.inr (.inl a)) :: st) g μ Q = ((mKd g a).1 = 6 ∧ Wp E 76 86 ls st (mSetR g a 12 (some b)) μ Q) := Wp_putR k76_83 f6_38 (by decide) (by decide) (by decide)
theorem k76_86 : mCode 76 86 = some (.aload_n 0, 1) := by decide +kernel
theorem x76_86 {E : ME} {ls : MLs} {st : List MV} {g : MG} {μ : MU} {Q : Option MV → MG → MU → Prop} {v : Nat ⊕ Nat} : Wp E 76 86 (some (.inr (.inr v)) :: ls) st g μ Q = Wp E 76 87 (some (.inr (.inr v)) :: ls) (.inr (.inr v) :: st) g μ Q := Wp_nx k76_86 rfl
theorem k76_87 : mCode 76 87 = some (.bipush 126, 2) := by decide +kernel
theorem x76_87 {E : ME} {ls : MLs} {st : List MV} {g : MG} {μ : MU} {Q : Option MV → MG → MU → Prop} : Wp E 76 87 ls st g μ Q = Wp E 76 89 ls (.inl 126 :: st) g μ Q := Wp_nx k76_87 rfl
theorem k76_89 : mCode 76 89 = some (.newarray .int, 2) := by decide +kernel
theorem x76_89 {E : ME} {ls : MLs} {st : List MV} {g : MG} {μ : MU} {Q : Option MV → MG → MU → Prop} {n : Int} : Wp E 76 89 ls (.inl n :: st) g μ Q = ((0 ≤ n ∧ n < 2000) ∧ Wp E 76 91 ls (mR g.1 :: st) (mGrow g (10, n.toNat) n.toNat) (mZero μ g.1) Q) := Wp_newa k76_89 (fun _ => rfl)
theorem k76_91 : mCode 76 91 = some (.putfield 41, 3) := by decide +kernel
theorem x76_91 {E : ME} {ls : MLs} {st : List MV} {g : MG} {μ : MU} {Q : Option MV → MG → MU → Prop} {a b : Nat} : Wp E 76 91 ls (.inr (.inr (.inl b)) :: .inr (.inr (.inl a)) :: st) g μ Q = ((mKd g a).1 = 6 ∧ Wp E 76 94 ls st (mSetR g a 13 (some b)) μ Q) := Wp_putR k76_91 f6_41 (by decide) (by decide) (by decide)
theorem k76_94 : mCode 76 94 = some (.aload_n 0, 1) := by decide +kernel
theorem x76_94 {E : ME} {ls : MLs} {st : List MV} {g : MG} {μ : MU} {Q : Option MV → MG → MU → Prop} {v : Nat ⊕ Nat} : Wp E 76 94 (some (.inr (.inr v)) :: ls) st g μ Q = Wp E 76 95 (some (.inr (.inr v)) :: ls) (.inr (.inr v) :: st) g μ Q := Wp_nx k76_94 rfl
theorem k76_95 : mCode 76 95 = some (.iconst 5, 1) := by decide +kernel
theorem x76_95 {E : ME} {ls : MLs} {st : List MV} {g : MG} {μ : MU} {Q : Option MV → MG → MU → Prop} : Wp E 76 95 ls st g μ Q = Wp E 76 96 ls (.inl 5 :: st) g μ Q := Wp_nx k76_95 rfl
theorem k76_96 : mCode 76 96 = some (.newarray .int, 2) := by decide +kernel
theorem x76_96 {E : ME} {ls : MLs} {st : List MV} {g : MG} {μ : MU} {Q : Option MV → MG → MU → Prop} {n : Int} : Wp E 76 96 ls (.inl n :: st) g μ Q = ((0 ≤ n ∧ n < 2000) ∧ Wp E 76 98 ls (mR g.1 :: st) (mGrow g (10, n.toNat) n.toNat) (mZero μ g.1) Q) := Wp_newa k76_96 (fun _ => rfl)
theorem k76_98 : mCode 76 98 = some (.putfield 44, 3) := by decide +kernel
theorem x76_98 {E : ME} {ls : MLs} {st : List MV} {g : MG} {μ : MU} {Q : Option MV → MG → MU → Prop} {a b : Nat} : Wp E 76 98 ls (.inr (.inr (.inl b)) :: .inr (.inr (.inl a)) :: st) g μ Q = ((mKd g a).1 = 6 ∧ Wp E 76 101 ls st (mSetR g a 14 (some b)) μ Q) := Wp_putR k76_98 f6_44 (by decide) (by decide) (by decide)
theorem k76_101 : mCode 76 101 = some (.aload_n 0, 1) := by decide +kernel
theorem x76_101 {E : ME} {ls : MLs} {st : List MV} {g : MG} {μ : MU} {Q : Option MV → MG → MU → Prop} {v : Nat ⊕ Nat} : Wp E 76 101 (some (.inr (.inr v)) :: ls) st g μ Q = Wp E 76 102 (some (.inr (.inr v)) :: ls) (.inr (.inr v) :: st) g μ Q := Wp_nx k76_101 rfl
theorem k76_102 : mCode 76 102 = some (.bipush 30, 2) := by decide +kernel
theorem x76_102 {E : ME} {ls : MLs} {st : List MV} {g : MG} {μ : MU} {Q : Option MV → MG → MU → Prop} : Wp E 76 102 ls st g μ Q = Wp E 76 104 ls (.inl 30 :: st) g μ Q := Wp_nx k76_102 rfl
theorem k76_104 : mCode 76 104 = some (.newarray .int, 2) := by decide +kernel
theorem x76_104 {E : ME} {ls : MLs} {st : List MV} {g : MG} {μ : MU} {Q : Option MV → MG → MU → Prop} {n : Int} : Wp E 76 104 ls (.inl n :: st) g μ Q = ((0 ≤ n ∧ n < 2000) ∧ Wp E 76 106 ls (mR g.1 :: st) (mGrow g (10, n.toNat) n.toNat) (mZero μ g.1) Q) := Wp_newa k76_104 (fun _ => rfl)
theorem k76_106 : mCode 76 106 = some (.putfield 47, 3) := by decide +kernel
theorem x76_106 {E : ME} {ls : MLs} {st : List MV} {g : MG} {μ : MU} {Q : Option MV → MG → MU → Prop} {a b : Nat} : Wp E 76 106 ls (.inr (.inr (.inl b)) :: .inr (.inr (.inl a)) :: st) g μ Q = ((mKd g a).1 = 6 ∧ Wp E 76 109 ls st (mSetR g a 16 (some b)) μ Q) := Wp_putR k76_106 f6_47 (by decide) (by decide) (by decide)
theorem k76_109 : mCode 76 109 = some (.aload_n 0, 1) := by decide +kernel
theorem x76_109 {E : ME} {ls : MLs} {st : List MV} {g : MG} {μ : MU} {Q : Option MV → MG → MU → Prop} {v : Nat ⊕ Nat} : Wp E 76 109 (some (.inr (.inr v)) :: ls) st g μ Q = Wp E 76 110 (some (.inr (.inr v)) :: ls) (.inr (.inr v) :: st) g μ Q := Wp_nx k76_109 rfl
theorem k76_110 : mCode 76 110 = some (.bipush 30, 2) := by decide +kernel
theorem x76_110 {E : ME} {ls : MLs} {st : List MV} {g : MG} {μ : MU} {Q : Option MV → MG → MU → Prop} : Wp E 76 110 ls st g μ Q = Wp E 76 112 ls (.inl 30 :: st) g μ Q := Wp_nx k76_110 rfl
theorem k76_112 : mCode 76 112 = some (.newarray .int, 2) := by decide +kernel
theorem x76_112 {E : ME} {ls : MLs} {st : List MV} {g : MG} {μ : MU} {Q : Option MV → MG → MU → Prop} {n : Int} : Wp E 76 112 ls (.inl n :: st) g μ Q = ((0 ≤ n ∧ n < 2000) ∧ Wp E 76 114 ls (mR g.1 :: st) (mGrow g (10, n.toNat) n.toNat) (mZero μ g.1) Q) := Wp_newa k76_112 (fun _ => rfl)
theorem k76_114 : mCode 76 114 = some (.putfield 50, 3) := by decide +kernel
theorem x76_114 {E : ME} {ls : MLs} {st : List MV} {g : MG} {μ : MU} {Q : Option MV → MG → MU → Prop} {a b : Nat} : Wp E 76 114 ls (.inr (.inr (.inl b)) :: .inr (.inr (.inl a)) :: st) g μ Q = ((mKd g a).1 = 6 ∧ Wp E 76 117 ls st (mSetR g a 17 (some b)) μ Q) := Wp_putR k76_114 f6_50 (by decide) (by decide) (by decide)
theorem k76_117 : mCode 76 117 = some (.aload_n 0, 1) := by decide +kernel
theorem x76_117 {E : ME} {ls : MLs} {st : List MV} {g : MG} {μ : MU} {Q : Option MV → MG → MU → Prop} {v : Nat ⊕ Nat} : Wp E 76 117 (some (.inr (.inr v)) :: ls) st g μ Q = Wp E 76 118 (some (.inr (.inr v)) :: ls) (.inr (.inr v) :: st) g μ Q := Wp_nx k76_117 rfl
theorem k76_118 : mCode 76 118 = some (.bipush 30, 2) := by decide +kernel
theorem x76_118 {E : ME} {ls : MLs} {st : List MV} {g : MG} {μ : MU} {Q : Option MV → MG → MU → Prop} : Wp E 76 118 ls st g μ Q = Wp E 76 120 ls (.inl 30 :: st) g μ Q := Wp_nx k76_118 rfl
theorem k76_120 : mCode 76 120 = some (.newarray .boolean, 2) := by decide +kernel
theorem x76_120 {E : ME} {ls : MLs} {st : List MV} {g : MG} {μ : MU} {Q : Option MV → MG → MU → Prop} {n : Int} : Wp E 76 120 ls (.inl n :: st) g μ Q = ((0 ≤ n ∧ n < 2000) ∧ Wp E 76 122 ls (mR g.1 :: st) (mGrow g (12, n.toNat) n.toNat) (mZero μ g.1) Q) := Wp_newa k76_120 (fun _ => rfl)
theorem k76_122 : mCode 76 122 = some (.putfield 53, 3) := by decide +kernel
theorem x76_122 {E : ME} {ls : MLs} {st : List MV} {g : MG} {μ : MU} {Q : Option MV → MG → MU → Prop} {a b : Nat} : Wp E 76 122 ls (.inr (.inr (.inl b)) :: .inr (.inr (.inl a)) :: st) g μ Q = ((mKd g a).1 = 6 ∧ Wp E 76 125 ls st (mSetR g a 18 (some b)) μ Q) := Wp_putR k76_122 f6_53 (by decide) (by decide) (by decide)
theorem k76_125 : mCode 76 125 = some (.aload_n 0, 1) := by decide +kernel
theorem x76_125 {E : ME} {ls : MLs} {st : List MV} {g : MG} {μ : MU} {Q : Option MV → MG → MU → Prop} {v : Nat ⊕ Nat} : Wp E 76 125 (some (.inr (.inr v)) :: ls) st g μ Q = Wp E 76 126 (some (.inr (.inr v)) :: ls) (.inr (.inr v) :: st) g μ Q := Wp_nx k76_125 rfl
theorem k76_126 : mCode 76 126 = some (.bipush 21, 2) := by decide +kernel
theorem x76_126 {E : ME} {ls : MLs} {st : List MV} {g : MG} {μ : MU} {Q : Option MV → MG → MU → Prop} : Wp E 76 126 ls st g μ Q = Wp E 76 128 ls (.inl 21 :: st) g μ Q := Wp_nx k76_126 rfl
theorem k76_128 : mCode 76 128 = some (.newarray .int, 2) := by decide +kernel
theorem x76_128 {E : ME} {ls : MLs} {st : List MV} {g : MG} {μ : MU} {Q : Option MV → MG → MU → Prop} {n : Int} : Wp E 76 128 ls (.inl n :: st) g μ Q = ((0 ≤ n ∧ n < 2000) ∧ Wp E 76 130 ls (mR g.1 :: st) (mGrow g (10, n.toNat) n.toNat) (mZero μ g.1) Q) := Wp_newa k76_128 (fun _ => rfl)
theorem k76_130 : mCode 76 130 = some (.putfield 56, 3) := by decide +kernel
theorem x76_130 {E : ME} {ls : MLs} {st : List MV} {g : MG} {μ : MU} {Q : Option MV → MG → MU → Prop} {a b : Nat} : Wp E 76 130 ls (.inr (.inr (.inl b)) :: .inr (.inr (.inl a)) :: st) g μ Q = ((mKd g a).1 = 6 ∧ Wp E 76 133 ls st (mSetR g a 19 (some b)) μ Q) := Wp_putR k76_130 f6_56 (by decide) (by decide) (by decide)
theorem k76_133 : mCode 76 133 = some (.aload_n 0, 1) := by decide +kernel
theorem x76_133 {E : ME} {ls : MLs} {st : List MV} {g : MG} {μ : MU} {Q : Option MV → MG → MU → Prop} {v : Nat ⊕ Nat} : Wp E 76 133 (some (.inr (.inr v)) :: ls) st g μ Q = Wp E 76 134 (some (.inr (.inr v)) :: ls) (.inr (.inr v) :: st) g μ Q := Wp_nx k76_133 rfl
theorem k76_134 : mCode 76 134 = some (.bipush 21, 2) := by decide +kernel
theorem x76_134 {E : ME} {ls : MLs} {st : List MV} {g : MG} {μ : MU} {Q : Option MV → MG → MU → Prop} : Wp E 76 134 ls st g μ Q = Wp E 76 136 ls (.inl 21 :: st) g μ Q := Wp_nx k76_134 rfl
theorem k76_136 : mCode 76 136 = some (.newarray .int, 2) := by decide +kernel
theorem x76_136 {E : ME} {ls : MLs} {st : List MV} {g : MG} {μ : MU} {Q : Option MV → MG → MU → Prop} {n : Int} : Wp E 76 136 ls (.inl n :: st) g μ Q = ((0 ≤ n ∧ n < 2000) ∧ Wp E 76 138 ls (mR g.1 :: st) (mGrow g (10, n.toNat) n.toNat) (mZero μ g.1) Q) := Wp_newa k76_136 (fun _ => rfl)
theorem k76_138 : mCode 76 138 = some (.putfield 59, 3) := by decide +kernel
theorem x76_138 {E : ME} {ls : MLs} {st : List MV} {g : MG} {μ : MU} {Q : Option MV → MG → MU → Prop} {a b : Nat} : Wp E 76 138 ls (.inr (.inr (.inl b)) :: .inr (.inr (.inl a)) :: st) g μ Q = ((mKd g a).1 = 6 ∧ Wp E 76 141 ls st (mSetR g a 20 (some b)) μ Q) := Wp_putR k76_138 f6_59 (by decide) (by decide) (by decide)
theorem k76_141 : mCode 76 141 = some (.aload_n 0, 1) := by decide +kernel
theorem x76_141 {E : ME} {ls : MLs} {st : List MV} {g : MG} {μ : MU} {Q : Option MV → MG → MU → Prop} {v : Nat ⊕ Nat} : Wp E 76 141 (some (.inr (.inr v)) :: ls) st g μ Q = Wp E 76 142 (some (.inr (.inr v)) :: ls) (.inr (.inr v) :: st) g μ Q := Wp_nx k76_141 rfl
theorem k76_142 : mCode 76 142 = some (.sipush 240, 3) := by decide +kernel
theorem x76_142 {E : ME} {ls : MLs} {st : List MV} {g : MG} {μ : MU} {Q : Option MV → MG → MU → Prop} : Wp E 76 142 ls st g μ Q = Wp E 76 145 ls (.inl 240 :: st) g μ Q := Wp_nx k76_142 rfl
theorem k76_145 : mCode 76 145 = some (.newarray .int, 2) := by decide +kernel
theorem x76_145 {E : ME} {ls : MLs} {st : List MV} {g : MG} {μ : MU} {Q : Option MV → MG → MU → Prop} {n : Int} : Wp E 76 145 ls (.inl n :: st) g μ Q = ((0 ≤ n ∧ n < 2000) ∧ Wp E 76 147 ls (mR g.1 :: st) (mGrow g (10, n.toNat) n.toNat) (mZero μ g.1) Q) := Wp_newa k76_145 (fun _ => rfl)
theorem k76_147 : mCode 76 147 = some (.putfield 62, 3) := by decide +kernel
theorem x76_147 {E : ME} {ls : MLs} {st : List MV} {g : MG} {μ : MU} {Q : Option MV → MG → MU → Prop} {a b : Nat} : Wp E 76 147 ls (.inr (.inr (.inl b)) :: .inr (.inr (.inl a)) :: st) g μ Q = ((mKd g a).1 = 6 ∧ Wp E 76 150 ls st (mSetR g a 23 (some b)) μ Q) := Wp_putR k76_147 f6_62 (by decide) (by decide) (by decide)
theorem k76_150 : mCode 76 150 = some (.aload_n 0, 1) := by decide +kernel
theorem x76_150 {E : ME} {ls : MLs} {st : List MV} {g : MG} {μ : MU} {Q : Option MV → MG → MU → Prop} {v : Nat ⊕ Nat} : Wp E 76 150 (some (.inr (.inr v)) :: ls) st g μ Q = Wp E 76 151 (some (.inr (.inr v)) :: ls) (.inr (.inr v) :: st) g μ Q := Wp_nx k76_150 rfl
theorem k76_151 : mCode 76 151 = some (.iconst 0, 1) := by decide +kernel
theorem x76_151 {E : ME} {ls : MLs} {st : List MV} {g : MG} {μ : MU} {Q : Option MV → MG → MU → Prop} : Wp E 76 151 ls st g μ Q = Wp E 76 152 ls (.inl 0 :: st) g μ Q := Wp_nx k76_151 rfl
theorem k76_152 : mCode 76 152 = some (.putfield 65, 3) := by decide +kernel
theorem x76_152 {E : ME} {ls : MLs} {st : List MV} {g : MG} {μ : MU} {Q : Option MV → MG → MU → Prop} {a : Nat} {v : Int} : Wp E 76 152 ls (.inl v :: .inr (.inr (.inl a)) :: st) g μ Q = ((mKd g a).1 = 6 ∧ Wp E 76 155 ls st g (mUp μ a 0 v) Q) := Wp_putI0 k76_152 f6_65 (by decide) (by decide)
theorem k76_155 : mCode 76 155 = some (.aload_n 0, 1) := by decide +kernel
theorem x76_155 {E : ME} {ls : MLs} {st : List MV} {g : MG} {μ : MU} {Q : Option MV → MG → MU → Prop} {v : Nat ⊕ Nat} : Wp E 76 155 (some (.inr (.inr v)) :: ls) st g μ Q = Wp E 76 156 (some (.inr (.inr v)) :: ls) (.inr (.inr v) :: st) g μ Q := Wp_nx k76_155 rfl
theorem k76_156 : mCode 76 156 = some (.getfield 7, 3) := by decide +kernel
theorem x76_156 {E : ME} {ls : MLs} {st : List MV} {g : MG} {μ : MU} {Q : Option MV → MG → MU → Prop} {a : Nat} : Wp E 76 156 ls (.inr (.inr (.inl a)) :: st) g μ Q = ((mKd g a).1 = 6 ∧ Wp E 76 159 ls (mRv (mRf g a 1) :: st) g μ Q) := Wp_getR k76_156 f6_7 (by decide) (by decide)
theorem k76_159 : mCode 76 159 = some (.iconst 0, 1) := by decide +kernel
theorem x76_159 {E : ME} {ls : MLs} {st : List MV} {g : MG} {μ : MU} {Q : Option MV → MG → MU → Prop} : Wp E 76 159 ls st g μ Q = Wp E 76 160 ls (.inl 0 :: st) g μ Q := Wp_nx k76_159 rfl
theorem k76_160 : mCode 76 160 = some (.bipush 15, 2) := by decide +kernel
theorem x76_160 {E : ME} {ls : MLs} {st : List MV} {g : MG} {μ : MU} {Q : Option MV → MG → MU → Prop} : Wp E 76 160 ls st g μ Q = Wp E 76 162 ls (.inl 15 :: st) g μ Q := Wp_nx k76_160 rfl
theorem k76_162 : mCode 76 162 = some (.iastore, 1) := by decide +kernel
theorem x76_162 {E : ME} {ls : MLs} {st : List MV} {g : MG} {μ : MU} {Q : Option MV → MG → MU → Prop} {a : Nat} {j v : Int} : Wp E 76 162 ls (.inl v :: .inl j :: .inr (.inr (.inl a)) :: st) g μ Q = (((mKd g a).1 = 10 ∧ 0 ≤ j ∧ j < (mKd g a).2) ∧ Wp E 76 163 ls st g (mUp μ a j.toNat v) Q) := Wp_iast k76_162
theorem k76_163 : mCode 76 163 = some (.aload_n 0, 1) := by decide +kernel
theorem x76_163 {E : ME} {ls : MLs} {st : List MV} {g : MG} {μ : MU} {Q : Option MV → MG → MU → Prop} {v : Nat ⊕ Nat} : Wp E 76 163 (some (.inr (.inr v)) :: ls) st g μ Q = Wp E 76 164 (some (.inr (.inr v)) :: ls) (.inr (.inr v) :: st) g μ Q := Wp_nx k76_163 rfl
theorem k76_164 : mCode 76 164 = some (.getfield 7, 3) := by decide +kernel
theorem x76_164 {E : ME} {ls : MLs} {st : List MV} {g : MG} {μ : MU} {Q : Option MV → MG → MU → Prop} {a : Nat} : Wp E 76 164 ls (.inr (.inr (.inl a)) :: st) g μ Q = ((mKd g a).1 = 6 ∧ Wp E 76 167 ls (mRv (mRf g a 1) :: st) g μ Q) := Wp_getR k76_164 f6_7 (by decide) (by decide)
theorem k76_167 : mCode 76 167 = some (.iconst 1, 1) := by decide +kernel
theorem x76_167 {E : ME} {ls : MLs} {st : List MV} {g : MG} {μ : MU} {Q : Option MV → MG → MU → Prop} : Wp E 76 167 ls st g μ Q = Wp E 76 168 ls (.inl 1 :: st) g μ Q := Wp_nx k76_167 rfl
theorem k76_168 : mCode 76 168 = some (.iconst 5, 1) := by decide +kernel
theorem x76_168 {E : ME} {ls : MLs} {st : List MV} {g : MG} {μ : MU} {Q : Option MV → MG → MU → Prop} : Wp E 76 168 ls st g μ Q = Wp E 76 169 ls (.inl 5 :: st) g μ Q := Wp_nx k76_168 rfl
theorem k76_169 : mCode 76 169 = some (.iastore, 1) := by decide +kernel
theorem x76_169 {E : ME} {ls : MLs} {st : List MV} {g : MG} {μ : MU} {Q : Option MV → MG → MU → Prop} {a : Nat} {j v : Int} : Wp E 76 169 ls (.inl v :: .inl j :: .inr (.inr (.inl a)) :: st) g μ Q = (((mKd g a).1 = 10 ∧ 0 ≤ j ∧ j < (mKd g a).2) ∧ Wp E 76 170 ls st g (mUp μ a j.toNat v) Q) := Wp_iast k76_169
theorem k76_170 : mCode 76 170 = some (.aload_n 0, 1) := by decide +kernel
theorem x76_170 {E : ME} {ls : MLs} {st : List MV} {g : MG} {μ : MU} {Q : Option MV → MG → MU → Prop} {v : Nat ⊕ Nat} : Wp E 76 170 (some (.inr (.inr v)) :: ls) st g μ Q = Wp E 76 171 (some (.inr (.inr v)) :: ls) (.inr (.inr v) :: st) g μ Q := Wp_nx k76_170 rfl
theorem k76_171 : mCode 76 171 = some (.getfield 7, 3) := by decide +kernel
theorem x76_171 {E : ME} {ls : MLs} {st : List MV} {g : MG} {μ : MU} {Q : Option MV → MG → MU → Prop} {a : Nat} : Wp E 76 171 ls (.inr (.inr (.inl a)) :: st) g μ Q = ((mKd g a).1 = 6 ∧ Wp E 76 174 ls (mRv (mRf g a 1) :: st) g μ Q) := Wp_getR k76_171 f6_7 (by decide) (by decide)
theorem k76_174 : mCode 76 174 = some (.iconst 2, 1) := by decide +kernel
theorem x76_174 {E : ME} {ls : MLs} {st : List MV} {g : MG} {μ : MU} {Q : Option MV → MG → MU → Prop} : Wp E 76 174 ls st g μ Q = Wp E 76 175 ls (.inl 2 :: st) g μ Q := Wp_nx k76_174 rfl
theorem k76_175 : mCode 76 175 = some (.bipush 10, 2) := by decide +kernel
theorem x76_175 {E : ME} {ls : MLs} {st : List MV} {g : MG} {μ : MU} {Q : Option MV → MG → MU → Prop} : Wp E 76 175 ls st g μ Q = Wp E 76 177 ls (.inl 10 :: st) g μ Q := Wp_nx k76_175 rfl
theorem k76_177 : mCode 76 177 = some (.iastore, 1) := by decide +kernel
theorem x76_177 {E : ME} {ls : MLs} {st : List MV} {g : MG} {μ : MU} {Q : Option MV → MG → MU → Prop} {a : Nat} {j v : Int} : Wp E 76 177 ls (.inl v :: .inl j :: .inr (.inr (.inl a)) :: st) g μ Q = (((mKd g a).1 = 10 ∧ 0 ≤ j ∧ j < (mKd g a).2) ∧ Wp E 76 178 ls st g (mUp μ a j.toNat v) Q) := Wp_iast k76_177
theorem k76_178 : mCode 76 178 = some (.aload_n 0, 1) := by decide +kernel
theorem x76_178 {E : ME} {ls : MLs} {st : List MV} {g : MG} {μ : MU} {Q : Option MV → MG → MU → Prop} {v : Nat ⊕ Nat} : Wp E 76 178 (some (.inr (.inr v)) :: ls) st g μ Q = Wp E 76 179 (some (.inr (.inr v)) :: ls) (.inr (.inr v) :: st) g μ Q := Wp_nx k76_178 rfl
theorem k76_179 : mCode 76 179 = some (.getfield 7, 3) := by decide +kernel
theorem x76_179 {E : ME} {ls : MLs} {st : List MV} {g : MG} {μ : MU} {Q : Option MV → MG → MU → Prop} {a : Nat} : Wp E 76 179 ls (.inr (.inr (.inl a)) :: st) g μ Q = ((mKd g a).1 = 6 ∧ Wp E 76 182 ls (mRv (mRf g a 1) :: st) g μ Q) := Wp_getR k76_179 f6_7 (by decide) (by decide)
theorem k76_182 : mCode 76 182 = some (.iconst 3, 1) := by decide +kernel
theorem x76_182 {E : ME} {ls : MLs} {st : List MV} {g : MG} {μ : MU} {Q : Option MV → MG → MU → Prop} : Wp E 76 182 ls st g μ Q = Wp E 76 183 ls (.inl 3 :: st) g μ Q := Wp_nx k76_182 rfl
theorem k76_183 : mCode 76 183 = some (.iconst 3, 1) := by decide +kernel
theorem x76_183 {E : ME} {ls : MLs} {st : List MV} {g : MG} {μ : MU} {Q : Option MV → MG → MU → Prop} : Wp E 76 183 ls st g μ Q = Wp E 76 184 ls (.inl 3 :: st) g μ Q := Wp_nx k76_183 rfl
theorem k76_184 : mCode 76 184 = some (.iastore, 1) := by decide +kernel
theorem x76_184 {E : ME} {ls : MLs} {st : List MV} {g : MG} {μ : MU} {Q : Option MV → MG → MU → Prop} {a : Nat} {j v : Int} : Wp E 76 184 ls (.inl v :: .inl j :: .inr (.inr (.inl a)) :: st) g μ Q = (((mKd g a).1 = 10 ∧ 0 ≤ j ∧ j < (mKd g a).2) ∧ Wp E 76 185 ls st g (mUp μ a j.toNat v) Q) := Wp_iast k76_184
theorem k76_185 : mCode 76 185 = some (.aload_n 0, 1) := by decide +kernel
theorem x76_185 {E : ME} {ls : MLs} {st : List MV} {g : MG} {μ : MU} {Q : Option MV → MG → MU → Prop} {v : Nat ⊕ Nat} : Wp E 76 185 (some (.inr (.inr v)) :: ls) st g μ Q = Wp E 76 186 (some (.inr (.inr v)) :: ls) (.inr (.inr v) :: st) g μ Q := Wp_nx k76_185 rfl
theorem k76_186 : mCode 76 186 = some (.getfield 7, 3) := by decide +kernel
theorem x76_186 {E : ME} {ls : MLs} {st : List MV} {g : MG} {μ : MU} {Q : Option MV → MG → MU → Prop} {a : Nat} : Wp E 76 186 ls (.inr (.inr (.inl a)) :: st) g μ Q = ((mKd g a).1 = 6 ∧ Wp E 76 189 ls (mRv (mRf g a 1) :: st) g μ Q) := Wp_getR k76_186 f6_7 (by decide) (by decide)
theorem k76_189 : mCode 76 189 = some (.iconst 4, 1) := by decide +kernel
theorem x76_189 {E : ME} {ls : MLs} {st : List MV} {g : MG} {μ : MU} {Q : Option MV → MG → MU → Prop} : Wp E 76 189 ls st g μ Q = Wp E 76 190 ls (.inl 4 :: st) g μ Q := Wp_nx k76_189 rfl
theorem k76_190 : mCode 76 190 = some (.iconst 5, 1) := by decide +kernel
theorem x76_190 {E : ME} {ls : MLs} {st : List MV} {g : MG} {μ : MU} {Q : Option MV → MG → MU → Prop} : Wp E 76 190 ls st g μ Q = Wp E 76 191 ls (.inl 5 :: st) g μ Q := Wp_nx k76_190 rfl
theorem k76_191 : mCode 76 191 = some (.iastore, 1) := by decide +kernel
theorem x76_191 {E : ME} {ls : MLs} {st : List MV} {g : MG} {μ : MU} {Q : Option MV → MG → MU → Prop} {a : Nat} {j v : Int} : Wp E 76 191 ls (.inl v :: .inl j :: .inr (.inr (.inl a)) :: st) g μ Q = (((mKd g a).1 = 10 ∧ 0 ≤ j ∧ j < (mKd g a).2) ∧ Wp E 76 192 ls st g (mUp μ a j.toNat v) Q) := Wp_iast k76_191
theorem k76_192 : mCode 76 192 = some (.iconst 0, 1) := by decide +kernel
theorem x76_192 {E : ME} {ls : MLs} {st : List MV} {g : MG} {μ : MU} {Q : Option MV → MG → MU → Prop} : Wp E 76 192 ls st g μ Q = Wp E 76 193 ls (.inl 0 :: st) g μ Q := Wp_nx k76_192 rfl
theorem k76_193 : mCode 76 193 = some (.istore_n 1, 1) := by decide +kernel
theorem x76_193 {E : ME} {ls : MLs} {st : List MV} {g : MG} {μ : MU} {Q : Option MV → MG → MU → Prop} {l0 : Option MV} {lk : Option MV} {v : Int} : Wp E 76 193 (l0 :: lk :: ls) (.inl v :: st) g μ Q = ((mNl (some l0) = true ∧ mNl (some lk) = true) ∧ Wp E 76 194 (l0 :: some (.inl v) :: ls) st g μ Q) := Wp_sti k76_193 (fun _ => rfl) rfl rfl rfl
theorem k76_194 : mCode 76 194 = some (.iload_n 1, 1) := by decide +kernel
theorem x76_194 {E : ME} {ls : MLs} {st : List MV} {g : MG} {μ : MU} {Q : Option MV → MG → MU → Prop} {l0 : Option MV} {v : Int} : Wp E 76 194 (l0 :: some (.inl v) :: ls) st g μ Q = Wp E 76 195 (l0 :: some (.inl v) :: ls) (.inl v :: st) g μ Q := Wp_nx k76_194 rfl
theorem k76_195 : mCode 76 195 = some (.bipush 16, 2) := by decide +kernel
theorem x76_195 {E : ME} {ls : MLs} {st : List MV} {g : MG} {μ : MU} {Q : Option MV → MG → MU → Prop} : Wp E 76 195 ls st g μ Q = Wp E 76 197 ls (.inl 16 :: st) g μ Q := Wp_nx k76_195 rfl
theorem k76_197 : mCode 76 197 = some (.if_icmp .ge 33, 3) := by decide +kernel
theorem x76_197 {E : ME} {ls : MLs} {st : List MV} {g : MG} {μ : MU} {Q : Option MV → MG → MU → Prop} {a b : Int} : Wp E 76 197 ls (.inl b :: .inl a :: st) g μ Q = ((b ≤ a → Wp E 76 230 ls st g μ Q) ∧ (a < b → Wp E 76 200 ls st g μ Q)) := Wp_cmp_ge k76_197 (by decide)
theorem k76_200 : mCode 76 200 = some (.aload_n 0, 1) := by decide +kernel
theorem x76_200 {E : ME} {ls : MLs} {st : List MV} {g : MG} {μ : MU} {Q : Option MV → MG → MU → Prop} {v : Nat ⊕ Nat} : Wp E 76 200 (some (.inr (.inr v)) :: ls) st g μ Q = Wp E 76 201 (some (.inr (.inr v)) :: ls) (.inr (.inr v) :: st) g μ Q := Wp_nx k76_200 rfl
theorem k76_201 : mCode 76 201 = some (.getfield 7, 3) := by decide +kernel
theorem x76_201 {E : ME} {ls : MLs} {st : List MV} {g : MG} {μ : MU} {Q : Option MV → MG → MU → Prop} {a : Nat} : Wp E 76 201 ls (.inr (.inr (.inl a)) :: st) g μ Q = ((mKd g a).1 = 6 ∧ Wp E 76 204 ls (mRv (mRf g a 1) :: st) g μ Q) := Wp_getR k76_201 f6_7 (by decide) (by decide)
theorem k76_204 : mCode 76 204 = some (.bipush 7, 2) := by decide +kernel
theorem x76_204 {E : ME} {ls : MLs} {st : List MV} {g : MG} {μ : MU} {Q : Option MV → MG → MU → Prop} : Wp E 76 204 ls st g μ Q = Wp E 76 206 ls (.inl 7 :: st) g μ Q := Wp_nx k76_204 rfl
theorem k76_206 : mCode 76 206 = some (.iload_n 1, 1) := by decide +kernel
theorem x76_206 {E : ME} {ls : MLs} {st : List MV} {g : MG} {μ : MU} {Q : Option MV → MG → MU → Prop} {l0 : Option MV} {v : Int} : Wp E 76 206 (l0 :: some (.inl v) :: ls) st g μ Q = Wp E 76 207 (l0 :: some (.inl v) :: ls) (.inl v :: st) g μ Q := Wp_nx k76_206 rfl
theorem k76_207 : mCode 76 207 = some (.iadd, 1) := by decide +kernel
theorem x76_207 {E : ME} {ls : MLs} {st : List MV} {g : MG} {μ : MU} {Q : Option MV → MG → MU → Prop} {a b : Int} : Wp E 76 207 ls (.inl b :: .inl a :: st) g μ Q = Wp E 76 208 ls (.inl (mWr (a + b)) :: st) g μ Q := Wp_nx k76_207 rfl
theorem k76_208 : mCode 76 208 = some (.iload_n 1, 1) := by decide +kernel
theorem x76_208 {E : ME} {ls : MLs} {st : List MV} {g : MG} {μ : MU} {Q : Option MV → MG → MU → Prop} {l0 : Option MV} {v : Int} : Wp E 76 208 (l0 :: some (.inl v) :: ls) st g μ Q = Wp E 76 209 (l0 :: some (.inl v) :: ls) (.inl v :: st) g μ Q := Wp_nx k76_208 rfl
theorem k76_209 : mCode 76 209 = some (.iconst 4, 1) := by decide +kernel
theorem x76_209 {E : ME} {ls : MLs} {st : List MV} {g : MG} {μ : MU} {Q : Option MV → MG → MU → Prop} : Wp E 76 209 ls st g μ Q = Wp E 76 210 ls (.inl 4 :: st) g μ Q := Wp_nx k76_209 rfl
theorem k76_210 : mCode 76 210 = some (.idiv, 1) := by decide +kernel
theorem x76_210 {E : ME} {ls : MLs} {st : List MV} {g : MG} {μ : MU} {Q : Option MV → MG → MU → Prop} {a b : Int} : Wp E 76 210 ls (.inl b :: .inl a :: st) g μ Q = (¬ b = 0 ∧ Wp E 76 211 ls (.inl (mWr (a.tdiv b)) :: st) g μ Q) := Wp_div (f := mIdiv) k76_210 (fun _ => rfl)
theorem k76_211 : mCode 76 211 = some (.iload_n 1, 1) := by decide +kernel
theorem x76_211 {E : ME} {ls : MLs} {st : List MV} {g : MG} {μ : MU} {Q : Option MV → MG → MU → Prop} {l0 : Option MV} {v : Int} : Wp E 76 211 (l0 :: some (.inl v) :: ls) st g μ Q = Wp E 76 212 (l0 :: some (.inl v) :: ls) (.inl v :: st) g μ Q := Wp_nx k76_211 rfl
theorem k76_212 : mCode 76 212 = some (.iconst 4, 1) := by decide +kernel
theorem x76_212 {E : ME} {ls : MLs} {st : List MV} {g : MG} {μ : MU} {Q : Option MV → MG → MU → Prop} : Wp E 76 212 ls st g μ Q = Wp E 76 213 ls (.inl 4 :: st) g μ Q := Wp_nx k76_212 rfl
theorem k76_213 : mCode 76 213 = some (.irem, 1) := by decide +kernel
theorem x76_213 {E : ME} {ls : MLs} {st : List MV} {g : MG} {μ : MU} {Q : Option MV → MG → MU → Prop} {a b : Int} : Wp E 76 213 ls (.inl b :: .inl a :: st) g μ Q = (¬ b = 0 ∧ Wp E 76 214 ls (.inl (a.tmod b) :: st) g μ Q) := Wp_div (f := mIrem) k76_213 (fun _ => rfl)
theorem k76_214 : mCode 76 214 = some (.if_icmp .ne 7, 3) := by decide +kernel
theorem x76_214 {E : ME} {ls : MLs} {st : List MV} {g : MG} {μ : MU} {Q : Option MV → MG → MU → Prop} {a b : Int} : Wp E 76 214 ls (.inl b :: .inl a :: st) g μ Q = ((¬ a = b → Wp E 76 221 ls st g μ Q) ∧ (a = b → Wp E 76 217 ls st g μ Q)) := Wp_cmp_ne k76_214 (by decide)
theorem k76_217 : mCode 76 217 = some (.iconst 0, 1) := by decide +kernel
theorem x76_217 {E : ME} {ls : MLs} {st : List MV} {g : MG} {μ : MU} {Q : Option MV → MG → MU → Prop} : Wp E 76 217 ls st g μ Q = Wp E 76 218 ls (.inl 0 :: st) g μ Q := Wp_nx k76_217 rfl
theorem k76_218 : mCode 76 218 = some (.goto 5, 3) := by decide +kernel
theorem x76_218 {E : ME} {ls : MLs} {st : List MV} {g : MG} {μ : MU} {Q : Option MV → MG → MU → Prop} : Wp E 76 218 ls st g μ Q = Wp E 76 223 ls st g μ Q := Wp_goto k76_218 (by decide)
theorem k76_221 : mCode 76 221 = some (.bipush 10, 2) := by decide +kernel
theorem x76_221 {E : ME} {ls : MLs} {st : List MV} {g : MG} {μ : MU} {Q : Option MV → MG → MU → Prop} : Wp E 76 221 ls st g μ Q = Wp E 76 223 ls (.inl 10 :: st) g μ Q := Wp_nx k76_221 rfl
theorem k76_223 : mCode 76 223 = some (.iastore, 1) := by decide +kernel
theorem x76_223 {E : ME} {ls : MLs} {st : List MV} {g : MG} {μ : MU} {Q : Option MV → MG → MU → Prop} {a : Nat} {j v : Int} : Wp E 76 223 ls (.inl v :: .inl j :: .inr (.inr (.inl a)) :: st) g μ Q = (((mKd g a).1 = 10 ∧ 0 ≤ j ∧ j < (mKd g a).2) ∧ Wp E 76 224 ls st g (mUp μ a j.toNat v) Q) := Wp_iast k76_223
theorem k76_224 : mCode 76 224 = some (.iinc 1 1, 3) := by decide +kernel
theorem x76_224 {E : ME} {ls : MLs} {st : List MV} {g : MG} {μ : MU} {Q : Option MV → MG → MU → Prop} {l0 : Option MV} {v : Int} : Wp E 76 224 (l0 :: some (.inl v) :: ls) st g μ Q = (mNl (some l0) = true ∧ Wp E 76 227 (l0 :: some (.inl (mWr (v + 1))) :: ls) st g μ Q) := Wp_inc k76_224 rfl rfl rfl
theorem k76_227 : mCode 76 227 = some (.goto (-33), 3) := by decide +kernel
theorem x76_227 {E : ME} {ls : MLs} {st : List MV} {g : MG} {μ : MU} {Q : Option MV → MG → MU → Prop} : Wp E 76 227 ls st g μ Q = Wp E 76 194 ls st g μ Q := Wp_goto k76_227 (by decide)
theorem k76_230 : mCode 76 230 = some (.return_, 1) := by decide +kernel
theorem x76_230 {E : ME} {ls : MLs} {g : MG} {μ : MU} {Q : Option MV → MG → MU → Prop} : Wp E 76 230 ls [] g μ Q = Q none g μ := Wp_retV k76_230 (by decide)
theorem k77_0 : mCode 77 0 = some (.iload_n 0, 1) := by decide +kernel
theorem x77_0 {E : ME} {ls : MLs} {st : List MV} {g : MG} {μ : MU} {Q : Option MV → MG → MU → Prop} {v : Int} : Wp E 77 0 (some (.inl v) :: ls) st g μ Q = Wp E 77 1 (some (.inl v) :: ls) (.inl v :: st) g μ Q := Wp_nx k77_0 rfl
theorem k77_1 : mCode 77 1 = some (.iload_n 1, 1) := by decide +kernel
theorem x77_1 {E : ME} {ls : MLs} {st : List MV} {g : MG} {μ : MU} {Q : Option MV → MG → MU → Prop} {l0 : Option MV} {v : Int} : Wp E 77 1 (l0 :: some (.inl v) :: ls) st g μ Q = Wp E 77 2 (l0 :: some (.inl v) :: ls) (.inl v :: st) g μ Q := Wp_nx k77_1 rfl
theorem k77_2 : mCode 77 2 = some (.if_icmp .lt 12, 3) := by decide +kernel
theorem x77_2 {E : ME} {ls : MLs} {st : List MV} {g : MG} {μ : MU} {Q : Option MV → MG → MU → Prop} {a b : Int} : Wp E 77 2 ls (.inl b :: .inl a :: st) g μ Q = ((a < b → Wp E 77 14 ls st g μ Q) ∧ (b ≤ a → Wp E 77 5 ls st g μ Q)) := Wp_cmp_lt k77_2 (by decide)
theorem k77_5 : mCode 77 5 = some (.iload_n 0, 1) := by decide +kernel
theorem x77_5 {E : ME} {ls : MLs} {st : List MV} {g : MG} {μ : MU} {Q : Option MV → MG → MU → Prop} {v : Int} : Wp E 77 5 (some (.inl v) :: ls) st g μ Q = Wp E 77 6 (some (.inl v) :: ls) (.inl v :: st) g μ Q := Wp_nx k77_5 rfl
theorem k77_6 : mCode 77 6 = some (.iload_n 2, 1) := by decide +kernel
theorem x77_6 {E : ME} {ls : MLs} {st : List MV} {g : MG} {μ : MU} {Q : Option MV → MG → MU → Prop} {l0 l1 : Option MV} {v : Int} : Wp E 77 6 (l0 :: l1 :: some (.inl v) :: ls) st g μ Q = Wp E 77 7 (l0 :: l1 :: some (.inl v) :: ls) (.inl v :: st) g μ Q := Wp_nx k77_6 rfl
theorem k77_7 : mCode 77 7 = some (.if_icmp .gt 7, 3) := by decide +kernel
theorem x77_7 {E : ME} {ls : MLs} {st : List MV} {g : MG} {μ : MU} {Q : Option MV → MG → MU → Prop} {a b : Int} : Wp E 77 7 ls (.inl b :: .inl a :: st) g μ Q = ((b < a → Wp E 77 14 ls st g μ Q) ∧ (a ≤ b → Wp E 77 10 ls st g μ Q)) := Wp_cmp_gt k77_7 (by decide)
theorem k77_10 : mCode 77 10 = some (.iconst 1, 1) := by decide +kernel
theorem x77_10 {E : ME} {ls : MLs} {st : List MV} {g : MG} {μ : MU} {Q : Option MV → MG → MU → Prop} : Wp E 77 10 ls st g μ Q = Wp E 77 11 ls (.inl 1 :: st) g μ Q := Wp_nx k77_10 rfl
theorem k77_11 : mCode 77 11 = some (.goto 4, 3) := by decide +kernel
theorem x77_11 {E : ME} {ls : MLs} {st : List MV} {g : MG} {μ : MU} {Q : Option MV → MG → MU → Prop} : Wp E 77 11 ls st g μ Q = Wp E 77 15 ls st g μ Q := Wp_goto k77_11 (by decide)
theorem k77_14 : mCode 77 14 = some (.iconst 0, 1) := by decide +kernel
theorem x77_14 {E : ME} {ls : MLs} {st : List MV} {g : MG} {μ : MU} {Q : Option MV → MG → MU → Prop} : Wp E 77 14 ls st g μ Q = Wp E 77 15 ls (.inl 0 :: st) g μ Q := Wp_nx k77_14 rfl
theorem k77_15 : mCode 77 15 = some (.ireturn, 1) := by decide +kernel
theorem x77_15 {E : ME} {ls : MLs} {g : MG} {μ : MU} {Q : Option MV → MG → MU → Prop} {v : Int} : Wp E 77 15 ls [.inl v] g μ Q = ((v = 0 ∨ v = 1) ∧ Q (some (.inl v)) g μ) := Wp_retZ k77_15 (by decide)
theorem k78_0 : mCode 78 0 = some (.aload_n 0, 1) := by decide +kernel
theorem x78_0 {E : ME} {ls : MLs} {st : List MV} {g : MG} {μ : MU} {Q : Option MV → MG → MU → Prop} {v : Nat ⊕ Nat} : Wp E 78 0 (some (.inr (.inr v)) :: ls) st g μ Q = Wp E 78 1 (some (.inr (.inr v)) :: ls) (.inr (.inr v) :: st) g μ Q := Wp_nx k78_0 rfl
theorem k78_1 : mCode 78 1 = some (.getfield 7, 3) := by decide +kernel
theorem x78_1 {E : ME} {ls : MLs} {st : List MV} {g : MG} {μ : MU} {Q : Option MV → MG → MU → Prop} {a : Nat} : Wp E 78 1 ls (.inr (.inr (.inl a)) :: st) g μ Q = ((mKd g a).1 = 6 ∧ Wp E 78 4 ls (mRv (mRf g a 1) :: st) g μ Q) := Wp_getR k78_1 f6_7 (by decide) (by decide)
theorem k78_4 : mCode 78 4 = some (.bipush 23, 2) := by decide +kernel
theorem x78_4 {E : ME} {ls : MLs} {st : List MV} {g : MG} {μ : MU} {Q : Option MV → MG → MU → Prop} : Wp E 78 4 ls st g μ Q = Wp E 78 6 ls (.inl 23 :: st) g μ Q := Wp_nx k78_4 rfl
theorem k78_6 : mCode 78 6 = some (.bipush 9, 2) := by decide +kernel
theorem x78_6 {E : ME} {ls : MLs} {st : List MV} {g : MG} {μ : MU} {Q : Option MV → MG → MU → Prop} : Wp E 78 6 ls st g μ Q = Wp E 78 8 ls (.inl 9 :: st) g μ Q := Wp_nx k78_6 rfl
theorem k78_8 : mCode 78 8 = some (.iload_n 1, 1) := by decide +kernel
theorem x78_8 {E : ME} {ls : MLs} {st : List MV} {g : MG} {μ : MU} {Q : Option MV → MG → MU → Prop} {l0 : Option MV} {v : Int} : Wp E 78 8 (l0 :: some (.inl v) :: ls) st g μ Q = Wp E 78 9 (l0 :: some (.inl v) :: ls) (.inl v :: st) g μ Q := Wp_nx k78_8 rfl
theorem k78_9 : mCode 78 9 = some (.imul, 1) := by decide +kernel
theorem x78_9 {E : ME} {ls : MLs} {st : List MV} {g : MG} {μ : MU} {Q : Option MV → MG → MU → Prop} {a b : Int} : Wp E 78 9 ls (.inl b :: .inl a :: st) g μ Q = Wp E 78 10 ls (.inl (mWr (a * b)) :: st) g μ Q := Wp_nx k78_9 rfl
theorem k78_10 : mCode 78 10 = some (.iadd, 1) := by decide +kernel
theorem x78_10 {E : ME} {ls : MLs} {st : List MV} {g : MG} {μ : MU} {Q : Option MV → MG → MU → Prop} {a b : Int} : Wp E 78 10 ls (.inl b :: .inl a :: st) g μ Q = Wp E 78 11 ls (.inl (mWr (a + b)) :: st) g μ Q := Wp_nx k78_10 rfl
theorem k78_11 : mCode 78 11 = some (.iload_n 2, 1) := by decide +kernel
theorem x78_11 {E : ME} {ls : MLs} {st : List MV} {g : MG} {μ : MU} {Q : Option MV → MG → MU → Prop} {l0 l1 : Option MV} {v : Int} : Wp E 78 11 (l0 :: l1 :: some (.inl v) :: ls) st g μ Q = Wp E 78 12 (l0 :: l1 :: some (.inl v) :: ls) (.inl v :: st) g μ Q := Wp_nx k78_11 rfl
theorem k78_12 : mCode 78 12 = some (.iadd, 1) := by decide +kernel
theorem x78_12 {E : ME} {ls : MLs} {st : List MV} {g : MG} {μ : MU} {Q : Option MV → MG → MU → Prop} {a b : Int} : Wp E 78 12 ls (.inl b :: .inl a :: st) g μ Q = Wp E 78 13 ls (.inl (mWr (a + b)) :: st) g μ Q := Wp_nx k78_12 rfl
theorem k78_13 : mCode 78 13 = some (.iaload, 1) := by decide +kernel
theorem x78_13 {E : ME} {ls : MLs} {st : List MV} {g : MG} {μ : MU} {Q : Option MV → MG → MU → Prop} {a : Nat} {j : Int} : Wp E 78 13 ls (.inl j :: .inr (.inr (.inl a)) :: st) g μ Q = (((mKd g a).1 = 10 ∧ 0 ≤ j ∧ j < (mKd g a).2) ∧ Wp E 78 14 ls (.inl (μ a j.toNat) :: st) g μ Q) := Wp_ald k78_13 (fun _ => rfl)
theorem k78_14 : mCode 78 14 = some (.ireturn, 1) := by decide +kernel
theorem x78_14 {E : ME} {ls : MLs} {g : MG} {μ : MU} {Q : Option MV → MG → MU → Prop} {v : Int} : Wp E 78 14 ls [.inl v] g μ Q = Q (some (.inl v)) g μ := Wp_retI k78_14 (by decide)
theorem k79_0 : mCode 79 0 = some (.aload_n 0, 1) := by decide +kernel
theorem x79_0 {E : ME} {ls : MLs} {st : List MV} {g : MG} {μ : MU} {Q : Option MV → MG → MU → Prop} {v : Nat ⊕ Nat} : Wp E 79 0 (some (.inr (.inr v)) :: ls) st g μ Q = Wp E 79 1 (some (.inr (.inr v)) :: ls) (.inr (.inr v) :: st) g μ Q := Wp_nx k79_0 rfl
theorem k79_1 : mCode 79 1 = some (.getfield 7, 3) := by decide +kernel
theorem x79_1 {E : ME} {ls : MLs} {st : List MV} {g : MG} {μ : MU} {Q : Option MV → MG → MU → Prop} {a : Nat} : Wp E 79 1 ls (.inr (.inr (.inl a)) :: st) g μ Q = ((mKd g a).1 = 6 ∧ Wp E 79 4 ls (mRv (mRf g a 1) :: st) g μ Q) := Wp_getR k79_1 f6_7 (by decide) (by decide)
theorem k79_4 : mCode 79 4 = some (.bipush 68, 2) := by decide +kernel
theorem x79_4 {E : ME} {ls : MLs} {st : List MV} {g : MG} {μ : MU} {Q : Option MV → MG → MU → Prop} : Wp E 79 4 ls st g μ Q = Wp E 79 6 ls (.inl 68 :: st) g μ Q := Wp_nx k79_4 rfl
theorem k79_6 : mCode 79 6 = some (.iconst 4, 1) := by decide +kernel
theorem x79_6 {E : ME} {ls : MLs} {st : List MV} {g : MG} {μ : MU} {Q : Option MV → MG → MU → Prop} : Wp E 79 6 ls st g μ Q = Wp E 79 7 ls (.inl 4 :: st) g μ Q := Wp_nx k79_6 rfl
theorem k79_7 : mCode 79 7 = some (.iload_n 1, 1) := by decide +kernel
theorem x79_7 {E : ME} {ls : MLs} {st : List MV} {g : MG} {μ : MU} {Q : Option MV → MG → MU → Prop} {l0 : Option MV} {v : Int} : Wp E 79 7 (l0 :: some (.inl v) :: ls) st g μ Q = Wp E 79 8 (l0 :: some (.inl v) :: ls) (.inl v :: st) g μ Q := Wp_nx k79_7 rfl
theorem k79_8 : mCode 79 8 = some (.imul, 1) := by decide +kernel
theorem x79_8 {E : ME} {ls : MLs} {st : List MV} {g : MG} {μ : MU} {Q : Option MV → MG → MU → Prop} {a b : Int} : Wp E 79 8 ls (.inl b :: .inl a :: st) g μ Q = Wp E 79 9 ls (.inl (mWr (a * b)) :: st) g μ Q := Wp_nx k79_8 rfl
theorem k79_9 : mCode 79 9 = some (.iadd, 1) := by decide +kernel
theorem x79_9 {E : ME} {ls : MLs} {st : List MV} {g : MG} {μ : MU} {Q : Option MV → MG → MU → Prop} {a b : Int} : Wp E 79 9 ls (.inl b :: .inl a :: st) g μ Q = Wp E 79 10 ls (.inl (mWr (a + b)) :: st) g μ Q := Wp_nx k79_9 rfl
theorem k79_10 : mCode 79 10 = some (.iload_n 2, 1) := by decide +kernel
theorem x79_10 {E : ME} {ls : MLs} {st : List MV} {g : MG} {μ : MU} {Q : Option MV → MG → MU → Prop} {l0 l1 : Option MV} {v : Int} : Wp E 79 10 (l0 :: l1 :: some (.inl v) :: ls) st g μ Q = Wp E 79 11 (l0 :: l1 :: some (.inl v) :: ls) (.inl v :: st) g μ Q := Wp_nx k79_10 rfl
theorem k79_11 : mCode 79 11 = some (.iadd, 1) := by decide +kernel
theorem x79_11 {E : ME} {ls : MLs} {st : List MV} {g : MG} {μ : MU} {Q : Option MV → MG → MU → Prop} {a b : Int} : Wp E 79 11 ls (.inl b :: .inl a :: st) g μ Q = Wp E 79 12 ls (.inl (mWr (a + b)) :: st) g μ Q := Wp_nx k79_11 rfl
theorem k79_12 : mCode 79 12 = some (.iaload, 1) := by decide +kernel
theorem x79_12 {E : ME} {ls : MLs} {st : List MV} {g : MG} {μ : MU} {Q : Option MV → MG → MU → Prop} {a : Nat} {j : Int} : Wp E 79 12 ls (.inl j :: .inr (.inr (.inl a)) :: st) g μ Q = (((mKd g a).1 = 10 ∧ 0 ≤ j ∧ j < (mKd g a).2) ∧ Wp E 79 13 ls (.inl (μ a j.toNat) :: st) g μ Q) := Wp_ald k79_12 (fun _ => rfl)
theorem k79_13 : mCode 79 13 = some (.ireturn, 1) := by decide +kernel
theorem x79_13 {E : ME} {ls : MLs} {g : MG} {μ : MU} {Q : Option MV → MG → MU → Prop} {v : Int} : Wp E 79 13 ls [.inl v] g μ Q = Q (some (.inl v)) g μ := Wp_retI k79_13 (by decide)
theorem k80_0 : mCode 80 0 = some (.iload_n 1, 1) := by decide +kernel
theorem x80_0 {E : ME} {ls : MLs} {st : List MV} {g : MG} {μ : MU} {Q : Option MV → MG → MU → Prop} {l0 : Option MV} {v : Int} : Wp E 80 0 (l0 :: some (.inl v) :: ls) st g μ Q = Wp E 80 1 (l0 :: some (.inl v) :: ls) (.inl v :: st) g μ Q := Wp_nx k80_0 rfl
theorem k80_1 : mCode 80 1 = some (.iconst 0, 1) := by decide +kernel
theorem x80_1 {E : ME} {ls : MLs} {st : List MV} {g : MG} {μ : MU} {Q : Option MV → MG → MU → Prop} : Wp E 80 1 ls st g μ Q = Wp E 80 2 ls (.inl 0 :: st) g μ Q := Wp_nx k80_1 rfl
theorem k80_2 : mCode 80 2 = some (.aload_n 0, 1) := by decide +kernel
theorem x80_2 {E : ME} {ls : MLs} {st : List MV} {g : MG} {μ : MU} {Q : Option MV → MG → MU → Prop} {v : Nat ⊕ Nat} : Wp E 80 2 (some (.inr (.inr v)) :: ls) st g μ Q = Wp E 80 3 (some (.inr (.inr v)) :: ls) (.inr (.inr v) :: st) g μ Q := Wp_nx k80_2 rfl
theorem k80_3 : mCode 80 3 = some (.getfield 7, 3) := by decide +kernel
theorem x80_3 {E : ME} {ls : MLs} {st : List MV} {g : MG} {μ : MU} {Q : Option MV → MG → MU → Prop} {a : Nat} : Wp E 80 3 ls (.inr (.inr (.inl a)) :: st) g μ Q = ((mKd g a).1 = 6 ∧ Wp E 80 6 ls (mRv (mRf g a 1) :: st) g μ Q) := Wp_getR k80_3 f6_7 (by decide) (by decide)
theorem k80_6 : mCode 80 6 = some (.iconst 5, 1) := by decide +kernel
theorem x80_6 {E : ME} {ls : MLs} {st : List MV} {g : MG} {μ : MU} {Q : Option MV → MG → MU → Prop} : Wp E 80 6 ls st g μ Q = Wp E 80 7 ls (.inl 5 :: st) g μ Q := Wp_nx k80_6 rfl
theorem k80_7 : mCode 80 7 = some (.iaload, 1) := by decide +kernel
theorem x80_7 {E : ME} {ls : MLs} {st : List MV} {g : MG} {μ : MU} {Q : Option MV → MG → MU → Prop} {a : Nat} {j : Int} : Wp E 80 7 ls (.inl j :: .inr (.inr (.inl a)) :: st) g μ Q = (((mKd g a).1 = 10 ∧ 0 ≤ j ∧ j < (mKd g a).2) ∧ Wp E 80 8 ls (.inl (μ a j.toNat) :: st) g μ Q) := Wp_ald k80_7 (fun _ => rfl)
theorem k80_8 : mCode 80 8 = some (.iconst 1, 1) := by decide +kernel
theorem x80_8 {E : ME} {ls : MLs} {st : List MV} {g : MG} {μ : MU} {Q : Option MV → MG → MU → Prop} : Wp E 80 8 ls st g μ Q = Wp E 80 9 ls (.inl 1 :: st) g μ Q := Wp_nx k80_8 rfl
theorem k80_9 : mCode 80 9 = some (.isub, 1) := by decide +kernel
theorem x80_9 {E : ME} {ls : MLs} {st : List MV} {g : MG} {μ : MU} {Q : Option MV → MG → MU → Prop} {a b : Int} : Wp E 80 9 ls (.inl b :: .inl a :: st) g μ Q = Wp E 80 10 ls (.inl (mWr (a - b)) :: st) g μ Q := Wp_nx k80_9 rfl
theorem k80_10 : mCode 80 10 = some (.invokestatic 69, 3) := by decide +kernel
theorem x80_10 {E : ME} {ls : MLs} {st : List MV} {g : MG} {μ : MU} {Q : Option MV → MG → MU → Prop} {a0 : Int} {a1 : Int} {a2 : Int} : Wp E 80 10 ls (.inl a2 :: .inl a1 :: .inl a0 :: st) g μ Q = (st.length ≤ 4 ∧ Wp E 77 0 [some (.inl a0), some (.inl a1), some (.inl a2)] [] g μ (fun r g' μ' => (g'.1 = g.1 ∧ g'.2.1 = g.2.1) ∧ Wp E 80 13 ls (mPush r st) g' μ' Q)) := Wp_cS k80_10 m6_69 (by decide) (as := [.inl a0, .inl a1, .inl a2]) rfl rfl rfl ⟨Nat.le_of_ble_eq_true rfl, by decide⟩
theorem k80_13 : mCode 80 13 = some (.ireturn, 1) := by decide +kernel
theorem x80_13 {E : ME} {ls : MLs} {g : MG} {μ : MU} {Q : Option MV → MG → MU → Prop} {v : Int} : Wp E 80 13 ls [.inl v] g μ Q = ((v = 0 ∨ v = 1) ∧ Q (some (.inl v)) g μ) := Wp_retZ k80_13 (by decide)
theorem k81_0 : mCode 81 0 = some (.iload_n 1, 1) := by decide +kernel
theorem x81_0 {E : ME} {ls : MLs} {st : List MV} {g : MG} {μ : MU} {Q : Option MV → MG → MU → Prop} {l0 : Option MV} {v : Int} : Wp E 81 0 (l0 :: some (.inl v) :: ls) st g μ Q = Wp E 81 1 (l0 :: some (.inl v) :: ls) (.inl v :: st) g μ Q := Wp_nx k81_0 rfl
theorem k81_1 : mCode 81 1 = some (.iconst 0, 1) := by decide +kernel
theorem x81_1 {E : ME} {ls : MLs} {st : List MV} {g : MG} {μ : MU} {Q : Option MV → MG → MU → Prop} : Wp E 81 1 ls st g μ Q = Wp E 81 2 ls (.inl 0 :: st) g μ Q := Wp_nx k81_1 rfl
theorem k81_2 : mCode 81 2 = some (.aload_n 0, 1) := by decide +kernel
theorem x81_2 {E : ME} {ls : MLs} {st : List MV} {g : MG} {μ : MU} {Q : Option MV → MG → MU → Prop} {v : Nat ⊕ Nat} : Wp E 81 2 (some (.inr (.inr v)) :: ls) st g μ Q = Wp E 81 3 (some (.inr (.inr v)) :: ls) (.inr (.inr v) :: st) g μ Q := Wp_nx k81_2 rfl
theorem k81_3 : mCode 81 3 = some (.getfield 7, 3) := by decide +kernel
theorem x81_3 {E : ME} {ls : MLs} {st : List MV} {g : MG} {μ : MU} {Q : Option MV → MG → MU → Prop} {a : Nat} : Wp E 81 3 ls (.inr (.inr (.inl a)) :: st) g μ Q = ((mKd g a).1 = 6 ∧ Wp E 81 6 ls (mRv (mRf g a 1) :: st) g μ Q) := Wp_getR k81_3 f6_7 (by decide) (by decide)
theorem k81_6 : mCode 81 6 = some (.bipush 6, 2) := by decide +kernel
theorem x81_6 {E : ME} {ls : MLs} {st : List MV} {g : MG} {μ : MU} {Q : Option MV → MG → MU → Prop} : Wp E 81 6 ls st g μ Q = Wp E 81 8 ls (.inl 6 :: st) g μ Q := Wp_nx k81_6 rfl
theorem k81_8 : mCode 81 8 = some (.iaload, 1) := by decide +kernel
theorem x81_8 {E : ME} {ls : MLs} {st : List MV} {g : MG} {μ : MU} {Q : Option MV → MG → MU → Prop} {a : Nat} {j : Int} : Wp E 81 8 ls (.inl j :: .inr (.inr (.inl a)) :: st) g μ Q = (((mKd g a).1 = 10 ∧ 0 ≤ j ∧ j < (mKd g a).2) ∧ Wp E 81 9 ls (.inl (μ a j.toNat) :: st) g μ Q) := Wp_ald k81_8 (fun _ => rfl)
theorem k81_9 : mCode 81 9 = some (.iconst 1, 1) := by decide +kernel
theorem x81_9 {E : ME} {ls : MLs} {st : List MV} {g : MG} {μ : MU} {Q : Option MV → MG → MU → Prop} : Wp E 81 9 ls st g μ Q = Wp E 81 10 ls (.inl 1 :: st) g μ Q := Wp_nx k81_9 rfl
theorem k81_10 : mCode 81 10 = some (.isub, 1) := by decide +kernel
theorem x81_10 {E : ME} {ls : MLs} {st : List MV} {g : MG} {μ : MU} {Q : Option MV → MG → MU → Prop} {a b : Int} : Wp E 81 10 ls (.inl b :: .inl a :: st) g μ Q = Wp E 81 11 ls (.inl (mWr (a - b)) :: st) g μ Q := Wp_nx k81_10 rfl
theorem k81_11 : mCode 81 11 = some (.invokestatic 69, 3) := by decide +kernel
theorem x81_11 {E : ME} {ls : MLs} {st : List MV} {g : MG} {μ : MU} {Q : Option MV → MG → MU → Prop} {a0 : Int} {a1 : Int} {a2 : Int} : Wp E 81 11 ls (.inl a2 :: .inl a1 :: .inl a0 :: st) g μ Q = (st.length ≤ 4 ∧ Wp E 77 0 [some (.inl a0), some (.inl a1), some (.inl a2)] [] g μ (fun r g' μ' => (g'.1 = g.1 ∧ g'.2.1 = g.2.1) ∧ Wp E 81 14 ls (mPush r st) g' μ' Q)) := Wp_cS k81_11 m6_69 (by decide) (as := [.inl a0, .inl a1, .inl a2]) rfl rfl rfl ⟨Nat.le_of_ble_eq_true rfl, by decide⟩
theorem k81_14 : mCode 81 14 = some (.ireturn, 1) := by decide +kernel
theorem x81_14 {E : ME} {ls : MLs} {g : MG} {μ : MU} {Q : Option MV → MG → MU → Prop} {v : Int} : Wp E 81 14 ls [.inl v] g μ Q = ((v = 0 ∨ v = 1) ∧ Q (some (.inl v)) g μ) := Wp_retZ k81_14 (by decide)
theorem k82_0 : mCode 82 0 = some (.iload_n 0, 1) := by decide +kernel
theorem x82_0 {E : ME} {ls : MLs} {st : List MV} {g : MG} {μ : MU} {Q : Option MV → MG → MU → Prop} {v : Int} : Wp E 82 0 (some (.inl v) :: ls) st g μ Q = Wp E 82 1 (some (.inl v) :: ls) (.inl v :: st) g μ Q := Wp_nx k82_0 rfl
theorem k82_1 : mCode 82 1 = some (.iconst 0, 1) := by decide +kernel
theorem x82_1 {E : ME} {ls : MLs} {st : List MV} {g : MG} {μ : MU} {Q : Option MV → MG → MU → Prop} : Wp E 82 1 ls st g μ Q = Wp E 82 2 ls (.inl 0 :: st) g μ Q := Wp_nx k82_1 rfl
theorem k82_2 : mCode 82 2 = some (.iconst 3, 1) := by decide +kernel
theorem x82_2 {E : ME} {ls : MLs} {st : List MV} {g : MG} {μ : MU} {Q : Option MV → MG → MU → Prop} : Wp E 82 2 ls st g μ Q = Wp E 82 3 ls (.inl 3 :: st) g μ Q := Wp_nx k82_2 rfl
theorem k82_3 : mCode 82 3 = some (.invokestatic 69, 3) := by decide +kernel
theorem x82_3 {E : ME} {ls : MLs} {st : List MV} {g : MG} {μ : MU} {Q : Option MV → MG → MU → Prop} {a0 : Int} {a1 : Int} {a2 : Int} : Wp E 82 3 ls (.inl a2 :: .inl a1 :: .inl a0 :: st) g μ Q = (st.length ≤ 4 ∧ Wp E 77 0 [some (.inl a0), some (.inl a1), some (.inl a2)] [] g μ (fun r g' μ' => (g'.1 = g.1 ∧ g'.2.1 = g.2.1) ∧ Wp E 82 6 ls (mPush r st) g' μ' Q)) := Wp_cS k82_3 m6_69 (by decide) (as := [.inl a0, .inl a1, .inl a2]) rfl rfl rfl ⟨Nat.le_of_ble_eq_true rfl, by decide⟩
theorem k82_6 : mCode 82 6 = some (.ireturn, 1) := by decide +kernel
theorem x82_6 {E : ME} {ls : MLs} {g : MG} {μ : MU} {Q : Option MV → MG → MU → Prop} {v : Int} : Wp E 82 6 ls [.inl v] g μ Q = ((v = 0 ∨ v = 1) ∧ Q (some (.inl v)) g μ) := Wp_retZ k82_6 (by decide)
theorem k83_0 : mCode 83 0 = some (.aload_n 0, 1) := by decide +kernel
theorem x83_0 {E : ME} {ls : MLs} {st : List MV} {g : MG} {μ : MU} {Q : Option MV → MG → MU → Prop} {v : Nat ⊕ Nat} : Wp E 83 0 (some (.inr (.inr v)) :: ls) st g μ Q = Wp E 83 1 (some (.inr (.inr v)) :: ls) (.inr (.inr v) :: st) g μ Q := Wp_nx k83_0 rfl
theorem k83_1 : mCode 83 1 = some (.iload_n 1, 1) := by decide +kernel
theorem x83_1 {E : ME} {ls : MLs} {st : List MV} {g : MG} {μ : MU} {Q : Option MV → MG → MU → Prop} {l0 : Option MV} {v : Int} : Wp E 83 1 (l0 :: some (.inl v) :: ls) st g μ Q = Wp E 83 2 (l0 :: some (.inl v) :: ls) (.inl v :: st) g μ Q := Wp_nx k83_1 rfl
theorem k83_2 : mCode 83 2 = some (.invokevirtual 73, 3) := by decide +kernel
theorem x83_2 {E : ME} {ls : MLs} {st : List MV} {g : MG} {μ : MU} {Q : Option MV → MG → MU → Prop} {r : Nat} {a0 : Int} : Wp E 83 2 ls (.inl a0 :: .inr (.inr (.inl r)) :: st) g μ Q = ((st.length ≤ 4 ∧ ((mKd g r).1 == 6) = true) ∧ Wp E 80 0 [some (.inr (.inr (.inl r))), some (.inl a0)] [] g μ (fun r g' μ' => (g'.1 = g.1 ∧ g'.2.1 = g.2.1) ∧ Wp E 83 5 ls (mPush r st) g' μ' Q)) := Wp_cV k83_2 m6_73 (by decide) (as := [.inr (.inr (.inl r)), .inl a0]) rfl rfl rfl ⟨Nat.le_of_ble_eq_true rfl, by decide⟩
theorem k83_5 : mCode 83 5 = some (.ifCond .eq 23, 3) := by decide +kernel
theorem x83_5 {E : ME} {ls : MLs} {st : List MV} {g : MG} {μ : MU} {Q : Option MV → MG → MU → Prop} {a : Int} : Wp E 83 5 ls (.inl a :: st) g μ Q = ((a = 0 → Wp E 83 28 ls st g μ Q) ∧ (¬ a = 0 → Wp E 83 8 ls st g μ Q)) := Wp_if_eq k83_5 (by decide)
theorem k83_8 : mCode 83 8 = some (.iload_n 2, 1) := by decide +kernel
theorem x83_8 {E : ME} {ls : MLs} {st : List MV} {g : MG} {μ : MU} {Q : Option MV → MG → MU → Prop} {l0 l1 : Option MV} {v : Int} : Wp E 83 8 (l0 :: l1 :: some (.inl v) :: ls) st g μ Q = Wp E 83 9 (l0 :: l1 :: some (.inl v) :: ls) (.inl v :: st) g μ Q := Wp_nx k83_8 rfl
theorem k83_9 : mCode 83 9 = some (.iconst 0, 1) := by decide +kernel
theorem x83_9 {E : ME} {ls : MLs} {st : List MV} {g : MG} {μ : MU} {Q : Option MV → MG → MU → Prop} : Wp E 83 9 ls st g μ Q = Wp E 83 10 ls (.inl 0 :: st) g μ Q := Wp_nx k83_9 rfl
theorem k83_10 : mCode 83 10 = some (.aload_n 0, 1) := by decide +kernel
theorem x83_10 {E : ME} {ls : MLs} {st : List MV} {g : MG} {μ : MU} {Q : Option MV → MG → MU → Prop} {v : Nat ⊕ Nat} : Wp E 83 10 (some (.inr (.inr v)) :: ls) st g μ Q = Wp E 83 11 (some (.inr (.inr v)) :: ls) (.inr (.inr v) :: st) g μ Q := Wp_nx k83_10 rfl
theorem k83_11 : mCode 83 11 = some (.iload_n 1, 1) := by decide +kernel
theorem x83_11 {E : ME} {ls : MLs} {st : List MV} {g : MG} {μ : MU} {Q : Option MV → MG → MU → Prop} {l0 : Option MV} {v : Int} : Wp E 83 11 (l0 :: some (.inl v) :: ls) st g μ Q = Wp E 83 12 (l0 :: some (.inl v) :: ls) (.inl v :: st) g μ Q := Wp_nx k83_11 rfl
theorem k83_12 : mCode 83 12 = some (.iconst 0, 1) := by decide +kernel
theorem x83_12 {E : ME} {ls : MLs} {st : List MV} {g : MG} {μ : MU} {Q : Option MV → MG → MU → Prop} : Wp E 83 12 ls st g μ Q = Wp E 83 13 ls (.inl 0 :: st) g μ Q := Wp_nx k83_12 rfl
theorem k83_13 : mCode 83 13 = some (.invokevirtual 77, 3) := by decide +kernel
theorem x83_13 {E : ME} {ls : MLs} {st : List MV} {g : MG} {μ : MU} {Q : Option MV → MG → MU → Prop} {r : Nat} {a0 : Int} {a1 : Int} : Wp E 83 13 ls (.inl a1 :: .inl a0 :: .inr (.inr (.inl r)) :: st) g μ Q = ((st.length ≤ 4 ∧ ((mKd g r).1 == 6) = true) ∧ Wp E 78 0 [some (.inr (.inr (.inl r))), some (.inl a0), some (.inl a1)] [] g μ (fun r g' μ' => (g'.1 = g.1 ∧ g'.2.1 = g.2.1) ∧ Wp E 83 16 ls (mPush r st) g' μ' Q)) := Wp_cV k83_13 m6_77 (by decide) (as := [.inr (.inr (.inl r)), .inl a0, .inl a1]) rfl rfl rfl ⟨Nat.le_of_ble_eq_true rfl, by decide⟩
theorem k83_16 : mCode 83 16 = some (.iconst 1, 1) := by decide +kernel
theorem x83_16 {E : ME} {ls : MLs} {st : List MV} {g : MG} {μ : MU} {Q : Option MV → MG → MU → Prop} : Wp E 83 16 ls st g μ Q = Wp E 83 17 ls (.inl 1 :: st) g μ Q := Wp_nx k83_16 rfl
theorem k83_17 : mCode 83 17 = some (.isub, 1) := by decide +kernel
theorem x83_17 {E : ME} {ls : MLs} {st : List MV} {g : MG} {μ : MU} {Q : Option MV → MG → MU → Prop} {a b : Int} : Wp E 83 17 ls (.inl b :: .inl a :: st) g μ Q = Wp E 83 18 ls (.inl (mWr (a - b)) :: st) g μ Q := Wp_nx k83_17 rfl
theorem k83_18 : mCode 83 18 = some (.invokestatic 69, 3) := by decide +kernel
theorem x83_18 {E : ME} {ls : MLs} {st : List MV} {g : MG} {μ : MU} {Q : Option MV → MG → MU → Prop} {a0 : Int} {a1 : Int} {a2 : Int} : Wp E 83 18 ls (.inl a2 :: .inl a1 :: .inl a0 :: st) g μ Q = (st.length ≤ 4 ∧ Wp E 77 0 [some (.inl a0), some (.inl a1), some (.inl a2)] [] g μ (fun r g' μ' => (g'.1 = g.1 ∧ g'.2.1 = g.2.1) ∧ Wp E 83 21 ls (mPush r st) g' μ' Q)) := Wp_cS k83_18 m6_69 (by decide) (as := [.inl a0, .inl a1, .inl a2]) rfl rfl rfl ⟨Nat.le_of_ble_eq_true rfl, by decide⟩
theorem k83_21 : mCode 83 21 = some (.ifCond .eq 7, 3) := by decide +kernel
theorem x83_21 {E : ME} {ls : MLs} {st : List MV} {g : MG} {μ : MU} {Q : Option MV → MG → MU → Prop} {a : Int} : Wp E 83 21 ls (.inl a :: st) g μ Q = ((a = 0 → Wp E 83 28 ls st g μ Q) ∧ (¬ a = 0 → Wp E 83 24 ls st g μ Q)) := Wp_if_eq k83_21 (by decide)
theorem k83_24 : mCode 83 24 = some (.iconst 1, 1) := by decide +kernel
theorem x83_24 {E : ME} {ls : MLs} {st : List MV} {g : MG} {μ : MU} {Q : Option MV → MG → MU → Prop} : Wp E 83 24 ls st g μ Q = Wp E 83 25 ls (.inl 1 :: st) g μ Q := Wp_nx k83_24 rfl
theorem k83_25 : mCode 83 25 = some (.goto 4, 3) := by decide +kernel
theorem x83_25 {E : ME} {ls : MLs} {st : List MV} {g : MG} {μ : MU} {Q : Option MV → MG → MU → Prop} : Wp E 83 25 ls st g μ Q = Wp E 83 29 ls st g μ Q := Wp_goto k83_25 (by decide)
theorem k83_28 : mCode 83 28 = some (.iconst 0, 1) := by decide +kernel
theorem x83_28 {E : ME} {ls : MLs} {st : List MV} {g : MG} {μ : MU} {Q : Option MV → MG → MU → Prop} : Wp E 83 28 ls st g μ Q = Wp E 83 29 ls (.inl 0 :: st) g μ Q := Wp_nx k83_28 rfl
theorem k83_29 : mCode 83 29 = some (.ireturn, 1) := by decide +kernel
theorem x83_29 {E : ME} {ls : MLs} {g : MG} {μ : MU} {Q : Option MV → MG → MU → Prop} {v : Int} : Wp E 83 29 ls [.inl v] g μ Q = ((v = 0 ∨ v = 1) ∧ Q (some (.inl v)) g μ) := Wp_retZ k83_29 (by decide)
theorem k84_0 : mCode 84 0 = some (.aload_n 0, 1) := by decide +kernel
theorem x84_0 {E : ME} {ls : MLs} {st : List MV} {g : MG} {μ : MU} {Q : Option MV → MG → MU → Prop} {v : Nat ⊕ Nat} : Wp E 84 0 (some (.inr (.inr v)) :: ls) st g μ Q = Wp E 84 1 (some (.inr (.inr v)) :: ls) (.inr (.inr v) :: st) g μ Q := Wp_nx k84_0 rfl
theorem k84_1 : mCode 84 1 = some (.getfield 81, 3) := by decide +kernel
theorem x84_1 {E : ME} {ls : MLs} {st : List MV} {g : MG} {μ : MU} {Q : Option MV → MG → MU → Prop} {a : Nat} : Wp E 84 1 ls (.inr (.inr (.inl a)) :: st) g μ Q = ((mKd g a).1 = 6 ∧ Wp E 84 4 ls (.inl (μ a 3) :: st) g μ Q) := Wp_getI k84_1 f6_81 (by decide) (by decide)
theorem k84_4 : mCode 84 4 = some (.bipush 6, 2) := by decide +kernel
theorem x84_4 {E : ME} {ls : MLs} {st : List MV} {g : MG} {μ : MU} {Q : Option MV → MG → MU → Prop} : Wp E 84 4 ls st g μ Q = Wp E 84 6 ls (.inl 6 :: st) g μ Q := Wp_nx k84_4 rfl
theorem k84_6 : mCode 84 6 = some (.if_icmp .ne 44, 3) := by decide +kernel
theorem x84_6 {E : ME} {ls : MLs} {st : List MV} {g : MG} {μ : MU} {Q : Option MV → MG → MU → Prop} {a b : Int} : Wp E 84 6 ls (.inl b :: .inl a :: st) g μ Q = ((¬ a = b → Wp E 84 50 ls st g μ Q) ∧ (a = b → Wp E 84 9 ls st g μ Q)) := Wp_cmp_ne k84_6 (by decide)
theorem k84_9 : mCode 84 9 = some (.iconst 0, 1) := by decide +kernel
theorem x84_9 {E : ME} {ls : MLs} {st : List MV} {g : MG} {μ : MU} {Q : Option MV → MG → MU → Prop} : Wp E 84 9 ls st g μ Q = Wp E 84 10 ls (.inl 0 :: st) g μ Q := Wp_nx k84_9 rfl
theorem k84_10 : mCode 84 10 = some (.istore_n 1, 1) := by decide +kernel
theorem x84_10 {E : ME} {ls : MLs} {st : List MV} {g : MG} {μ : MU} {Q : Option MV → MG → MU → Prop} {l0 : Option MV} {lk : Option MV} {v : Int} : Wp E 84 10 (l0 :: lk :: ls) (.inl v :: st) g μ Q = ((mNl (some l0) = true ∧ mNl (some lk) = true) ∧ Wp E 84 11 (l0 :: some (.inl v) :: ls) st g μ Q) := Wp_sti k84_10 (fun _ => rfl) rfl rfl rfl
theorem k84_11 : mCode 84 11 = some (.iload_n 1, 1) := by decide +kernel
theorem x84_11 {E : ME} {ls : MLs} {st : List MV} {g : MG} {μ : MU} {Q : Option MV → MG → MU → Prop} {l0 : Option MV} {v : Int} : Wp E 84 11 (l0 :: some (.inl v) :: ls) st g μ Q = Wp E 84 12 (l0 :: some (.inl v) :: ls) (.inl v :: st) g μ Q := Wp_nx k84_11 rfl
theorem k84_12 : mCode 84 12 = some (.sipush 740, 3) := by decide +kernel
theorem x84_12 {E : ME} {ls : MLs} {st : List MV} {g : MG} {μ : MU} {Q : Option MV → MG → MU → Prop} : Wp E 84 12 ls st g μ Q = Wp E 84 15 ls (.inl 740 :: st) g μ Q := Wp_nx k84_12 rfl
theorem k84_15 : mCode 84 15 = some (.if_icmp .ge 25, 3) := by decide +kernel
theorem x84_15 {E : ME} {ls : MLs} {st : List MV} {g : MG} {μ : MU} {Q : Option MV → MG → MU → Prop} {a b : Int} : Wp E 84 15 ls (.inl b :: .inl a :: st) g μ Q = ((b ≤ a → Wp E 84 40 ls st g μ Q) ∧ (a < b → Wp E 84 18 ls st g μ Q)) := Wp_cmp_ge k84_15 (by decide)
theorem k84_18 : mCode 84 18 = some (.aload_n 0, 1) := by decide +kernel
theorem x84_18 {E : ME} {ls : MLs} {st : List MV} {g : MG} {μ : MU} {Q : Option MV → MG → MU → Prop} {v : Nat ⊕ Nat} : Wp E 84 18 (some (.inr (.inr v)) :: ls) st g μ Q = Wp E 84 19 (some (.inr (.inr v)) :: ls) (.inr (.inr v) :: st) g μ Q := Wp_nx k84_18 rfl
theorem k84_19 : mCode 84 19 = some (.getfield 13, 3) := by decide +kernel
theorem x84_19 {E : ME} {ls : MLs} {st : List MV} {g : MG} {μ : MU} {Q : Option MV → MG → MU → Prop} {a : Nat} : Wp E 84 19 ls (.inr (.inr (.inl a)) :: st) g μ Q = ((mKd g a).1 = 6 ∧ Wp E 84 22 ls (mRv (mRf g a 2) :: st) g μ Q) := Wp_getR k84_19 f6_13 (by decide) (by decide)
theorem k84_22 : mCode 84 22 = some (.iload_n 1, 1) := by decide +kernel
theorem x84_22 {E : ME} {ls : MLs} {st : List MV} {g : MG} {μ : MU} {Q : Option MV → MG → MU → Prop} {l0 : Option MV} {v : Int} : Wp E 84 22 (l0 :: some (.inl v) :: ls) st g μ Q = Wp E 84 23 (l0 :: some (.inl v) :: ls) (.inl v :: st) g μ Q := Wp_nx k84_22 rfl
theorem k84_23 : mCode 84 23 = some (.aload_n 0, 1) := by decide +kernel
theorem x84_23 {E : ME} {ls : MLs} {st : List MV} {g : MG} {μ : MU} {Q : Option MV → MG → MU → Prop} {v : Nat ⊕ Nat} : Wp E 84 23 (some (.inr (.inr v)) :: ls) st g μ Q = Wp E 84 24 (some (.inr (.inr v)) :: ls) (.inr (.inr v) :: st) g μ Q := Wp_nx k84_23 rfl
theorem k84_24 : mCode 84 24 = some (.getfield 13, 3) := by decide +kernel
theorem x84_24 {E : ME} {ls : MLs} {st : List MV} {g : MG} {μ : MU} {Q : Option MV → MG → MU → Prop} {a : Nat} : Wp E 84 24 ls (.inr (.inr (.inl a)) :: st) g μ Q = ((mKd g a).1 = 6 ∧ Wp E 84 27 ls (mRv (mRf g a 2) :: st) g μ Q) := Wp_getR k84_24 f6_13 (by decide) (by decide)
theorem k84_27 : mCode 84 27 = some (.iload_n 1, 1) := by decide +kernel
theorem x84_27 {E : ME} {ls : MLs} {st : List MV} {g : MG} {μ : MU} {Q : Option MV → MG → MU → Prop} {l0 : Option MV} {v : Int} : Wp E 84 27 (l0 :: some (.inl v) :: ls) st g μ Q = Wp E 84 28 (l0 :: some (.inl v) :: ls) (.inl v :: st) g μ Q := Wp_nx k84_27 rfl
theorem k84_28 : mCode 84 28 = some (.sipush 148, 3) := by decide +kernel
theorem x84_28 {E : ME} {ls : MLs} {st : List MV} {g : MG} {μ : MU} {Q : Option MV → MG → MU → Prop} : Wp E 84 28 ls st g μ Q = Wp E 84 31 ls (.inl 148 :: st) g μ Q := Wp_nx k84_28 rfl
theorem k84_31 : mCode 84 31 = some (.iadd, 1) := by decide +kernel
theorem x84_31 {E : ME} {ls : MLs} {st : List MV} {g : MG} {μ : MU} {Q : Option MV → MG → MU → Prop} {a b : Int} : Wp E 84 31 ls (.inl b :: .inl a :: st) g μ Q = Wp E 84 32 ls (.inl (mWr (a + b)) :: st) g μ Q := Wp_nx k84_31 rfl
theorem k84_32 : mCode 84 32 = some (.iaload, 1) := by decide +kernel
theorem x84_32 {E : ME} {ls : MLs} {st : List MV} {g : MG} {μ : MU} {Q : Option MV → MG → MU → Prop} {a : Nat} {j : Int} : Wp E 84 32 ls (.inl j :: .inr (.inr (.inl a)) :: st) g μ Q = (((mKd g a).1 = 10 ∧ 0 ≤ j ∧ j < (mKd g a).2) ∧ Wp E 84 33 ls (.inl (μ a j.toNat) :: st) g μ Q) := Wp_ald k84_32 (fun _ => rfl)
theorem k84_33 : mCode 84 33 = some (.iastore, 1) := by decide +kernel
theorem x84_33 {E : ME} {ls : MLs} {st : List MV} {g : MG} {μ : MU} {Q : Option MV → MG → MU → Prop} {a : Nat} {j v : Int} : Wp E 84 33 ls (.inl v :: .inl j :: .inr (.inr (.inl a)) :: st) g μ Q = (((mKd g a).1 = 10 ∧ 0 ≤ j ∧ j < (mKd g a).2) ∧ Wp E 84 34 ls st g (mUp μ a j.toNat v) Q) := Wp_iast k84_33
theorem k84_34 : mCode 84 34 = some (.iinc 1 1, 3) := by decide +kernel
theorem x84_34 {E : ME} {ls : MLs} {st : List MV} {g : MG} {μ : MU} {Q : Option MV → MG → MU → Prop} {l0 : Option MV} {v : Int} : Wp E 84 34 (l0 :: some (.inl v) :: ls) st g μ Q = (mNl (some l0) = true ∧ Wp E 84 37 (l0 :: some (.inl (mWr (v + 1))) :: ls) st g μ Q) := Wp_inc k84_34 rfl rfl rfl
theorem k84_37 : mCode 84 37 = some (.goto (-26), 3) := by decide +kernel
theorem x84_37 {E : ME} {ls : MLs} {st : List MV} {g : MG} {μ : MU} {Q : Option MV → MG → MU → Prop} : Wp E 84 37 ls st g μ Q = Wp E 84 11 ls st g μ Q := Wp_goto k84_37 (by decide)
theorem k84_40 : mCode 84 40 = some (.aload_n 0, 1) := by decide +kernel
theorem x84_40 {E : ME} {ls : MLs} {st : List MV} {g : MG} {μ : MU} {Q : Option MV → MG → MU → Prop} {v : Nat ⊕ Nat} : Wp E 84 40 (some (.inr (.inr v)) :: ls) st g μ Q = Wp E 84 41 (some (.inr (.inr v)) :: ls) (.inr (.inr v) :: st) g μ Q := Wp_nx k84_40 rfl
theorem k84_41 : mCode 84 41 = some (.dup, 1) := by decide +kernel
theorem x84_41 {E : ME} {ls : MLs} {st : List MV} {g : MG} {μ : MU} {Q : Option MV → MG → MU → Prop} {v : MV} : Wp E 84 41 ls (v :: st) g μ Q = (mC1 v = true ∧ Wp E 84 42 ls (v :: v :: st) g μ Q) := Wp_dup k84_41
theorem k84_42 : mCode 84 42 = some (.getfield 81, 3) := by decide +kernel
theorem x84_42 {E : ME} {ls : MLs} {st : List MV} {g : MG} {μ : MU} {Q : Option MV → MG → MU → Prop} {a : Nat} : Wp E 84 42 ls (.inr (.inr (.inl a)) :: st) g μ Q = ((mKd g a).1 = 6 ∧ Wp E 84 45 ls (.inl (μ a 3) :: st) g μ Q) := Wp_getI k84_42 f6_81 (by decide) (by decide)
theorem k84_45 : mCode 84 45 = some (.iconst 1, 1) := by decide +kernel
theorem x84_45 {E : ME} {ls : MLs} {st : List MV} {g : MG} {μ : MU} {Q : Option MV → MG → MU → Prop} : Wp E 84 45 ls st g μ Q = Wp E 84 46 ls (.inl 1 :: st) g μ Q := Wp_nx k84_45 rfl
theorem k84_46 : mCode 84 46 = some (.isub, 1) := by decide +kernel
theorem x84_46 {E : ME} {ls : MLs} {st : List MV} {g : MG} {μ : MU} {Q : Option MV → MG → MU → Prop} {a b : Int} : Wp E 84 46 ls (.inl b :: .inl a :: st) g μ Q = Wp E 84 47 ls (.inl (mWr (a - b)) :: st) g μ Q := Wp_nx k84_46 rfl
theorem k84_47 : mCode 84 47 = some (.putfield 81, 3) := by decide +kernel
theorem x84_47 {E : ME} {ls : MLs} {st : List MV} {g : MG} {μ : MU} {Q : Option MV → MG → MU → Prop} {a : Nat} {v : Int} : Wp E 84 47 ls (.inl v :: .inr (.inr (.inl a)) :: st) g μ Q = ((mKd g a).1 = 6 ∧ Wp E 84 50 ls st g (mUp μ a 3 v) Q) := Wp_putI0 k84_47 f6_81 (by decide) (by decide)
theorem k84_50 : mCode 84 50 = some (.iconst 0, 1) := by decide +kernel
theorem x84_50 {E : ME} {ls : MLs} {st : List MV} {g : MG} {μ : MU} {Q : Option MV → MG → MU → Prop} : Wp E 84 50 ls st g μ Q = Wp E 84 51 ls (.inl 0 :: st) g μ Q := Wp_nx k84_50 rfl
theorem k84_51 : mCode 84 51 = some (.istore_n 1, 1) := by decide +kernel
theorem x84_51 {E : ME} {ls : MLs} {st : List MV} {g : MG} {μ : MU} {Q : Option MV → MG → MU → Prop} {l0 : Option MV} {lk : Option MV} {v : Int} : Wp E 84 51 (l0 :: lk :: ls) (.inl v :: st) g μ Q = ((mNl (some l0) = true ∧ mNl (some lk) = true) ∧ Wp E 84 52 (l0 :: some (.inl v) :: ls) st g μ Q) := Wp_sti k84_51 (fun _ => rfl) rfl rfl rfl
theorem k84_52 : mCode 84 52 = some (.iload_n 1, 1) := by decide +kernel
theorem x84_52 {E : ME} {ls : MLs} {st : List MV} {g : MG} {μ : MU} {Q : Option MV → MG → MU → Prop} {l0 : Option MV} {v : Int} : Wp E 84 52 (l0 :: some (.inl v) :: ls) st g μ Q = Wp E 84 53 (l0 :: some (.inl v) :: ls) (.inl v :: st) g μ Q := Wp_nx k84_52 rfl
theorem k84_53 : mCode 84 53 = some (.sipush 148, 3) := by decide +kernel
theorem x84_53 {E : ME} {ls : MLs} {st : List MV} {g : MG} {μ : MU} {Q : Option MV → MG → MU → Prop} : Wp E 84 53 ls st g μ Q = Wp E 84 56 ls (.inl 148 :: st) g μ Q := Wp_nx k84_53 rfl
theorem k84_56 : mCode 84 56 = some (.if_icmp .ge 30, 3) := by decide +kernel
theorem x84_56 {E : ME} {ls : MLs} {st : List MV} {g : MG} {μ : MU} {Q : Option MV → MG → MU → Prop} {a b : Int} : Wp E 84 56 ls (.inl b :: .inl a :: st) g μ Q = ((b ≤ a → Wp E 84 86 ls st g μ Q) ∧ (a < b → Wp E 84 59 ls st g μ Q)) := Wp_cmp_ge k84_56 (by decide)
theorem k84_59 : mCode 84 59 = some (.aload_n 0, 1) := by decide +kernel
theorem x84_59 {E : ME} {ls : MLs} {st : List MV} {g : MG} {μ : MU} {Q : Option MV → MG → MU → Prop} {v : Nat ⊕ Nat} : Wp E 84 59 (some (.inr (.inr v)) :: ls) st g μ Q = Wp E 84 60 (some (.inr (.inr v)) :: ls) (.inr (.inr v) :: st) g μ Q := Wp_nx k84_59 rfl
theorem k84_60 : mCode 84 60 = some (.getfield 13, 3) := by decide +kernel
theorem x84_60 {E : ME} {ls : MLs} {st : List MV} {g : MG} {μ : MU} {Q : Option MV → MG → MU → Prop} {a : Nat} : Wp E 84 60 ls (.inr (.inr (.inl a)) :: st) g μ Q = ((mKd g a).1 = 6 ∧ Wp E 84 63 ls (mRv (mRf g a 2) :: st) g μ Q) := Wp_getR k84_60 f6_13 (by decide) (by decide)
theorem k84_63 : mCode 84 63 = some (.sipush 148, 3) := by decide +kernel
theorem x84_63 {E : ME} {ls : MLs} {st : List MV} {g : MG} {μ : MU} {Q : Option MV → MG → MU → Prop} : Wp E 84 63 ls st g μ Q = Wp E 84 66 ls (.inl 148 :: st) g μ Q := Wp_nx k84_63 rfl
theorem k84_66 : mCode 84 66 = some (.aload_n 0, 1) := by decide +kernel
theorem x84_66 {E : ME} {ls : MLs} {st : List MV} {g : MG} {μ : MU} {Q : Option MV → MG → MU → Prop} {v : Nat ⊕ Nat} : Wp E 84 66 (some (.inr (.inr v)) :: ls) st g μ Q = Wp E 84 67 (some (.inr (.inr v)) :: ls) (.inr (.inr v) :: st) g μ Q := Wp_nx k84_66 rfl
theorem k84_67 : mCode 84 67 = some (.getfield 81, 3) := by decide +kernel
theorem x84_67 {E : ME} {ls : MLs} {st : List MV} {g : MG} {μ : MU} {Q : Option MV → MG → MU → Prop} {a : Nat} : Wp E 84 67 ls (.inr (.inr (.inl a)) :: st) g μ Q = ((mKd g a).1 = 6 ∧ Wp E 84 70 ls (.inl (μ a 3) :: st) g μ Q) := Wp_getI k84_67 f6_81 (by decide) (by decide)
theorem k84_70 : mCode 84 70 = some (.imul, 1) := by decide +kernel
theorem x84_70 {E : ME} {ls : MLs} {st : List MV} {g : MG} {μ : MU} {Q : Option MV → MG → MU → Prop} {a b : Int} : Wp E 84 70 ls (.inl b :: .inl a :: st) g μ Q = Wp E 84 71 ls (.inl (mWr (a * b)) :: st) g μ Q := Wp_nx k84_70 rfl
theorem k84_71 : mCode 84 71 = some (.iload_n 1, 1) := by decide +kernel
theorem x84_71 {E : ME} {ls : MLs} {st : List MV} {g : MG} {μ : MU} {Q : Option MV → MG → MU → Prop} {l0 : Option MV} {v : Int} : Wp E 84 71 (l0 :: some (.inl v) :: ls) st g μ Q = Wp E 84 72 (l0 :: some (.inl v) :: ls) (.inl v :: st) g μ Q := Wp_nx k84_71 rfl
theorem k84_72 : mCode 84 72 = some (.iadd, 1) := by decide +kernel
theorem x84_72 {E : ME} {ls : MLs} {st : List MV} {g : MG} {μ : MU} {Q : Option MV → MG → MU → Prop} {a b : Int} : Wp E 84 72 ls (.inl b :: .inl a :: st) g μ Q = Wp E 84 73 ls (.inl (mWr (a + b)) :: st) g μ Q := Wp_nx k84_72 rfl
theorem k84_73 : mCode 84 73 = some (.aload_n 0, 1) := by decide +kernel
theorem x84_73 {E : ME} {ls : MLs} {st : List MV} {g : MG} {μ : MU} {Q : Option MV → MG → MU → Prop} {v : Nat ⊕ Nat} : Wp E 84 73 (some (.inr (.inr v)) :: ls) st g μ Q = Wp E 84 74 (some (.inr (.inr v)) :: ls) (.inr (.inr v) :: st) g μ Q := Wp_nx k84_73 rfl
theorem k84_74 : mCode 84 74 = some (.getfield 7, 3) := by decide +kernel
theorem x84_74 {E : ME} {ls : MLs} {st : List MV} {g : MG} {μ : MU} {Q : Option MV → MG → MU → Prop} {a : Nat} : Wp E 84 74 ls (.inr (.inr (.inl a)) :: st) g μ Q = ((mKd g a).1 = 6 ∧ Wp E 84 77 ls (mRv (mRf g a 1) :: st) g μ Q) := Wp_getR k84_74 f6_7 (by decide) (by decide)
theorem k84_77 : mCode 84 77 = some (.iload_n 1, 1) := by decide +kernel
theorem x84_77 {E : ME} {ls : MLs} {st : List MV} {g : MG} {μ : MU} {Q : Option MV → MG → MU → Prop} {l0 : Option MV} {v : Int} : Wp E 84 77 (l0 :: some (.inl v) :: ls) st g μ Q = Wp E 84 78 (l0 :: some (.inl v) :: ls) (.inl v :: st) g μ Q := Wp_nx k84_77 rfl
theorem k84_78 : mCode 84 78 = some (.iaload, 1) := by decide +kernel
theorem x84_78 {E : ME} {ls : MLs} {st : List MV} {g : MG} {μ : MU} {Q : Option MV → MG → MU → Prop} {a : Nat} {j : Int} : Wp E 84 78 ls (.inl j :: .inr (.inr (.inl a)) :: st) g μ Q = (((mKd g a).1 = 10 ∧ 0 ≤ j ∧ j < (mKd g a).2) ∧ Wp E 84 79 ls (.inl (μ a j.toNat) :: st) g μ Q) := Wp_ald k84_78 (fun _ => rfl)
theorem k84_79 : mCode 84 79 = some (.iastore, 1) := by decide +kernel
theorem x84_79 {E : ME} {ls : MLs} {st : List MV} {g : MG} {μ : MU} {Q : Option MV → MG → MU → Prop} {a : Nat} {j v : Int} : Wp E 84 79 ls (.inl v :: .inl j :: .inr (.inr (.inl a)) :: st) g μ Q = (((mKd g a).1 = 10 ∧ 0 ≤ j ∧ j < (mKd g a).2) ∧ Wp E 84 80 ls st g (mUp μ a j.toNat v) Q) := Wp_iast k84_79
theorem k84_80 : mCode 84 80 = some (.iinc 1 1, 3) := by decide +kernel
theorem x84_80 {E : ME} {ls : MLs} {st : List MV} {g : MG} {μ : MU} {Q : Option MV → MG → MU → Prop} {l0 : Option MV} {v : Int} : Wp E 84 80 (l0 :: some (.inl v) :: ls) st g μ Q = (mNl (some l0) = true ∧ Wp E 84 83 (l0 :: some (.inl (mWr (v + 1))) :: ls) st g μ Q) := Wp_inc k84_80 rfl rfl rfl
theorem k84_83 : mCode 84 83 = some (.goto (-31), 3) := by decide +kernel
theorem x84_83 {E : ME} {ls : MLs} {st : List MV} {g : MG} {μ : MU} {Q : Option MV → MG → MU → Prop} : Wp E 84 83 ls st g μ Q = Wp E 84 52 ls st g μ Q := Wp_goto k84_83 (by decide)
theorem k84_86 : mCode 84 86 = some (.aload_n 0, 1) := by decide +kernel
theorem x84_86 {E : ME} {ls : MLs} {st : List MV} {g : MG} {μ : MU} {Q : Option MV → MG → MU → Prop} {v : Nat ⊕ Nat} : Wp E 84 86 (some (.inr (.inr v)) :: ls) st g μ Q = Wp E 84 87 (some (.inr (.inr v)) :: ls) (.inr (.inr v) :: st) g μ Q := Wp_nx k84_86 rfl
theorem k84_87 : mCode 84 87 = some (.dup, 1) := by decide +kernel
theorem x84_87 {E : ME} {ls : MLs} {st : List MV} {g : MG} {μ : MU} {Q : Option MV → MG → MU → Prop} {v : MV} : Wp E 84 87 ls (v :: st) g μ Q = (mC1 v = true ∧ Wp E 84 88 ls (v :: v :: st) g μ Q) := Wp_dup k84_87
theorem k84_88 : mCode 84 88 = some (.getfield 81, 3) := by decide +kernel
theorem x84_88 {E : ME} {ls : MLs} {st : List MV} {g : MG} {μ : MU} {Q : Option MV → MG → MU → Prop} {a : Nat} : Wp E 84 88 ls (.inr (.inr (.inl a)) :: st) g μ Q = ((mKd g a).1 = 6 ∧ Wp E 84 91 ls (.inl (μ a 3) :: st) g μ Q) := Wp_getI k84_88 f6_81 (by decide) (by decide)
theorem k84_91 : mCode 84 91 = some (.iconst 1, 1) := by decide +kernel
theorem x84_91 {E : ME} {ls : MLs} {st : List MV} {g : MG} {μ : MU} {Q : Option MV → MG → MU → Prop} : Wp E 84 91 ls st g μ Q = Wp E 84 92 ls (.inl 1 :: st) g μ Q := Wp_nx k84_91 rfl
theorem k84_92 : mCode 84 92 = some (.iadd, 1) := by decide +kernel
theorem x84_92 {E : ME} {ls : MLs} {st : List MV} {g : MG} {μ : MU} {Q : Option MV → MG → MU → Prop} {a b : Int} : Wp E 84 92 ls (.inl b :: .inl a :: st) g μ Q = Wp E 84 93 ls (.inl (mWr (a + b)) :: st) g μ Q := Wp_nx k84_92 rfl
theorem k84_93 : mCode 84 93 = some (.putfield 81, 3) := by decide +kernel
theorem x84_93 {E : ME} {ls : MLs} {st : List MV} {g : MG} {μ : MU} {Q : Option MV → MG → MU → Prop} {a : Nat} {v : Int} : Wp E 84 93 ls (.inl v :: .inr (.inr (.inl a)) :: st) g μ Q = ((mKd g a).1 = 6 ∧ Wp E 84 96 ls st g (mUp μ a 3 v) Q) := Wp_putI0 k84_93 f6_81 (by decide) (by decide)
theorem k84_96 : mCode 84 96 = some (.return_, 1) := by decide +kernel
theorem x84_96 {E : ME} {ls : MLs} {g : MG} {μ : MU} {Q : Option MV → MG → MU → Prop} : Wp E 84 96 ls [] g μ Q = Q none g μ := Wp_retV k84_96 (by decide)
theorem k85_0 : mCode 85 0 = some (.iload_n 1, 1) := by decide +kernel
theorem x85_0 {E : ME} {ls : MLs} {st : List MV} {g : MG} {μ : MU} {Q : Option MV → MG → MU → Prop} {l0 : Option MV} {v : Int} : Wp E 85 0 (l0 :: some (.inl v) :: ls) st g μ Q = Wp E 85 1 (l0 :: some (.inl v) :: ls) (.inl v :: st) g μ Q := Wp_nx k85_0 rfl
theorem k85_1 : mCode 85 1 = some (.iload_n 2, 1) := by decide +kernel
theorem x85_1 {E : ME} {ls : MLs} {st : List MV} {g : MG} {μ : MU} {Q : Option MV → MG → MU → Prop} {l0 l1 : Option MV} {v : Int} : Wp E 85 1 (l0 :: l1 :: some (.inl v) :: ls) st g μ Q = Wp E 85 2 (l0 :: l1 :: some (.inl v) :: ls) (.inl v :: st) g μ Q := Wp_nx k85_1 rfl
theorem k85_2 : mCode 85 2 = some (.if_icmp .ne 7, 3) := by decide +kernel
theorem x85_2 {E : ME} {ls : MLs} {st : List MV} {g : MG} {μ : MU} {Q : Option MV → MG → MU → Prop} {a b : Int} : Wp E 85 2 ls (.inl b :: .inl a :: st) g μ Q = ((¬ a = b → Wp E 85 9 ls st g μ Q) ∧ (a = b → Wp E 85 5 ls st g μ Q)) := Wp_cmp_ne k85_2 (by decide)
theorem k85_5 : mCode 85 5 = some (.iconst 0, 1) := by decide +kernel
theorem x85_5 {E : ME} {ls : MLs} {st : List MV} {g : MG} {μ : MU} {Q : Option MV → MG → MU → Prop} : Wp E 85 5 ls st g μ Q = Wp E 85 6 ls (.inl 0 :: st) g μ Q := Wp_nx k85_5 rfl
theorem k85_6 : mCode 85 6 = some (.goto 21, 3) := by decide +kernel
theorem x85_6 {E : ME} {ls : MLs} {st : List MV} {g : MG} {μ : MU} {Q : Option MV → MG → MU → Prop} : Wp E 85 6 ls st g μ Q = Wp E 85 27 ls st g μ Q := Wp_goto k85_6 (by decide)
theorem k85_9 : mCode 85 9 = some (.aload_n 0, 1) := by decide +kernel
theorem x85_9 {E : ME} {ls : MLs} {st : List MV} {g : MG} {μ : MU} {Q : Option MV → MG → MU → Prop} {v : Nat ⊕ Nat} : Wp E 85 9 (some (.inr (.inr v)) :: ls) st g μ Q = Wp E 85 10 (some (.inr (.inr v)) :: ls) (.inr (.inr v) :: st) g μ Q := Wp_nx k85_9 rfl
theorem k85_10 : mCode 85 10 = some (.getfield 7, 3) := by decide +kernel
theorem x85_10 {E : ME} {ls : MLs} {st : List MV} {g : MG} {μ : MU} {Q : Option MV → MG → MU → Prop} {a : Nat} : Wp E 85 10 ls (.inr (.inr (.inl a)) :: st) g μ Q = ((mKd g a).1 = 6 ∧ Wp E 85 13 ls (mRv (mRf g a 1) :: st) g μ Q) := Wp_getR k85_10 f6_7 (by decide) (by decide)
theorem k85_13 : mCode 85 13 = some (.bipush 7, 2) := by decide +kernel
theorem x85_13 {E : ME} {ls : MLs} {st : List MV} {g : MG} {μ : MU} {Q : Option MV → MG → MU → Prop} : Wp E 85 13 ls st g μ Q = Wp E 85 15 ls (.inl 7 :: st) g μ Q := Wp_nx k85_13 rfl
theorem k85_15 : mCode 85 15 = some (.iconst 4, 1) := by decide +kernel
theorem x85_15 {E : ME} {ls : MLs} {st : List MV} {g : MG} {μ : MU} {Q : Option MV → MG → MU → Prop} : Wp E 85 15 ls st g μ Q = Wp E 85 16 ls (.inl 4 :: st) g μ Q := Wp_nx k85_15 rfl
theorem k85_16 : mCode 85 16 = some (.iload_n 1, 1) := by decide +kernel
theorem x85_16 {E : ME} {ls : MLs} {st : List MV} {g : MG} {μ : MU} {Q : Option MV → MG → MU → Prop} {l0 : Option MV} {v : Int} : Wp E 85 16 (l0 :: some (.inl v) :: ls) st g μ Q = Wp E 85 17 (l0 :: some (.inl v) :: ls) (.inl v :: st) g μ Q := Wp_nx k85_16 rfl
theorem k85_17 : mCode 85 17 = some (.imul, 1) := by decide +kernel
theorem x85_17 {E : ME} {ls : MLs} {st : List MV} {g : MG} {μ : MU} {Q : Option MV → MG → MU → Prop} {a b : Int} : Wp E 85 17 ls (.inl b :: .inl a :: st) g μ Q = Wp E 85 18 ls (.inl (mWr (a * b)) :: st) g μ Q := Wp_nx k85_17 rfl
theorem k85_18 : mCode 85 18 = some (.iadd, 1) := by decide +kernel
theorem x85_18 {E : ME} {ls : MLs} {st : List MV} {g : MG} {μ : MU} {Q : Option MV → MG → MU → Prop} {a b : Int} : Wp E 85 18 ls (.inl b :: .inl a :: st) g μ Q = Wp E 85 19 ls (.inl (mWr (a + b)) :: st) g μ Q := Wp_nx k85_18 rfl
theorem k85_19 : mCode 85 19 = some (.iload_n 2, 1) := by decide +kernel
theorem x85_19 {E : ME} {ls : MLs} {st : List MV} {g : MG} {μ : MU} {Q : Option MV → MG → MU → Prop} {l0 l1 : Option MV} {v : Int} : Wp E 85 19 (l0 :: l1 :: some (.inl v) :: ls) st g μ Q = Wp E 85 20 (l0 :: l1 :: some (.inl v) :: ls) (.inl v :: st) g μ Q := Wp_nx k85_19 rfl
theorem k85_20 : mCode 85 20 = some (.iadd, 1) := by decide +kernel
theorem x85_20 {E : ME} {ls : MLs} {st : List MV} {g : MG} {μ : MU} {Q : Option MV → MG → MU → Prop} {a b : Int} : Wp E 85 20 ls (.inl b :: .inl a :: st) g μ Q = Wp E 85 21 ls (.inl (mWr (a + b)) :: st) g μ Q := Wp_nx k85_20 rfl
theorem k85_21 : mCode 85 21 = some (.iaload, 1) := by decide +kernel
theorem x85_21 {E : ME} {ls : MLs} {st : List MV} {g : MG} {μ : MU} {Q : Option MV → MG → MU → Prop} {a : Nat} {j : Int} : Wp E 85 21 ls (.inl j :: .inr (.inr (.inl a)) :: st) g μ Q = (((mKd g a).1 = 10 ∧ 0 ≤ j ∧ j < (mKd g a).2) ∧ Wp E 85 22 ls (.inl (μ a j.toNat) :: st) g μ Q) := Wp_ald k85_21 (fun _ => rfl)
theorem k85_22 : mCode 85 22 = some (.aload_n 0, 1) := by decide +kernel
theorem x85_22 {E : ME} {ls : MLs} {st : List MV} {g : MG} {μ : MU} {Q : Option MV → MG → MU → Prop} {v : Nat ⊕ Nat} : Wp E 85 22 (some (.inr (.inr v)) :: ls) st g μ Q = Wp E 85 23 (some (.inr (.inr v)) :: ls) (.inr (.inr v) :: st) g μ Q := Wp_nx k85_22 rfl
theorem k85_23 : mCode 85 23 = some (.getfield 84, 3) := by decide +kernel
theorem x85_23 {E : ME} {ls : MLs} {st : List MV} {g : MG} {μ : MU} {Q : Option MV → MG → MU → Prop} {a : Nat} : Wp E 85 23 ls (.inr (.inr (.inl a)) :: st) g μ Q = ((mKd g a).1 = 6 ∧ Wp E 85 26 ls (.inl (μ a 15) :: st) g μ Q) := Wp_getI k85_23 f6_84 (by decide) (by decide)
theorem k85_26 : mCode 85 26 = some (.iadd, 1) := by decide +kernel
theorem x85_26 {E : ME} {ls : MLs} {st : List MV} {g : MG} {μ : MU} {Q : Option MV → MG → MU → Prop} {a b : Int} : Wp E 85 26 ls (.inl b :: .inl a :: st) g μ Q = Wp E 85 27 ls (.inl (mWr (a + b)) :: st) g μ Q := Wp_nx k85_26 rfl
theorem k85_27 : mCode 85 27 = some (.ireturn, 1) := by decide +kernel
theorem x85_27 {E : ME} {ls : MLs} {g : MG} {μ : MU} {Q : Option MV → MG → MU → Prop} {v : Int} : Wp E 85 27 ls [.inl v] g μ Q = Q (some (.inl v)) g μ := Wp_retI k85_27 (by decide)
theorem k86_0 : mCode 86 0 = some (.iconst 0, 1) := by decide +kernel
theorem x86_0 {E : ME} {ls : MLs} {st : List MV} {g : MG} {μ : MU} {Q : Option MV → MG → MU → Prop} : Wp E 86 0 ls st g μ Q = Wp E 86 1 ls (.inl 0 :: st) g μ Q := Wp_nx k86_0 rfl
theorem k86_1 : mCode 86 1 = some (.istore_n 2, 1) := by decide +kernel
theorem x86_1 {E : ME} {ls : MLs} {st : List MV} {g : MG} {μ : MU} {Q : Option MV → MG → MU → Prop} {l0 l1 : Option MV} {lk : Option MV} {v : Int} : Wp E 86 1 (l0 :: l1 :: lk :: ls) (.inl v :: st) g μ Q = ((mNl (some l1) = true ∧ mNl (some lk) = true) ∧ Wp E 86 2 (l0 :: l1 :: some (.inl v) :: ls) st g μ Q) := Wp_sti k86_1 (fun _ => rfl) rfl rfl rfl
theorem k86_2 : mCode 86 2 = some (.iconst 0, 1) := by decide +kernel
theorem x86_2 {E : ME} {ls : MLs} {st : List MV} {g : MG} {μ : MU} {Q : Option MV → MG → MU → Prop} : Wp E 86 2 ls st g μ Q = Wp E 86 3 ls (.inl 0 :: st) g μ Q := Wp_nx k86_2 rfl
theorem k86_3 : mCode 86 3 = some (.istore_n 3, 1) := by decide +kernel
theorem x86_3 {E : ME} {ls : MLs} {st : List MV} {g : MG} {μ : MU} {Q : Option MV → MG → MU → Prop} {l0 l1 l2 : Option MV} {lk : Option MV} {v : Int} : Wp E 86 3 (l0 :: l1 :: l2 :: lk :: ls) (.inl v :: st) g μ Q = ((mNl (some l2) = true ∧ mNl (some lk) = true) ∧ Wp E 86 4 (l0 :: l1 :: l2 :: some (.inl v) :: ls) st g μ Q) := Wp_sti k86_3 (fun _ => rfl) rfl rfl rfl
theorem k86_4 : mCode 86 4 = some (.iload_n 3, 1) := by decide +kernel
theorem x86_4 {E : ME} {ls : MLs} {st : List MV} {g : MG} {μ : MU} {Q : Option MV → MG → MU → Prop} {l0 l1 l2 : Option MV} {v : Int} : Wp E 86 4 (l0 :: l1 :: l2 :: some (.inl v) :: ls) st g μ Q = Wp E 86 5 (l0 :: l1 :: l2 :: some (.inl v) :: ls) (.inl v :: st) g μ Q := Wp_nx k86_4 rfl
theorem k86_5 : mCode 86 5 = some (.aload_n 0, 1) := by decide +kernel
theorem x86_5 {E : ME} {ls : MLs} {st : List MV} {g : MG} {μ : MU} {Q : Option MV → MG → MU → Prop} {v : Nat ⊕ Nat} : Wp E 86 5 (some (.inr (.inr v)) :: ls) st g μ Q = Wp E 86 6 (some (.inr (.inr v)) :: ls) (.inr (.inr v) :: st) g μ Q := Wp_nx k86_5 rfl
theorem k86_6 : mCode 86 6 = some (.getfield 7, 3) := by decide +kernel
theorem x86_6 {E : ME} {ls : MLs} {st : List MV} {g : MG} {μ : MU} {Q : Option MV → MG → MU → Prop} {a : Nat} : Wp E 86 6 ls (.inr (.inr (.inl a)) :: st) g μ Q = ((mKd g a).1 = 6 ∧ Wp E 86 9 ls (mRv (mRf g a 1) :: st) g μ Q) := Wp_getR k86_6 f6_7 (by decide) (by decide)
theorem k86_9 : mCode 86 9 = some (.bipush 6, 2) := by decide +kernel
theorem x86_9 {E : ME} {ls : MLs} {st : List MV} {g : MG} {μ : MU} {Q : Option MV → MG → MU → Prop} : Wp E 86 9 ls st g μ Q = Wp E 86 11 ls (.inl 6 :: st) g μ Q := Wp_nx k86_9 rfl
theorem k86_11 : mCode 86 11 = some (.iaload, 1) := by decide +kernel
theorem x86_11 {E : ME} {ls : MLs} {st : List MV} {g : MG} {μ : MU} {Q : Option MV → MG → MU → Prop} {a : Nat} {j : Int} : Wp E 86 11 ls (.inl j :: .inr (.inr (.inl a)) :: st) g μ Q = (((mKd g a).1 = 10 ∧ 0 ≤ j ∧ j < (mKd g a).2) ∧ Wp E 86 12 ls (.inl (μ a j.toNat) :: st) g μ Q) := Wp_ald k86_11 (fun _ => rfl)
theorem k86_12 : mCode 86 12 = some (.if_icmp .ge 47, 3) := by decide +kernel
theorem x86_12 {E : ME} {ls : MLs} {st : List MV} {g : MG} {μ : MU} {Q : Option MV → MG → MU → Prop} {a b : Int} : Wp E 86 12 ls (.inl b :: .inl a :: st) g μ Q = ((b ≤ a → Wp E 86 59 ls st g μ Q) ∧ (a < b → Wp E 86 15 ls st g μ Q)) := Wp_cmp_ge k86_12 (by decide)
theorem k86_15 : mCode 86 15 = some (.aload_n 0, 1) := by decide +kernel
theorem x86_15 {E : ME} {ls : MLs} {st : List MV} {g : MG} {μ : MU} {Q : Option MV → MG → MU → Prop} {v : Nat ⊕ Nat} : Wp E 86 15 (some (.inr (.inr v)) :: ls) st g μ Q = Wp E 86 16 (some (.inr (.inr v)) :: ls) (.inr (.inr v) :: st) g μ Q := Wp_nx k86_15 rfl
theorem k86_16 : mCode 86 16 = some (.iload_n 1, 1) := by decide +kernel
theorem x86_16 {E : ME} {ls : MLs} {st : List MV} {g : MG} {μ : MU} {Q : Option MV → MG → MU → Prop} {l0 : Option MV} {v : Int} : Wp E 86 16 (l0 :: some (.inl v) :: ls) st g μ Q = Wp E 86 17 (l0 :: some (.inl v) :: ls) (.inl v :: st) g μ Q := Wp_nx k86_16 rfl
theorem k86_17 : mCode 86 17 = some (.iconst 2, 1) := by decide +kernel
theorem x86_17 {E : ME} {ls : MLs} {st : List MV} {g : MG} {μ : MU} {Q : Option MV → MG → MU → Prop} : Wp E 86 17 ls st g μ Q = Wp E 86 18 ls (.inl 2 :: st) g μ Q := Wp_nx k86_17 rfl
theorem k86_18 : mCode 86 18 = some (.invokevirtual 87, 3) := by decide +kernel
theorem x86_18 {E : ME} {ls : MLs} {st : List MV} {g : MG} {μ : MU} {Q : Option MV → MG → MU → Prop} {r : Nat} {a0 : Int} {a1 : Int} : Wp E 86 18 ls (.inl a1 :: .inl a0 :: .inr (.inr (.inl r)) :: st) g μ Q = ((st.length ≤ 4 ∧ ((mKd g r).1 == 6) = true) ∧ Wp E 79 0 [some (.inr (.inr (.inl r))), some (.inl a0), some (.inl a1)] [] g μ (fun r g' μ' => (g'.1 = g.1 ∧ g'.2.1 = g.2.1) ∧ Wp E 86 21 ls (mPush r st) g' μ' Q)) := Wp_cV k86_18 m6_87 (by decide) (as := [.inr (.inr (.inl r)), .inl a0, .inl a1]) rfl rfl rfl ⟨Nat.le_of_ble_eq_true rfl, by decide⟩
theorem k86_21 : mCode 86 21 = some (.aload_n 0, 1) := by decide +kernel
theorem x86_21 {E : ME} {ls : MLs} {st : List MV} {g : MG} {μ : MU} {Q : Option MV → MG → MU → Prop} {v : Nat ⊕ Nat} : Wp E 86 21 (some (.inr (.inr v)) :: ls) st g μ Q = Wp E 86 22 (some (.inr (.inr v)) :: ls) (.inr (.inr v) :: st) g μ Q := Wp_nx k86_21 rfl
theorem k86_22 : mCode 86 22 = some (.iload_n 3, 1) := by decide +kernel
theorem x86_22 {E : ME} {ls : MLs} {st : List MV} {g : MG} {μ : MU} {Q : Option MV → MG → MU → Prop} {l0 l1 l2 : Option MV} {v : Int} : Wp E 86 22 (l0 :: l1 :: l2 :: some (.inl v) :: ls) st g μ Q = Wp E 86 23 (l0 :: l1 :: l2 :: some (.inl v) :: ls) (.inl v :: st) g μ Q := Wp_nx k86_22 rfl
theorem k86_23 : mCode 86 23 = some (.iconst 2, 1) := by decide +kernel
theorem x86_23 {E : ME} {ls : MLs} {st : List MV} {g : MG} {μ : MU} {Q : Option MV → MG → MU → Prop} : Wp E 86 23 ls st g μ Q = Wp E 86 24 ls (.inl 2 :: st) g μ Q := Wp_nx k86_23 rfl
theorem k86_24 : mCode 86 24 = some (.invokevirtual 87, 3) := by decide +kernel
theorem x86_24 {E : ME} {ls : MLs} {st : List MV} {g : MG} {μ : MU} {Q : Option MV → MG → MU → Prop} {r : Nat} {a0 : Int} {a1 : Int} : Wp E 86 24 ls (.inl a1 :: .inl a0 :: .inr (.inr (.inl r)) :: st) g μ Q = ((st.length ≤ 4 ∧ ((mKd g r).1 == 6) = true) ∧ Wp E 79 0 [some (.inr (.inr (.inl r))), some (.inl a0), some (.inl a1)] [] g μ (fun r g' μ' => (g'.1 = g.1 ∧ g'.2.1 = g.2.1) ∧ Wp E 86 27 ls (mPush r st) g' μ' Q)) := Wp_cV k86_24 m6_87 (by decide) (as := [.inr (.inr (.inl r)), .inl a0, .inl a1]) rfl rfl rfl ⟨Nat.le_of_ble_eq_true rfl, by decide⟩
theorem k86_27 : mCode 86 27 = some (.isub, 1) := by decide +kernel
theorem x86_27 {E : ME} {ls : MLs} {st : List MV} {g : MG} {μ : MU} {Q : Option MV → MG → MU → Prop} {a b : Int} : Wp E 86 27 ls (.inl b :: .inl a :: st) g μ Q = Wp E 86 28 ls (.inl (mWr (a - b)) :: st) g μ Q := Wp_nx k86_27 rfl
theorem k86_28 : mCode 86 28 = some (.istore 4, 2) := by decide +kernel
theorem x86_28 {E : ME} {ls : MLs} {st : List MV} {g : MG} {μ : MU} {Q : Option MV → MG → MU → Prop} {l0 l1 l2 l3 : Option MV} {lk : Option MV} {v : Int} : Wp E 86 28 (l0 :: l1 :: l2 :: l3 :: lk :: ls) (.inl v :: st) g μ Q = ((mNl (some l3) = true ∧ mNl (some lk) = true) ∧ Wp E 86 30 (l0 :: l1 :: l2 :: l3 :: some (.inl v) :: ls) st g μ Q) := Wp_sti k86_28 (fun _ => rfl) rfl rfl rfl
theorem k86_30 : mCode 86 30 = some (.iload_n 2, 1) := by decide +kernel
theorem x86_30 {E : ME} {ls : MLs} {st : List MV} {g : MG} {μ : MU} {Q : Option MV → MG → MU → Prop} {l0 l1 : Option MV} {v : Int} : Wp E 86 30 (l0 :: l1 :: some (.inl v) :: ls) st g μ Q = Wp E 86 31 (l0 :: l1 :: some (.inl v) :: ls) (.inl v :: st) g μ Q := Wp_nx k86_30 rfl
theorem k86_31 : mCode 86 31 = some (.iload 4, 2) := by decide +kernel
theorem x86_31 {E : ME} {ls : MLs} {st : List MV} {g : MG} {μ : MU} {Q : Option MV → MG → MU → Prop} {l0 l1 l2 l3 : Option MV} {v : Int} : Wp E 86 31 (l0 :: l1 :: l2 :: l3 :: some (.inl v) :: ls) st g μ Q = Wp E 86 33 (l0 :: l1 :: l2 :: l3 :: some (.inl v) :: ls) (.inl v :: st) g μ Q := Wp_nx k86_31 rfl
theorem k86_33 : mCode 86 33 = some (.ifCond .gt 13, 3) := by decide +kernel
theorem x86_33 {E : ME} {ls : MLs} {st : List MV} {g : MG} {μ : MU} {Q : Option MV → MG → MU → Prop} {a : Int} : Wp E 86 33 ls (.inl a :: st) g μ Q = ((0 < a → Wp E 86 46 ls st g μ Q) ∧ (a ≤ 0 → Wp E 86 36 ls st g μ Q)) := Wp_if_gt k86_33 (by decide)
theorem k86_36 : mCode 86 36 = some (.iload 4, 2) := by decide +kernel
theorem x86_36 {E : ME} {ls : MLs} {st : List MV} {g : MG} {μ : MU} {Q : Option MV → MG → MU → Prop} {l0 l1 l2 l3 : Option MV} {v : Int} : Wp E 86 36 (l0 :: l1 :: l2 :: l3 :: some (.inl v) :: ls) st g μ Q = Wp E 86 38 (l0 :: l1 :: l2 :: l3 :: some (.inl v) :: ls) (.inl v :: st) g μ Q := Wp_nx k86_36 rfl
theorem k86_38 : mCode 86 38 = some (.ifCond .ne 12, 3) := by decide +kernel
theorem x86_38 {E : ME} {ls : MLs} {st : List MV} {g : MG} {μ : MU} {Q : Option MV → MG → MU → Prop} {a : Int} : Wp E 86 38 ls (.inl a :: st) g μ Q = ((¬ a = 0 → Wp E 86 50 ls st g μ Q) ∧ (a = 0 → Wp E 86 41 ls st g μ Q)) := Wp_if_ne k86_38 (by decide)
theorem k86_41 : mCode 86 41 = some (.iload_n 3, 1) := by decide +kernel
theorem x86_41 {E : ME} {ls : MLs} {st : List MV} {g : MG} {μ : MU} {Q : Option MV → MG → MU → Prop} {l0 l1 l2 : Option MV} {v : Int} : Wp E 86 41 (l0 :: l1 :: l2 :: some (.inl v) :: ls) st g μ Q = Wp E 86 42 (l0 :: l1 :: l2 :: some (.inl v) :: ls) (.inl v :: st) g μ Q := Wp_nx k86_41 rfl
theorem k86_42 : mCode 86 42 = some (.iload_n 1, 1) := by decide +kernel
theorem x86_42 {E : ME} {ls : MLs} {st : List MV} {g : MG} {μ : MU} {Q : Option MV → MG → MU → Prop} {l0 : Option MV} {v : Int} : Wp E 86 42 (l0 :: some (.inl v) :: ls) st g μ Q = Wp E 86 43 (l0 :: some (.inl v) :: ls) (.inl v :: st) g μ Q := Wp_nx k86_42 rfl
theorem k86_43 : mCode 86 43 = some (.if_icmp .ge 7, 3) := by decide +kernel
theorem x86_43 {E : ME} {ls : MLs} {st : List MV} {g : MG} {μ : MU} {Q : Option MV → MG → MU → Prop} {a b : Int} : Wp E 86 43 ls (.inl b :: .inl a :: st) g μ Q = ((b ≤ a → Wp E 86 50 ls st g μ Q) ∧ (a < b → Wp E 86 46 ls st g μ Q)) := Wp_cmp_ge k86_43 (by decide)
theorem k86_46 : mCode 86 46 = some (.iconst 1, 1) := by decide +kernel
theorem x86_46 {E : ME} {ls : MLs} {st : List MV} {g : MG} {μ : MU} {Q : Option MV → MG → MU → Prop} : Wp E 86 46 ls st g μ Q = Wp E 86 47 ls (.inl 1 :: st) g μ Q := Wp_nx k86_46 rfl
theorem k86_47 : mCode 86 47 = some (.goto 4, 3) := by decide +kernel
theorem x86_47 {E : ME} {ls : MLs} {st : List MV} {g : MG} {μ : MU} {Q : Option MV → MG → MU → Prop} : Wp E 86 47 ls st g μ Q = Wp E 86 51 ls st g μ Q := Wp_goto k86_47 (by decide)
theorem k86_50 : mCode 86 50 = some (.iconst 0, 1) := by decide +kernel
theorem x86_50 {E : ME} {ls : MLs} {st : List MV} {g : MG} {μ : MU} {Q : Option MV → MG → MU → Prop} : Wp E 86 50 ls st g μ Q = Wp E 86 51 ls (.inl 0 :: st) g μ Q := Wp_nx k86_50 rfl
theorem k86_51 : mCode 86 51 = some (.iadd, 1) := by decide +kernel
theorem x86_51 {E : ME} {ls : MLs} {st : List MV} {g : MG} {μ : MU} {Q : Option MV → MG → MU → Prop} {a b : Int} : Wp E 86 51 ls (.inl b :: .inl a :: st) g μ Q = Wp E 86 52 ls (.inl (mWr (a + b)) :: st) g μ Q := Wp_nx k86_51 rfl
theorem k86_52 : mCode 86 52 = some (.istore_n 2, 1) := by decide +kernel
theorem x86_52 {E : ME} {ls : MLs} {st : List MV} {g : MG} {μ : MU} {Q : Option MV → MG → MU → Prop} {l0 l1 : Option MV} {lk : Option MV} {v : Int} : Wp E 86 52 (l0 :: l1 :: lk :: ls) (.inl v :: st) g μ Q = ((mNl (some l1) = true ∧ mNl (some lk) = true) ∧ Wp E 86 53 (l0 :: l1 :: some (.inl v) :: ls) st g μ Q) := Wp_sti k86_52 (fun _ => rfl) rfl rfl rfl
theorem k86_53 : mCode 86 53 = some (.iinc 3 1, 3) := by decide +kernel
theorem x86_53 {E : ME} {ls : MLs} {st : List MV} {g : MG} {μ : MU} {Q : Option MV → MG → MU → Prop} {l0 l1 l2 : Option MV} {v : Int} : Wp E 86 53 (l0 :: l1 :: l2 :: some (.inl v) :: ls) st g μ Q = (mNl (some l2) = true ∧ Wp E 86 56 (l0 :: l1 :: l2 :: some (.inl (mWr (v + 1))) :: ls) st g μ Q) := Wp_inc k86_53 rfl rfl rfl
theorem k86_56 : mCode 86 56 = some (.goto (-52), 3) := by decide +kernel
theorem x86_56 {E : ME} {ls : MLs} {st : List MV} {g : MG} {μ : MU} {Q : Option MV → MG → MU → Prop} : Wp E 86 56 ls st g μ Q = Wp E 86 4 ls st g μ Q := Wp_goto k86_56 (by decide)
theorem k86_59 : mCode 86 59 = some (.iload_n 2, 1) := by decide +kernel
theorem x86_59 {E : ME} {ls : MLs} {st : List MV} {g : MG} {μ : MU} {Q : Option MV → MG → MU → Prop} {l0 l1 : Option MV} {v : Int} : Wp E 86 59 (l0 :: l1 :: some (.inl v) :: ls) st g μ Q = Wp E 86 60 (l0 :: l1 :: some (.inl v) :: ls) (.inl v :: st) g μ Q := Wp_nx k86_59 rfl
theorem k86_60 : mCode 86 60 = some (.ireturn, 1) := by decide +kernel
theorem x86_60 {E : ME} {ls : MLs} {g : MG} {μ : MU} {Q : Option MV → MG → MU → Prop} {v : Int} : Wp E 86 60 ls [.inl v] g μ Q = Q (some (.inl v)) g μ := Wp_retI k86_60 (by decide)
theorem k87_0 : mCode 87 0 = some (.aload_n 0, 1) := by decide +kernel
theorem x87_0 {E : ME} {ls : MLs} {st : List MV} {g : MG} {μ : MU} {Q : Option MV → MG → MU → Prop} {v : Nat ⊕ Nat} : Wp E 87 0 (some (.inr (.inr v)) :: ls) st g μ Q = Wp E 87 1 (some (.inr (.inr v)) :: ls) (.inr (.inr v) :: st) g μ Q := Wp_nx k87_0 rfl
theorem k87_1 : mCode 87 1 = some (.iload_n 1, 1) := by decide +kernel
theorem x87_1 {E : ME} {ls : MLs} {st : List MV} {g : MG} {μ : MU} {Q : Option MV → MG → MU → Prop} {l0 : Option MV} {v : Int} : Wp E 87 1 (l0 :: some (.inl v) :: ls) st g μ Q = Wp E 87 2 (l0 :: some (.inl v) :: ls) (.inl v :: st) g μ Q := Wp_nx k87_1 rfl
theorem k87_2 : mCode 87 2 = some (.iconst 0, 1) := by decide +kernel
theorem x87_2 {E : ME} {ls : MLs} {st : List MV} {g : MG} {μ : MU} {Q : Option MV → MG → MU → Prop} : Wp E 87 2 ls st g μ Q = Wp E 87 3 ls (.inl 0 :: st) g μ Q := Wp_nx k87_2 rfl
theorem k87_3 : mCode 87 3 = some (.invokevirtual 87, 3) := by decide +kernel
theorem x87_3 {E : ME} {ls : MLs} {st : List MV} {g : MG} {μ : MU} {Q : Option MV → MG → MU → Prop} {r : Nat} {a0 : Int} {a1 : Int} : Wp E 87 3 ls (.inl a1 :: .inl a0 :: .inr (.inr (.inl r)) :: st) g μ Q = ((st.length ≤ 4 ∧ ((mKd g r).1 == 6) = true) ∧ Wp E 79 0 [some (.inr (.inr (.inl r))), some (.inl a0), some (.inl a1)] [] g μ (fun r g' μ' => (g'.1 = g.1 ∧ g'.2.1 = g.2.1) ∧ Wp E 87 6 ls (mPush r st) g' μ' Q)) := Wp_cV k87_3 m6_87 (by decide) (as := [.inr (.inr (.inl r)), .inl a0, .inl a1]) rfl rfl rfl ⟨Nat.le_of_ble_eq_true rfl, by decide⟩
theorem k87_6 : mCode 87 6 = some (.istore 4, 2) := by decide +kernel
theorem x87_6 {E : ME} {ls : MLs} {st : List MV} {g : MG} {μ : MU} {Q : Option MV → MG → MU → Prop} {l0 l1 l2 l3 : Option MV} {lk : Option MV} {v : Int} : Wp E 87 6 (l0 :: l1 :: l2 :: l3 :: lk :: ls) (.inl v :: st) g μ Q = ((mNl (some l3) = true ∧ mNl (some lk) = true) ∧ Wp E 87 8 (l0 :: l1 :: l2 :: l3 :: some (.inl v) :: ls) st g μ Q) := Wp_sti k87_6 (fun _ => rfl) rfl rfl rfl
theorem k87_8 : mCode 87 8 = some (.bipush 6, 2) := by decide +kernel
theorem x87_8 {E : ME} {ls : MLs} {st : List MV} {g : MG} {μ : MU} {Q : Option MV → MG → MU → Prop} : Wp E 87 8 ls st g μ Q = Wp E 87 10 ls (.inl 6 :: st) g μ Q := Wp_nx k87_8 rfl
theorem k87_10 : mCode 87 10 = some (.iload 4, 2) := by decide +kernel
theorem x87_10 {E : ME} {ls : MLs} {st : List MV} {g : MG} {μ : MU} {Q : Option MV → MG → MU → Prop} {l0 l1 l2 l3 : Option MV} {v : Int} : Wp E 87 10 (l0 :: l1 :: l2 :: l3 :: some (.inl v) :: ls) st g μ Q = Wp E 87 12 (l0 :: l1 :: l2 :: l3 :: some (.inl v) :: ls) (.inl v :: st) g μ Q := Wp_nx k87_10 rfl
theorem k87_12 : mCode 87 12 = some (.imul, 1) := by decide +kernel
theorem x87_12 {E : ME} {ls : MLs} {st : List MV} {g : MG} {μ : MU} {Q : Option MV → MG → MU → Prop} {a b : Int} : Wp E 87 12 ls (.inl b :: .inl a :: st) g μ Q = Wp E 87 13 ls (.inl (mWr (a * b)) :: st) g μ Q := Wp_nx k87_12 rfl
theorem k87_13 : mCode 87 13 = some (.iload_n 2, 1) := by decide +kernel
theorem x87_13 {E : ME} {ls : MLs} {st : List MV} {g : MG} {μ : MU} {Q : Option MV → MG → MU → Prop} {l0 l1 : Option MV} {v : Int} : Wp E 87 13 (l0 :: l1 :: some (.inl v) :: ls) st g μ Q = Wp E 87 14 (l0 :: l1 :: some (.inl v) :: ls) (.inl v :: st) g μ Q := Wp_nx k87_13 rfl
theorem k87_14 : mCode 87 14 = some (.iadd, 1) := by decide +kernel
theorem x87_14 {E : ME} {ls : MLs} {st : List MV} {g : MG} {μ : MU} {Q : Option MV → MG → MU → Prop} {a b : Int} : Wp E 87 14 ls (.inl b :: .inl a :: st) g μ Q = Wp E 87 15 ls (.inl (mWr (a + b)) :: st) g μ Q := Wp_nx k87_14 rfl
theorem k87_15 : mCode 87 15 = some (.istore 5, 2) := by decide +kernel
theorem x87_15 {E : ME} {ls : MLs} {st : List MV} {g : MG} {μ : MU} {Q : Option MV → MG → MU → Prop} {l0 l1 l2 l3 l4 : Option MV} {lk : Option MV} {v : Int} : Wp E 87 15 (l0 :: l1 :: l2 :: l3 :: l4 :: lk :: ls) (.inl v :: st) g μ Q = ((mNl (some l4) = true ∧ mNl (some lk) = true) ∧ Wp E 87 17 (l0 :: l1 :: l2 :: l3 :: l4 :: some (.inl v) :: ls) st g μ Q) := Wp_sti k87_15 (fun _ => rfl) rfl rfl rfl
theorem k87_17 : mCode 87 17 = some (.aload_n 0, 1) := by decide +kernel
theorem x87_17 {E : ME} {ls : MLs} {st : List MV} {g : MG} {μ : MU} {Q : Option MV → MG → MU → Prop} {v : Nat ⊕ Nat} : Wp E 87 17 (some (.inr (.inr v)) :: ls) st g μ Q = Wp E 87 18 (some (.inr (.inr v)) :: ls) (.inr (.inr v) :: st) g μ Q := Wp_nx k87_17 rfl
theorem k87_18 : mCode 87 18 = some (.iload_n 1, 1) := by decide +kernel
theorem x87_18 {E : ME} {ls : MLs} {st : List MV} {g : MG} {μ : MU} {Q : Option MV → MG → MU → Prop} {l0 : Option MV} {v : Int} : Wp E 87 18 (l0 :: some (.inl v) :: ls) st g μ Q = Wp E 87 19 (l0 :: some (.inl v) :: ls) (.inl v :: st) g μ Q := Wp_nx k87_18 rfl
theorem k87_19 : mCode 87 19 = some (.iconst 1, 1) := by decide +kernel
theorem x87_19 {E : ME} {ls : MLs} {st : List MV} {g : MG} {μ : MU} {Q : Option MV → MG → MU → Prop} : Wp E 87 19 ls st g μ Q = Wp E 87 20 ls (.inl 1 :: st) g μ Q := Wp_nx k87_19 rfl
theorem k87_20 : mCode 87 20 = some (.invokevirtual 87, 3) := by decide +kernel
theorem x87_20 {E : ME} {ls : MLs} {st : List MV} {g : MG} {μ : MU} {Q : Option MV → MG → MU → Prop} {r : Nat} {a0 : Int} {a1 : Int} : Wp E 87 20 ls (.inl a1 :: .inl a0 :: .inr (.inr (.inl r)) :: st) g μ Q = ((st.length ≤ 4 ∧ ((mKd g r).1 == 6) = true) ∧ Wp E 79 0 [some (.inr (.inr (.inl r))), some (.inl a0), some (.inl a1)] [] g μ (fun r g' μ' => (g'.1 = g.1 ∧ g'.2.1 = g.2.1) ∧ Wp E 87 23 ls (mPush r st) g' μ' Q)) := Wp_cV k87_20 m6_87 (by decide) (as := [.inr (.inr (.inl r)), .inl a0, .inl a1]) rfl rfl rfl ⟨Nat.le_of_ble_eq_true rfl, by decide⟩
theorem k87_23 : mCode 87 23 = some (.istore 6, 2) := by decide +kernel
theorem x87_23 {E : ME} {ls : MLs} {st : List MV} {g : MG} {μ : MU} {Q : Option MV → MG → MU → Prop} {l0 l1 l2 l3 l4 l5 : Option MV} {lk : Option MV} {v : Int} : Wp E 87 23 (l0 :: l1 :: l2 :: l3 :: l4 :: l5 :: lk :: ls) (.inl v :: st) g μ Q = ((mNl (some l5) = true ∧ mNl (some lk) = true) ∧ Wp E 87 25 (l0 :: l1 :: l2 :: l3 :: l4 :: l5 :: some (.inl v) :: ls) st g μ Q) := Wp_sti k87_23 (fun _ => rfl) rfl rfl rfl
theorem k87_25 : mCode 87 25 = some (.aload_n 0, 1) := by decide +kernel
theorem x87_25 {E : ME} {ls : MLs} {st : List MV} {g : MG} {μ : MU} {Q : Option MV → MG → MU → Prop} {v : Nat ⊕ Nat} : Wp E 87 25 (some (.inr (.inr v)) :: ls) st g μ Q = Wp E 87 26 (some (.inr (.inr v)) :: ls) (.inr (.inr v) :: st) g μ Q := Wp_nx k87_25 rfl
theorem k87_26 : mCode 87 26 = some (.getfield 50, 3) := by decide +kernel
theorem x87_26 {E : ME} {ls : MLs} {st : List MV} {g : MG} {μ : MU} {Q : Option MV → MG → MU → Prop} {a : Nat} : Wp E 87 26 ls (.inr (.inr (.inl a)) :: st) g μ Q = ((mKd g a).1 = 6 ∧ Wp E 87 29 ls (mRv (mRf g a 17) :: st) g μ Q) := Wp_getR k87_26 f6_50 (by decide) (by decide)
theorem k87_29 : mCode 87 29 = some (.iload 5, 2) := by decide +kernel
theorem x87_29 {E : ME} {ls : MLs} {st : List MV} {g : MG} {μ : MU} {Q : Option MV → MG → MU → Prop} {l0 l1 l2 l3 l4 : Option MV} {v : Int} : Wp E 87 29 (l0 :: l1 :: l2 :: l3 :: l4 :: some (.inl v) :: ls) st g μ Q = Wp E 87 31 (l0 :: l1 :: l2 :: l3 :: l4 :: some (.inl v) :: ls) (.inl v :: st) g μ Q := Wp_nx k87_29 rfl
theorem k87_31 : mCode 87 31 = some (.iaload, 1) := by decide +kernel
theorem x87_31 {E : ME} {ls : MLs} {st : List MV} {g : MG} {μ : MU} {Q : Option MV → MG → MU → Prop} {a : Nat} {j : Int} : Wp E 87 31 ls (.inl j :: .inr (.inr (.inl a)) :: st) g μ Q = (((mKd g a).1 = 10 ∧ 0 ≤ j ∧ j < (mKd g a).2) ∧ Wp E 87 32 ls (.inl (μ a j.toNat) :: st) g μ Q) := Wp_ald k87_31 (fun _ => rfl)
theorem k87_32 : mCode 87 32 = some (.aload_n 0, 1) := by decide +kernel
theorem x87_32 {E : ME} {ls : MLs} {st : List MV} {g : MG} {μ : MU} {Q : Option MV → MG → MU → Prop} {v : Nat ⊕ Nat} : Wp E 87 32 (some (.inr (.inr v)) :: ls) st g μ Q = Wp E 87 33 (some (.inr (.inr v)) :: ls) (.inr (.inr v) :: st) g μ Q := Wp_nx k87_32 rfl
theorem k87_33 : mCode 87 33 = some (.aload_n 0, 1) := by decide +kernel
theorem x87_33 {E : ME} {ls : MLs} {st : List MV} {g : MG} {μ : MU} {Q : Option MV → MG → MU → Prop} {v : Nat ⊕ Nat} : Wp E 87 33 (some (.inr (.inr v)) :: ls) st g μ Q = Wp E 87 34 (some (.inr (.inr v)) :: ls) (.inr (.inr v) :: st) g μ Q := Wp_nx k87_33 rfl
theorem k87_34 : mCode 87 34 = some (.getfield 47, 3) := by decide +kernel
theorem x87_34 {E : ME} {ls : MLs} {st : List MV} {g : MG} {μ : MU} {Q : Option MV → MG → MU → Prop} {a : Nat} : Wp E 87 34 ls (.inr (.inr (.inl a)) :: st) g μ Q = ((mKd g a).1 = 6 ∧ Wp E 87 37 ls (mRv (mRf g a 16) :: st) g μ Q) := Wp_getR k87_34 f6_47 (by decide) (by decide)
theorem k87_37 : mCode 87 37 = some (.iload 5, 2) := by decide +kernel
theorem x87_37 {E : ME} {ls : MLs} {st : List MV} {g : MG} {μ : MU} {Q : Option MV → MG → MU → Prop} {l0 l1 l2 l3 l4 : Option MV} {v : Int} : Wp E 87 37 (l0 :: l1 :: l2 :: l3 :: l4 :: some (.inl v) :: ls) st g μ Q = Wp E 87 39 (l0 :: l1 :: l2 :: l3 :: l4 :: some (.inl v) :: ls) (.inl v :: st) g μ Q := Wp_nx k87_37 rfl
theorem k87_39 : mCode 87 39 = some (.iaload, 1) := by decide +kernel
theorem x87_39 {E : ME} {ls : MLs} {st : List MV} {g : MG} {μ : MU} {Q : Option MV → MG → MU → Prop} {a : Nat} {j : Int} : Wp E 87 39 ls (.inl j :: .inr (.inr (.inl a)) :: st) g μ Q = (((mKd g a).1 = 10 ∧ 0 ≤ j ∧ j < (mKd g a).2) ∧ Wp E 87 40 ls (.inl (μ a j.toNat) :: st) g μ Q) := Wp_ald k87_39 (fun _ => rfl)
theorem k87_40 : mCode 87 40 = some (.iload 6, 2) := by decide +kernel
theorem x87_40 {E : ME} {ls : MLs} {st : List MV} {g : MG} {μ : MU} {Q : Option MV → MG → MU → Prop} {l0 l1 l2 l3 l4 l5 : Option MV} {v : Int} : Wp E 87 40 (l0 :: l1 :: l2 :: l3 :: l4 :: l5 :: some (.inl v) :: ls) st g μ Q = Wp E 87 42 (l0 :: l1 :: l2 :: l3 :: l4 :: l5 :: some (.inl v) :: ls) (.inl v :: st) g μ Q := Wp_nx k87_40 rfl
theorem k87_42 : mCode 87 42 = some (.invokevirtual 90, 3) := by decide +kernel
theorem x87_42 {E : ME} {ls : MLs} {st : List MV} {g : MG} {μ : MU} {Q : Option MV → MG → MU → Prop} {r : Nat} {a0 : Int} {a1 : Int} : Wp E 87 42 ls (.inl a1 :: .inl a0 :: .inr (.inr (.inl r)) :: st) g μ Q = ((st.length ≤ 4 ∧ ((mKd g r).1 == 6) = true) ∧ Wp E 85 0 [some (.inr (.inr (.inl r))), some (.inl a0), some (.inl a1)] [] g μ (fun r g' μ' => (g'.1 = g.1 ∧ g'.2.1 = g.2.1) ∧ Wp E 87 45 ls (mPush r st) g' μ' Q)) := Wp_cV k87_42 m6_90 (by decide) (as := [.inr (.inr (.inl r)), .inl a0, .inl a1]) rfl rfl rfl ⟨Nat.le_of_ble_eq_true rfl, by decide⟩
theorem k87_45 : mCode 87 45 = some (.iadd, 1) := by decide +kernel
theorem x87_45 {E : ME} {ls : MLs} {st : List MV} {g : MG} {μ : MU} {Q : Option MV → MG → MU → Prop} {a b : Int} : Wp E 87 45 ls (.inl b :: .inl a :: st) g μ Q = Wp E 87 46 ls (.inl (mWr (a + b)) :: st) g μ Q := Wp_nx k87_45 rfl
theorem k87_46 : mCode 87 46 = some (.istore 7, 2) := by decide +kernel
theorem x87_46 {E : ME} {ls : MLs} {st : List MV} {g : MG} {μ : MU} {Q : Option MV → MG → MU → Prop} {l0 l1 l2 l3 l4 l5 l6 : Option MV} {lk : Option MV} {v : Int} : Wp E 87 46 (l0 :: l1 :: l2 :: l3 :: l4 :: l5 :: l6 :: lk :: ls) (.inl v :: st) g μ Q = ((mNl (some l6) = true ∧ mNl (some lk) = true) ∧ Wp E 87 48 (l0 :: l1 :: l2 :: l3 :: l4 :: l5 :: l6 :: some (.inl v) :: ls) st g μ Q) := Wp_sti k87_46 (fun _ => rfl) rfl rfl rfl
theorem k87_48 : mCode 87 48 = some (.iload 7, 2) := by decide +kernel
theorem x87_48 {E : ME} {ls : MLs} {st : List MV} {g : MG} {μ : MU} {Q : Option MV → MG → MU → Prop} {l0 l1 l2 l3 l4 l5 l6 : Option MV} {v : Int} : Wp E 87 48 (l0 :: l1 :: l2 :: l3 :: l4 :: l5 :: l6 :: some (.inl v) :: ls) st g μ Q = Wp E 87 50 (l0 :: l1 :: l2 :: l3 :: l4 :: l5 :: l6 :: some (.inl v) :: ls) (.inl v :: st) g μ Q := Wp_nx k87_48 rfl
theorem k87_50 : mCode 87 50 = some (.iload_n 3, 1) := by decide +kernel
theorem x87_50 {E : ME} {ls : MLs} {st : List MV} {g : MG} {μ : MU} {Q : Option MV → MG → MU → Prop} {l0 l1 l2 : Option MV} {v : Int} : Wp E 87 50 (l0 :: l1 :: l2 :: some (.inl v) :: ls) st g μ Q = Wp E 87 51 (l0 :: l1 :: l2 :: some (.inl v) :: ls) (.inl v :: st) g μ Q := Wp_nx k87_50 rfl
theorem k87_51 : mCode 87 51 = some (.if_icmp .le 8, 3) := by decide +kernel
theorem x87_51 {E : ME} {ls : MLs} {st : List MV} {g : MG} {μ : MU} {Q : Option MV → MG → MU → Prop} {a b : Int} : Wp E 87 51 ls (.inl b :: .inl a :: st) g μ Q = ((a ≤ b → Wp E 87 59 ls st g μ Q) ∧ (b < a → Wp E 87 54 ls st g μ Q)) := Wp_cmp_le k87_51 (by decide)
theorem k87_54 : mCode 87 54 = some (.iload 7, 2) := by decide +kernel
theorem x87_54 {E : ME} {ls : MLs} {st : List MV} {g : MG} {μ : MU} {Q : Option MV → MG → MU → Prop} {l0 l1 l2 l3 l4 l5 l6 : Option MV} {v : Int} : Wp E 87 54 (l0 :: l1 :: l2 :: l3 :: l4 :: l5 :: l6 :: some (.inl v) :: ls) st g μ Q = Wp E 87 56 (l0 :: l1 :: l2 :: l3 :: l4 :: l5 :: l6 :: some (.inl v) :: ls) (.inl v :: st) g μ Q := Wp_nx k87_54 rfl
theorem k87_56 : mCode 87 56 = some (.goto 4, 3) := by decide +kernel
theorem x87_56 {E : ME} {ls : MLs} {st : List MV} {g : MG} {μ : MU} {Q : Option MV → MG → MU → Prop} : Wp E 87 56 ls st g μ Q = Wp E 87 60 ls st g μ Q := Wp_goto k87_56 (by decide)
theorem k87_59 : mCode 87 59 = some (.iload_n 3, 1) := by decide +kernel
theorem x87_59 {E : ME} {ls : MLs} {st : List MV} {g : MG} {μ : MU} {Q : Option MV → MG → MU → Prop} {l0 l1 l2 : Option MV} {v : Int} : Wp E 87 59 (l0 :: l1 :: l2 :: some (.inl v) :: ls) st g μ Q = Wp E 87 60 (l0 :: l1 :: l2 :: some (.inl v) :: ls) (.inl v :: st) g μ Q := Wp_nx k87_59 rfl
theorem k87_60 : mCode 87 60 = some (.istore 8, 2) := by decide +kernel
theorem x87_60 {E : ME} {ls : MLs} {st : List MV} {g : MG} {μ : MU} {Q : Option MV → MG → MU → Prop} {l0 l1 l2 l3 l4 l5 l6 l7 : Option MV} {lk : Option MV} {v : Int} : Wp E 87 60 (l0 :: l1 :: l2 :: l3 :: l4 :: l5 :: l6 :: l7 :: lk :: ls) (.inl v :: st) g μ Q = ((mNl (some l7) = true ∧ mNl (some lk) = true) ∧ Wp E 87 62 (l0 :: l1 :: l2 :: l3 :: l4 :: l5 :: l6 :: l7 :: some (.inl v) :: ls) st g μ Q) := Wp_sti k87_60 (fun _ => rfl) rfl rfl rfl
theorem k87_62 : mCode 87 62 = some (.iload 8, 2) := by decide +kernel
theorem x87_62 {E : ME} {ls : MLs} {st : List MV} {g : MG} {μ : MU} {Q : Option MV → MG → MU → Prop} {l0 l1 l2 l3 l4 l5 l6 l7 : Option MV} {v : Int} : Wp E 87 62 (l0 :: l1 :: l2 :: l3 :: l4 :: l5 :: l6 :: l7 :: some (.inl v) :: ls) st g μ Q = Wp E 87 64 (l0 :: l1 :: l2 :: l3 :: l4 :: l5 :: l6 :: l7 :: some (.inl v) :: ls) (.inl v :: st) g μ Q := Wp_nx k87_62 rfl
theorem k87_64 : mCode 87 64 = some (.iload_n 3, 1) := by decide +kernel
theorem x87_64 {E : ME} {ls : MLs} {st : List MV} {g : MG} {μ : MU} {Q : Option MV → MG → MU → Prop} {l0 l1 l2 : Option MV} {v : Int} : Wp E 87 64 (l0 :: l1 :: l2 :: some (.inl v) :: ls) st g μ Q = Wp E 87 65 (l0 :: l1 :: l2 :: some (.inl v) :: ls) (.inl v :: st) g μ Q := Wp_nx k87_64 rfl
theorem k87_65 : mCode 87 65 = some (.aload_n 0, 1) := by decide +kernel
theorem x87_65 {E : ME} {ls : MLs} {st : List MV} {g : MG} {μ : MU} {Q : Option MV → MG → MU → Prop} {v : Nat ⊕ Nat} : Wp E 87 65 (some (.inr (.inr v)) :: ls) st g μ Q = Wp E 87 66 (some (.inr (.inr v)) :: ls) (.inr (.inr v) :: st) g μ Q := Wp_nx k87_65 rfl
theorem k87_66 : mCode 87 66 = some (.getfield 7, 3) := by decide +kernel
theorem x87_66 {E : ME} {ls : MLs} {st : List MV} {g : MG} {μ : MU} {Q : Option MV → MG → MU → Prop} {a : Nat} : Wp E 87 66 ls (.inr (.inr (.inl a)) :: st) g μ Q = ((mKd g a).1 = 6 ∧ Wp E 87 69 ls (mRv (mRf g a 1) :: st) g μ Q) := Wp_getR k87_66 f6_7 (by decide) (by decide)
theorem k87_69 : mCode 87 69 = some (.iconst 1, 1) := by decide +kernel
theorem x87_69 {E : ME} {ls : MLs} {st : List MV} {g : MG} {μ : MU} {Q : Option MV → MG → MU → Prop} : Wp E 87 69 ls st g μ Q = Wp E 87 70 ls (.inl 1 :: st) g μ Q := Wp_nx k87_69 rfl
theorem k87_70 : mCode 87 70 = some (.iaload, 1) := by decide +kernel
theorem x87_70 {E : ME} {ls : MLs} {st : List MV} {g : MG} {μ : MU} {Q : Option MV → MG → MU → Prop} {a : Nat} {j : Int} : Wp E 87 70 ls (.inl j :: .inr (.inr (.inl a)) :: st) g μ Q = (((mKd g a).1 = 10 ∧ 0 ≤ j ∧ j < (mKd g a).2) ∧ Wp E 87 71 ls (.inl (μ a j.toNat) :: st) g μ Q) := Wp_ald k87_70 (fun _ => rfl)
theorem k87_71 : mCode 87 71 = some (.iadd, 1) := by decide +kernel
theorem x87_71 {E : ME} {ls : MLs} {st : List MV} {g : MG} {μ : MU} {Q : Option MV → MG → MU → Prop} {a b : Int} : Wp E 87 71 ls (.inl b :: .inl a :: st) g μ Q = Wp E 87 72 ls (.inl (mWr (a + b)) :: st) g μ Q := Wp_nx k87_71 rfl
theorem k87_72 : mCode 87 72 = some (.if_icmp .le 30, 3) := by decide +kernel
theorem x87_72 {E : ME} {ls : MLs} {st : List MV} {g : MG} {μ : MU} {Q : Option MV → MG → MU → Prop} {a b : Int} : Wp E 87 72 ls (.inl b :: .inl a :: st) g μ Q = ((a ≤ b → Wp E 87 102 ls st g μ Q) ∧ (b < a → Wp E 87 75 ls st g μ Q)) := Wp_cmp_le k87_72 (by decide)
theorem k87_75 : mCode 87 75 = some (.aload_n 0, 1) := by decide +kernel
theorem x87_75 {E : ME} {ls : MLs} {st : List MV} {g : MG} {μ : MU} {Q : Option MV → MG → MU → Prop} {v : Nat ⊕ Nat} : Wp E 87 75 (some (.inr (.inr v)) :: ls) st g μ Q = Wp E 87 76 (some (.inr (.inr v)) :: ls) (.inr (.inr v) :: st) g μ Q := Wp_nx k87_75 rfl
theorem k87_76 : mCode 87 76 = some (.getfield 35, 3) := by decide +kernel
theorem x87_76 {E : ME} {ls : MLs} {st : List MV} {g : MG} {μ : MU} {Q : Option MV → MG → MU → Prop} {a : Nat} : Wp E 87 76 ls (.inr (.inr (.inl a)) :: st) g μ Q = ((mKd g a).1 = 6 ∧ Wp E 87 79 ls (mRv (mRf g a 11) :: st) g μ Q) := Wp_getR k87_76 f6_35 (by decide) (by decide)
theorem k87_79 : mCode 87 79 = some (.iload_n 1, 1) := by decide +kernel
theorem x87_79 {E : ME} {ls : MLs} {st : List MV} {g : MG} {μ : MU} {Q : Option MV → MG → MU → Prop} {l0 : Option MV} {v : Int} : Wp E 87 79 (l0 :: some (.inl v) :: ls) st g μ Q = Wp E 87 80 (l0 :: some (.inl v) :: ls) (.inl v :: st) g μ Q := Wp_nx k87_79 rfl
theorem k87_80 : mCode 87 80 = some (.dup2, 1) := by decide +kernel
theorem x87_80 {E : ME} {ls : MLs} {st : List MV} {g : MG} {μ : MU} {Q : Option MV → MG → MU → Prop} {v w : MV} : Wp E 87 80 ls (v :: w :: st) g μ Q = ((mC1 v = true ∧ mC1 w = true) ∧ Wp E 87 81 ls (v :: w :: v :: w :: st) g μ Q) := Wp_dup2 k87_80
theorem k87_81 : mCode 87 81 = some (.iaload, 1) := by decide +kernel
theorem x87_81 {E : ME} {ls : MLs} {st : List MV} {g : MG} {μ : MU} {Q : Option MV → MG → MU → Prop} {a : Nat} {j : Int} : Wp E 87 81 ls (.inl j :: .inr (.inr (.inl a)) :: st) g μ Q = (((mKd g a).1 = 10 ∧ 0 ≤ j ∧ j < (mKd g a).2) ∧ Wp E 87 82 ls (.inl (μ a j.toNat) :: st) g μ Q) := Wp_ald k87_81 (fun _ => rfl)
theorem k87_82 : mCode 87 82 = some (.iconst 1, 1) := by decide +kernel
theorem x87_82 {E : ME} {ls : MLs} {st : List MV} {g : MG} {μ : MU} {Q : Option MV → MG → MU → Prop} : Wp E 87 82 ls st g μ Q = Wp E 87 83 ls (.inl 1 :: st) g μ Q := Wp_nx k87_82 rfl
theorem k87_83 : mCode 87 83 = some (.iload_n 2, 1) := by decide +kernel
theorem x87_83 {E : ME} {ls : MLs} {st : List MV} {g : MG} {μ : MU} {Q : Option MV → MG → MU → Prop} {l0 l1 : Option MV} {v : Int} : Wp E 87 83 (l0 :: l1 :: some (.inl v) :: ls) st g μ Q = Wp E 87 84 (l0 :: l1 :: some (.inl v) :: ls) (.inl v :: st) g μ Q := Wp_nx k87_83 rfl
theorem k87_84 : mCode 87 84 = some (.ishl, 1) := by decide +kernel
theorem x87_84 {E : ME} {ls : MLs} {st : List MV} {g : MG} {μ : MU} {Q : Option MV → MG → MU → Prop} {a b : Int} : Wp E 87 84 ls (.inl b :: .inl a :: st) g μ Q = Wp E 87 85 ls (.inl (mIshl a b) :: st) g μ Q := Wp_nx k87_84 rfl
theorem k87_85 : mCode 87 85 = some (.ior, 1) := by decide +kernel
theorem x87_85 {E : ME} {ls : MLs} {st : List MV} {g : MG} {μ : MU} {Q : Option MV → MG → MU → Prop} {a b : Int} : Wp E 87 85 ls (.inl b :: .inl a :: st) g μ Q = Wp E 87 86 ls (.inl (mIor a b) :: st) g μ Q := Wp_nx k87_85 rfl
theorem k87_86 : mCode 87 86 = some (.iastore, 1) := by decide +kernel
theorem x87_86 {E : ME} {ls : MLs} {st : List MV} {g : MG} {μ : MU} {Q : Option MV → MG → MU → Prop} {a : Nat} {j v : Int} : Wp E 87 86 ls (.inl v :: .inl j :: .inr (.inr (.inl a)) :: st) g μ Q = (((mKd g a).1 = 10 ∧ 0 ≤ j ∧ j < (mKd g a).2) ∧ Wp E 87 87 ls st g (mUp μ a j.toNat v) Q) := Wp_iast k87_86
theorem k87_87 : mCode 87 87 = some (.aload_n 0, 1) := by decide +kernel
theorem x87_87 {E : ME} {ls : MLs} {st : List MV} {g : MG} {μ : MU} {Q : Option MV → MG → MU → Prop} {v : Nat ⊕ Nat} : Wp E 87 87 (some (.inr (.inr v)) :: ls) st g μ Q = Wp E 87 88 (some (.inr (.inr v)) :: ls) (.inr (.inr v) :: st) g μ Q := Wp_nx k87_87 rfl
theorem k87_88 : mCode 87 88 = some (.getfield 38, 3) := by decide +kernel
theorem x87_88 {E : ME} {ls : MLs} {st : List MV} {g : MG} {μ : MU} {Q : Option MV → MG → MU → Prop} {a : Nat} : Wp E 87 88 ls (.inr (.inr (.inl a)) :: st) g μ Q = ((mKd g a).1 = 6 ∧ Wp E 87 91 ls (mRv (mRf g a 12) :: st) g μ Q) := Wp_getR k87_88 f6_38 (by decide) (by decide)
theorem k87_91 : mCode 87 91 = some (.bipush 6, 2) := by decide +kernel
theorem x87_91 {E : ME} {ls : MLs} {st : List MV} {g : MG} {μ : MU} {Q : Option MV → MG → MU → Prop} : Wp E 87 91 ls st g μ Q = Wp E 87 93 ls (.inl 6 :: st) g μ Q := Wp_nx k87_91 rfl
theorem k87_93 : mCode 87 93 = some (.iload_n 1, 1) := by decide +kernel
theorem x87_93 {E : ME} {ls : MLs} {st : List MV} {g : MG} {μ : MU} {Q : Option MV → MG → MU → Prop} {l0 : Option MV} {v : Int} : Wp E 87 93 (l0 :: some (.inl v) :: ls) st g μ Q = Wp E 87 94 (l0 :: some (.inl v) :: ls) (.inl v :: st) g μ Q := Wp_nx k87_93 rfl
theorem k87_94 : mCode 87 94 = some (.imul, 1) := by decide +kernel
theorem x87_94 {E : ME} {ls : MLs} {st : List MV} {g : MG} {μ : MU} {Q : Option MV → MG → MU → Prop} {a b : Int} : Wp E 87 94 ls (.inl b :: .inl a :: st) g μ Q = Wp E 87 95 ls (.inl (mWr (a * b)) :: st) g μ Q := Wp_nx k87_94 rfl
theorem k87_95 : mCode 87 95 = some (.iload_n 2, 1) := by decide +kernel
theorem x87_95 {E : ME} {ls : MLs} {st : List MV} {g : MG} {μ : MU} {Q : Option MV → MG → MU → Prop} {l0 l1 : Option MV} {v : Int} : Wp E 87 95 (l0 :: l1 :: some (.inl v) :: ls) st g μ Q = Wp E 87 96 (l0 :: l1 :: some (.inl v) :: ls) (.inl v :: st) g μ Q := Wp_nx k87_95 rfl
theorem k87_96 : mCode 87 96 = some (.iadd, 1) := by decide +kernel
theorem x87_96 {E : ME} {ls : MLs} {st : List MV} {g : MG} {μ : MU} {Q : Option MV → MG → MU → Prop} {a b : Int} : Wp E 87 96 ls (.inl b :: .inl a :: st) g μ Q = Wp E 87 97 ls (.inl (mWr (a + b)) :: st) g μ Q := Wp_nx k87_96 rfl
theorem k87_97 : mCode 87 97 = some (.bipush (-6), 2) := by decide +kernel
theorem x87_97 {E : ME} {ls : MLs} {st : List MV} {g : MG} {μ : MU} {Q : Option MV → MG → MU → Prop} : Wp E 87 97 ls st g μ Q = Wp E 87 99 ls (.inl (-6) :: st) g μ Q := Wp_nx k87_97 rfl
theorem k87_99 : mCode 87 99 = some (.iastore, 1) := by decide +kernel
theorem x87_99 {E : ME} {ls : MLs} {st : List MV} {g : MG} {μ : MU} {Q : Option MV → MG → MU → Prop} {a : Nat} {j v : Int} : Wp E 87 99 ls (.inl v :: .inl j :: .inr (.inr (.inl a)) :: st) g μ Q = (((mKd g a).1 = 10 ∧ 0 ≤ j ∧ j < (mKd g a).2) ∧ Wp E 87 100 ls st g (mUp μ a j.toNat v) Q) := Wp_iast k87_99
theorem k87_100 : mCode 87 100 = some (.iload_n 3, 1) := by decide +kernel
theorem x87_100 {E : ME} {ls : MLs} {st : List MV} {g : MG} {μ : MU} {Q : Option MV → MG → MU → Prop} {l0 l1 l2 : Option MV} {v : Int} : Wp E 87 100 (l0 :: l1 :: l2 :: some (.inl v) :: ls) st g μ Q = Wp E 87 101 (l0 :: l1 :: l2 :: some (.inl v) :: ls) (.inl v :: st) g μ Q := Wp_nx k87_100 rfl
theorem k87_101 : mCode 87 101 = some (.ireturn, 1) := by decide +kernel
theorem x87_101 {E : ME} {ls : MLs} {g : MG} {μ : MU} {Q : Option MV → MG → MU → Prop} {v : Int} : Wp E 87 101 ls [.inl v] g μ Q = Q (some (.inl v)) g μ := Wp_retI k87_101 (by decide)
theorem k87_102 : mCode 87 102 = some (.aload_n 0, 1) := by decide +kernel
theorem x87_102 {E : ME} {ls : MLs} {st : List MV} {g : MG} {μ : MU} {Q : Option MV → MG → MU → Prop} {v : Nat ⊕ Nat} : Wp E 87 102 (some (.inr (.inr v)) :: ls) st g μ Q = Wp E 87 103 (some (.inr (.inr v)) :: ls) (.inr (.inr v) :: st) g μ Q := Wp_nx k87_102 rfl
theorem k87_103 : mCode 87 103 = some (.iload 4, 2) := by decide +kernel
theorem x87_103 {E : ME} {ls : MLs} {st : List MV} {g : MG} {μ : MU} {Q : Option MV → MG → MU → Prop} {l0 l1 l2 l3 : Option MV} {v : Int} : Wp E 87 103 (l0 :: l1 :: l2 :: l3 :: some (.inl v) :: ls) st g μ Q = Wp E 87 105 (l0 :: l1 :: l2 :: l3 :: some (.inl v) :: ls) (.inl v :: st) g μ Q := Wp_nx k87_103 rfl
theorem k87_105 : mCode 87 105 = some (.iconst 3, 1) := by decide +kernel
theorem x87_105 {E : ME} {ls : MLs} {st : List MV} {g : MG} {μ : MU} {Q : Option MV → MG → MU → Prop} : Wp E 87 105 ls st g μ Q = Wp E 87 106 ls (.inl 3 :: st) g μ Q := Wp_nx k87_105 rfl
theorem k87_106 : mCode 87 106 = some (.iload_n 2, 1) := by decide +kernel
theorem x87_106 {E : ME} {ls : MLs} {st : List MV} {g : MG} {μ : MU} {Q : Option MV → MG → MU → Prop} {l0 l1 : Option MV} {v : Int} : Wp E 87 106 (l0 :: l1 :: some (.inl v) :: ls) st g μ Q = Wp E 87 107 (l0 :: l1 :: some (.inl v) :: ls) (.inl v :: st) g μ Q := Wp_nx k87_106 rfl
theorem k87_107 : mCode 87 107 = some (.iadd, 1) := by decide +kernel
theorem x87_107 {E : ME} {ls : MLs} {st : List MV} {g : MG} {μ : MU} {Q : Option MV → MG → MU → Prop} {a b : Int} : Wp E 87 107 ls (.inl b :: .inl a :: st) g μ Q = Wp E 87 108 ls (.inl (mWr (a + b)) :: st) g μ Q := Wp_nx k87_107 rfl
theorem k87_108 : mCode 87 108 = some (.invokevirtual 77, 3) := by decide +kernel
theorem x87_108 {E : ME} {ls : MLs} {st : List MV} {g : MG} {μ : MU} {Q : Option MV → MG → MU → Prop} {r : Nat} {a0 : Int} {a1 : Int} : Wp E 87 108 ls (.inl a1 :: .inl a0 :: .inr (.inr (.inl r)) :: st) g μ Q = ((st.length ≤ 4 ∧ ((mKd g r).1 == 6) = true) ∧ Wp E 78 0 [some (.inr (.inr (.inl r))), some (.inl a0), some (.inl a1)] [] g μ (fun r g' μ' => (g'.1 = g.1 ∧ g'.2.1 = g.2.1) ∧ Wp E 87 111 ls (mPush r st) g' μ' Q)) := Wp_cV k87_108 m6_77 (by decide) (as := [.inr (.inr (.inl r)), .inl a0, .inl a1]) rfl rfl rfl ⟨Nat.le_of_ble_eq_true rfl, by decide⟩
theorem k87_111 : mCode 87 111 = some (.istore 9, 2) := by decide +kernel
theorem x87_111 {E : ME} {ls : MLs} {st : List MV} {g : MG} {μ : MU} {Q : Option MV → MG → MU → Prop} {l0 l1 l2 l3 l4 l5 l6 l7 l8 : Option MV} {lk : Option MV} {v : Int} : Wp E 87 111 (l0 :: l1 :: l2 :: l3 :: l4 :: l5 :: l6 :: l7 :: l8 :: lk :: ls) (.inl v :: st) g μ Q = ((mNl (some l8) = true ∧ mNl (some lk) = true) ∧ Wp E 87 113 (l0 :: l1 :: l2 :: l3 :: l4 :: l5 :: l6 :: l7 :: l8 :: some (.inl v) :: ls) st g μ Q) := Wp_sti k87_111 (fun _ => rfl) rfl rfl rfl
theorem k87_113 : mCode 87 113 = some (.iload 9, 2) := by decide +kernel
theorem x87_113 {E : ME} {ls : MLs} {st : List MV} {g : MG} {μ : MU} {Q : Option MV → MG → MU → Prop} {l0 l1 l2 l3 l4 l5 l6 l7 l8 : Option MV} {v : Int} : Wp E 87 113 (l0 :: l1 :: l2 :: l3 :: l4 :: l5 :: l6 :: l7 :: l8 :: some (.inl v) :: ls) st g μ Q = Wp E 87 115 (l0 :: l1 :: l2 :: l3 :: l4 :: l5 :: l6 :: l7 :: l8 :: some (.inl v) :: ls) (.inl v :: st) g μ Q := Wp_nx k87_113 rfl
theorem k87_115 : mCode 87 115 = some (.ifCond .le 30, 3) := by decide +kernel
theorem x87_115 {E : ME} {ls : MLs} {st : List MV} {g : MG} {μ : MU} {Q : Option MV → MG → MU → Prop} {a : Int} : Wp E 87 115 ls (.inl a :: st) g μ Q = ((a ≤ 0 → Wp E 87 145 ls st g μ Q) ∧ (0 < a → Wp E 87 118 ls st g μ Q)) := Wp_if_le k87_115 (by decide)
theorem k87_118 : mCode 87 118 = some (.aload_n 0, 1) := by decide +kernel
theorem x87_118 {E : ME} {ls : MLs} {st : List MV} {g : MG} {μ : MU} {Q : Option MV → MG → MU → Prop} {v : Nat ⊕ Nat} : Wp E 87 118 (some (.inr (.inr v)) :: ls) st g μ Q = Wp E 87 119 (some (.inr (.inr v)) :: ls) (.inr (.inr v) :: st) g μ Q := Wp_nx k87_118 rfl
theorem k87_119 : mCode 87 119 = some (.getfield 53, 3) := by decide +kernel
theorem x87_119 {E : ME} {ls : MLs} {st : List MV} {g : MG} {μ : MU} {Q : Option MV → MG → MU → Prop} {a : Nat} : Wp E 87 119 ls (.inr (.inr (.inl a)) :: st) g μ Q = ((mKd g a).1 = 6 ∧ Wp E 87 122 ls (mRv (mRf g a 18) :: st) g μ Q) := Wp_getR k87_119 f6_53 (by decide) (by decide)
theorem k87_122 : mCode 87 122 = some (.iload 5, 2) := by decide +kernel
theorem x87_122 {E : ME} {ls : MLs} {st : List MV} {g : MG} {μ : MU} {Q : Option MV → MG → MU → Prop} {l0 l1 l2 l3 l4 : Option MV} {v : Int} : Wp E 87 122 (l0 :: l1 :: l2 :: l3 :: l4 :: some (.inl v) :: ls) st g μ Q = Wp E 87 124 (l0 :: l1 :: l2 :: l3 :: l4 :: some (.inl v) :: ls) (.inl v :: st) g μ Q := Wp_nx k87_122 rfl
theorem k87_124 : mCode 87 124 = some (.baload, 1) := by decide +kernel
theorem x87_124 {E : ME} {ls : MLs} {st : List MV} {g : MG} {μ : MU} {Q : Option MV → MG → MU → Prop} {a : Nat} {j : Int} : Wp E 87 124 ls (.inl j :: .inr (.inr (.inl a)) :: st) g μ Q = (((mKd g a).1 = 12 ∧ 0 ≤ j ∧ j < (mKd g a).2) ∧ Wp E 87 125 ls (.inl (μ a j.toNat) :: st) g μ Q) := Wp_ald k87_124 (fun _ => rfl)
theorem k87_125 : mCode 87 125 = some (.ifCond .ne 20, 3) := by decide +kernel
theorem x87_125 {E : ME} {ls : MLs} {st : List MV} {g : MG} {μ : MU} {Q : Option MV → MG → MU → Prop} {a : Int} : Wp E 87 125 ls (.inl a :: st) g μ Q = ((¬ a = 0 → Wp E 87 145 ls st g μ Q) ∧ (a = 0 → Wp E 87 128 ls st g μ Q)) := Wp_if_ne k87_125 (by decide)
theorem k87_128 : mCode 87 128 = some (.aload_n 0, 1) := by decide +kernel
theorem x87_128 {E : ME} {ls : MLs} {st : List MV} {g : MG} {μ : MU} {Q : Option MV → MG → MU → Prop} {v : Nat ⊕ Nat} : Wp E 87 128 (some (.inr (.inr v)) :: ls) st g μ Q = Wp E 87 129 (some (.inr (.inr v)) :: ls) (.inr (.inr v) :: st) g μ Q := Wp_nx k87_128 rfl
theorem k87_129 : mCode 87 129 = some (.iload_n 1, 1) := by decide +kernel
theorem x87_129 {E : ME} {ls : MLs} {st : List MV} {g : MG} {μ : MU} {Q : Option MV → MG → MU → Prop} {l0 : Option MV} {v : Int} : Wp E 87 129 (l0 :: some (.inl v) :: ls) st g μ Q = Wp E 87 130 (l0 :: some (.inl v) :: ls) (.inl v :: st) g μ Q := Wp_nx k87_129 rfl
theorem k87_130 : mCode 87 130 = some (.iconst 2, 1) := by decide +kernel
theorem x87_130 {E : ME} {ls : MLs} {st : List MV} {g : MG} {μ : MU} {Q : Option MV → MG → MU → Prop} : Wp E 87 130 ls st g μ Q = Wp E 87 131 ls (.inl 2 :: st) g μ Q := Wp_nx k87_130 rfl
theorem k87_131 : mCode 87 131 = some (.invokevirtual 87, 3) := by decide +kernel
theorem x87_131 {E : ME} {ls : MLs} {st : List MV} {g : MG} {μ : MU} {Q : Option MV → MG → MU → Prop} {r : Nat} {a0 : Int} {a1 : Int} : Wp E 87 131 ls (.inl a1 :: .inl a0 :: .inr (.inr (.inl r)) :: st) g μ Q = ((st.length ≤ 4 ∧ ((mKd g r).1 == 6) = true) ∧ Wp E 79 0 [some (.inr (.inr (.inl r))), some (.inl a0), some (.inl a1)] [] g μ (fun r g' μ' => (g'.1 = g.1 ∧ g'.2.1 = g.2.1) ∧ Wp E 87 134 ls (mPush r st) g' μ' Q)) := Wp_cV k87_131 m6_87 (by decide) (as := [.inr (.inr (.inl r)), .inl a0, .inl a1]) rfl rfl rfl ⟨Nat.le_of_ble_eq_true rfl, by decide⟩
theorem k87_134 : mCode 87 134 = some (.iload 9, 2) := by decide +kernel
theorem x87_134 {E : ME} {ls : MLs} {st : List MV} {g : MG} {μ : MU} {Q : Option MV → MG → MU → Prop} {l0 l1 l2 l3 l4 l5 l6 l7 l8 : Option MV} {v : Int} : Wp E 87 134 (l0 :: l1 :: l2 :: l3 :: l4 :: l5 :: l6 :: l7 :: l8 :: some (.inl v) :: ls) st g μ Q = Wp E 87 136 (l0 :: l1 :: l2 :: l3 :: l4 :: l5 :: l6 :: l7 :: l8 :: some (.inl v) :: ls) (.inl v :: st) g μ Q := Wp_nx k87_134 rfl
theorem k87_136 : mCode 87 136 = some (.iconst 1, 1) := by decide +kernel
theorem x87_136 {E : ME} {ls : MLs} {st : List MV} {g : MG} {μ : MU} {Q : Option MV → MG → MU → Prop} : Wp E 87 136 ls st g μ Q = Wp E 87 137 ls (.inl 1 :: st) g μ Q := Wp_nx k87_136 rfl
theorem k87_137 : mCode 87 137 = some (.isub, 1) := by decide +kernel
theorem x87_137 {E : ME} {ls : MLs} {st : List MV} {g : MG} {μ : MU} {Q : Option MV → MG → MU → Prop} {a b : Int} : Wp E 87 137 ls (.inl b :: .inl a :: st) g μ Q = Wp E 87 138 ls (.inl (mWr (a - b)) :: st) g μ Q := Wp_nx k87_137 rfl
theorem k87_138 : mCode 87 138 = some (.if_icmp .lt 7, 3) := by decide +kernel
theorem x87_138 {E : ME} {ls : MLs} {st : List MV} {g : MG} {μ : MU} {Q : Option MV → MG → MU → Prop} {a b : Int} : Wp E 87 138 ls (.inl b :: .inl a :: st) g μ Q = ((a < b → Wp E 87 145 ls st g μ Q) ∧ (b ≤ a → Wp E 87 141 ls st g μ Q)) := Wp_cmp_lt k87_138 (by decide)
theorem k87_141 : mCode 87 141 = some (.iconst 1, 1) := by decide +kernel
theorem x87_141 {E : ME} {ls : MLs} {st : List MV} {g : MG} {μ : MU} {Q : Option MV → MG → MU → Prop} : Wp E 87 141 ls st g μ Q = Wp E 87 142 ls (.inl 1 :: st) g μ Q := Wp_nx k87_141 rfl
theorem k87_142 : mCode 87 142 = some (.goto 4, 3) := by decide +kernel
theorem x87_142 {E : ME} {ls : MLs} {st : List MV} {g : MG} {μ : MU} {Q : Option MV → MG → MU → Prop} : Wp E 87 142 ls st g μ Q = Wp E 87 146 ls st g μ Q := Wp_goto k87_142 (by decide)
theorem k87_145 : mCode 87 145 = some (.iconst 0, 1) := by decide +kernel
theorem x87_145 {E : ME} {ls : MLs} {st : List MV} {g : MG} {μ : MU} {Q : Option MV → MG → MU → Prop} : Wp E 87 145 ls st g μ Q = Wp E 87 146 ls (.inl 0 :: st) g μ Q := Wp_nx k87_145 rfl
theorem k87_146 : mCode 87 146 = some (.istore 10, 2) := by decide +kernel
theorem x87_146 {E : ME} {ls : MLs} {st : List MV} {g : MG} {μ : MU} {Q : Option MV → MG → MU → Prop} {l0 l1 l2 l3 l4 l5 l6 l7 l8 l9 : Option MV} {lk : Option MV} {v : Int} : Wp E 87 146 (l0 :: l1 :: l2 :: l3 :: l4 :: l5 :: l6 :: l7 :: l8 :: l9 :: lk :: ls) (.inl v :: st) g μ Q = ((mNl (some l9) = true ∧ mNl (some lk) = true) ∧ Wp E 87 148 (l0 :: l1 :: l2 :: l3 :: l4 :: l5 :: l6 :: l7 :: l8 :: l9 :: some (.inl v) :: ls) st g μ Q) := Wp_sti k87_146 (fun _ => rfl) rfl rfl rfl
theorem k87_148 : mCode 87 148 = some (.aload_n 0, 1) := by decide +kernel
theorem x87_148 {E : ME} {ls : MLs} {st : List MV} {g : MG} {μ : MU} {Q : Option MV → MG → MU → Prop} {v : Nat ⊕ Nat} : Wp E 87 148 (some (.inr (.inr v)) :: ls) st g μ Q = Wp E 87 149 (some (.inr (.inr v)) :: ls) (.inr (.inr v) :: st) g μ Q := Wp_nx k87_148 rfl
theorem k87_149 : mCode 87 149 = some (.getfield 53, 3) := by decide +kernel
theorem x87_149 {E : ME} {ls : MLs} {st : List MV} {g : MG} {μ : MU} {Q : Option MV → MG → MU → Prop} {a : Nat} : Wp E 87 149 ls (.inr (.inr (.inl a)) :: st) g μ Q = ((mKd g a).1 = 6 ∧ Wp E 87 152 ls (mRv (mRf g a 18) :: st) g μ Q) := Wp_getR k87_149 f6_53 (by decide) (by decide)
theorem k87_152 : mCode 87 152 = some (.iload 5, 2) := by decide +kernel
theorem x87_152 {E : ME} {ls : MLs} {st : List MV} {g : MG} {μ : MU} {Q : Option MV → MG → MU → Prop} {l0 l1 l2 l3 l4 : Option MV} {v : Int} : Wp E 87 152 (l0 :: l1 :: l2 :: l3 :: l4 :: some (.inl v) :: ls) st g μ Q = Wp E 87 154 (l0 :: l1 :: l2 :: l3 :: l4 :: some (.inl v) :: ls) (.inl v :: st) g μ Q := Wp_nx k87_152 rfl
theorem k87_154 : mCode 87 154 = some (.aload_n 0, 1) := by decide +kernel
theorem x87_154 {E : ME} {ls : MLs} {st : List MV} {g : MG} {μ : MU} {Q : Option MV → MG → MU → Prop} {v : Nat ⊕ Nat} : Wp E 87 154 (some (.inr (.inr v)) :: ls) st g μ Q = Wp E 87 155 (some (.inr (.inr v)) :: ls) (.inr (.inr v) :: st) g μ Q := Wp_nx k87_154 rfl
theorem k87_155 : mCode 87 155 = some (.getfield 53, 3) := by decide +kernel
theorem x87_155 {E : ME} {ls : MLs} {st : List MV} {g : MG} {μ : MU} {Q : Option MV → MG → MU → Prop} {a : Nat} : Wp E 87 155 ls (.inr (.inr (.inl a)) :: st) g μ Q = ((mKd g a).1 = 6 ∧ Wp E 87 158 ls (mRv (mRf g a 18) :: st) g μ Q) := Wp_getR k87_155 f6_53 (by decide) (by decide)
theorem k87_158 : mCode 87 158 = some (.iload 5, 2) := by decide +kernel
theorem x87_158 {E : ME} {ls : MLs} {st : List MV} {g : MG} {μ : MU} {Q : Option MV → MG → MU → Prop} {l0 l1 l2 l3 l4 : Option MV} {v : Int} : Wp E 87 158 (l0 :: l1 :: l2 :: l3 :: l4 :: some (.inl v) :: ls) st g μ Q = Wp E 87 160 (l0 :: l1 :: l2 :: l3 :: l4 :: some (.inl v) :: ls) (.inl v :: st) g μ Q := Wp_nx k87_158 rfl
theorem k87_160 : mCode 87 160 = some (.baload, 1) := by decide +kernel
theorem x87_160 {E : ME} {ls : MLs} {st : List MV} {g : MG} {μ : MU} {Q : Option MV → MG → MU → Prop} {a : Nat} {j : Int} : Wp E 87 160 ls (.inl j :: .inr (.inr (.inl a)) :: st) g μ Q = (((mKd g a).1 = 12 ∧ 0 ≤ j ∧ j < (mKd g a).2) ∧ Wp E 87 161 ls (.inl (μ a j.toNat) :: st) g μ Q) := Wp_ald k87_160 (fun _ => rfl)
theorem k87_161 : mCode 87 161 = some (.ifCond .ne 8, 3) := by decide +kernel
theorem x87_161 {E : ME} {ls : MLs} {st : List MV} {g : MG} {μ : MU} {Q : Option MV → MG → MU → Prop} {a : Int} : Wp E 87 161 ls (.inl a :: st) g μ Q = ((¬ a = 0 → Wp E 87 169 ls st g μ Q) ∧ (a = 0 → Wp E 87 164 ls st g μ Q)) := Wp_if_ne k87_161 (by decide)
theorem k87_164 : mCode 87 164 = some (.iload 10, 2) := by decide +kernel
theorem x87_164 {E : ME} {ls : MLs} {st : List MV} {g : MG} {μ : MU} {Q : Option MV → MG → MU → Prop} {l0 l1 l2 l3 l4 l5 l6 l7 l8 l9 : Option MV} {v : Int} : Wp E 87 164 (l0 :: l1 :: l2 :: l3 :: l4 :: l5 :: l6 :: l7 :: l8 :: l9 :: some (.inl v) :: ls) st g μ Q = Wp E 87 166 (l0 :: l1 :: l2 :: l3 :: l4 :: l5 :: l6 :: l7 :: l8 :: l9 :: some (.inl v) :: ls) (.inl v :: st) g μ Q := Wp_nx k87_164 rfl
theorem k87_166 : mCode 87 166 = some (.ifCond .eq 7, 3) := by decide +kernel
theorem x87_166 {E : ME} {ls : MLs} {st : List MV} {g : MG} {μ : MU} {Q : Option MV → MG → MU → Prop} {a : Int} : Wp E 87 166 ls (.inl a :: st) g μ Q = ((a = 0 → Wp E 87 173 ls st g μ Q) ∧ (¬ a = 0 → Wp E 87 169 ls st g μ Q)) := Wp_if_eq k87_166 (by decide)
theorem k87_169 : mCode 87 169 = some (.iconst 1, 1) := by decide +kernel
theorem x87_169 {E : ME} {ls : MLs} {st : List MV} {g : MG} {μ : MU} {Q : Option MV → MG → MU → Prop} : Wp E 87 169 ls st g μ Q = Wp E 87 170 ls (.inl 1 :: st) g μ Q := Wp_nx k87_169 rfl
theorem k87_170 : mCode 87 170 = some (.goto 4, 3) := by decide +kernel
theorem x87_170 {E : ME} {ls : MLs} {st : List MV} {g : MG} {μ : MU} {Q : Option MV → MG → MU → Prop} : Wp E 87 170 ls st g μ Q = Wp E 87 174 ls st g μ Q := Wp_goto k87_170 (by decide)
theorem k87_173 : mCode 87 173 = some (.iconst 0, 1) := by decide +kernel
theorem x87_173 {E : ME} {ls : MLs} {st : List MV} {g : MG} {μ : MU} {Q : Option MV → MG → MU → Prop} : Wp E 87 173 ls st g μ Q = Wp E 87 174 ls (.inl 0 :: st) g μ Q := Wp_nx k87_173 rfl
theorem k87_174 : mCode 87 174 = some (.bastore, 1) := by decide +kernel
theorem x87_174 {E : ME} {ls : MLs} {st : List MV} {g : MG} {μ : MU} {Q : Option MV → MG → MU → Prop} {a : Nat} {j v : Int} : Wp E 87 174 ls (.inl v :: .inl j :: .inr (.inr (.inl a)) :: st) g μ Q = (((mKd g a).1 = 12 ∧ 0 ≤ j ∧ j < (mKd g a).2 ∧ mOk 2 v = true) ∧ Wp E 87 175 ls st g (mUp μ a j.toNat v) Q) := Wp_ast k87_174 (fun _ => rfl)
theorem k87_175 : mCode 87 175 = some (.aload_n 0, 1) := by decide +kernel
theorem x87_175 {E : ME} {ls : MLs} {st : List MV} {g : MG} {μ : MU} {Q : Option MV → MG → MU → Prop} {v : Nat ⊕ Nat} : Wp E 87 175 (some (.inr (.inr v)) :: ls) st g μ Q = Wp E 87 176 (some (.inr (.inr v)) :: ls) (.inr (.inr v) :: st) g μ Q := Wp_nx k87_175 rfl
theorem k87_176 : mCode 87 176 = some (.getfield 32, 3) := by decide +kernel
theorem x87_176 {E : ME} {ls : MLs} {st : List MV} {g : MG} {μ : MU} {Q : Option MV → MG → MU → Prop} {a : Nat} : Wp E 87 176 ls (.inr (.inr (.inl a)) :: st) g μ Q = ((mKd g a).1 = 6 ∧ Wp E 87 179 ls (mRv (mRf g a 10) :: st) g μ Q) := Wp_getR k87_176 f6_32 (by decide) (by decide)
theorem k87_179 : mCode 87 179 = some (.iload_n 1, 1) := by decide +kernel
theorem x87_179 {E : ME} {ls : MLs} {st : List MV} {g : MG} {μ : MU} {Q : Option MV → MG → MU → Prop} {l0 : Option MV} {v : Int} : Wp E 87 179 (l0 :: some (.inl v) :: ls) st g μ Q = Wp E 87 180 (l0 :: some (.inl v) :: ls) (.inl v :: st) g μ Q := Wp_nx k87_179 rfl
theorem k87_180 : mCode 87 180 = some (.dup2, 1) := by decide +kernel
theorem x87_180 {E : ME} {ls : MLs} {st : List MV} {g : MG} {μ : MU} {Q : Option MV → MG → MU → Prop} {v w : MV} : Wp E 87 180 ls (v :: w :: st) g μ Q = ((mC1 v = true ∧ mC1 w = true) ∧ Wp E 87 181 ls (v :: w :: v :: w :: st) g μ Q) := Wp_dup2 k87_180
theorem k87_181 : mCode 87 181 = some (.iaload, 1) := by decide +kernel
theorem x87_181 {E : ME} {ls : MLs} {st : List MV} {g : MG} {μ : MU} {Q : Option MV → MG → MU → Prop} {a : Nat} {j : Int} : Wp E 87 181 ls (.inl j :: .inr (.inr (.inl a)) :: st) g μ Q = (((mKd g a).1 = 10 ∧ 0 ≤ j ∧ j < (mKd g a).2) ∧ Wp E 87 182 ls (.inl (μ a j.toNat) :: st) g μ Q) := Wp_ald k87_181 (fun _ => rfl)
theorem k87_182 : mCode 87 182 = some (.iload 8, 2) := by decide +kernel
theorem x87_182 {E : ME} {ls : MLs} {st : List MV} {g : MG} {μ : MU} {Q : Option MV → MG → MU → Prop} {l0 l1 l2 l3 l4 l5 l6 l7 : Option MV} {v : Int} : Wp E 87 182 (l0 :: l1 :: l2 :: l3 :: l4 :: l5 :: l6 :: l7 :: some (.inl v) :: ls) st g μ Q = Wp E 87 184 (l0 :: l1 :: l2 :: l3 :: l4 :: l5 :: l6 :: l7 :: some (.inl v) :: ls) (.inl v :: st) g μ Q := Wp_nx k87_182 rfl
theorem k87_184 : mCode 87 184 = some (.iload_n 3, 1) := by decide +kernel
theorem x87_184 {E : ME} {ls : MLs} {st : List MV} {g : MG} {μ : MU} {Q : Option MV → MG → MU → Prop} {l0 l1 l2 : Option MV} {v : Int} : Wp E 87 184 (l0 :: l1 :: l2 :: some (.inl v) :: ls) st g μ Q = Wp E 87 185 (l0 :: l1 :: l2 :: some (.inl v) :: ls) (.inl v :: st) g μ Q := Wp_nx k87_184 rfl
theorem k87_185 : mCode 87 185 = some (.isub, 1) := by decide +kernel
theorem x87_185 {E : ME} {ls : MLs} {st : List MV} {g : MG} {μ : MU} {Q : Option MV → MG → MU → Prop} {a b : Int} : Wp E 87 185 ls (.inl b :: .inl a :: st) g μ Q = Wp E 87 186 ls (.inl (mWr (a - b)) :: st) g μ Q := Wp_nx k87_185 rfl
theorem k87_186 : mCode 87 186 = some (.iadd, 1) := by decide +kernel
theorem x87_186 {E : ME} {ls : MLs} {st : List MV} {g : MG} {μ : MU} {Q : Option MV → MG → MU → Prop} {a b : Int} : Wp E 87 186 ls (.inl b :: .inl a :: st) g μ Q = Wp E 87 187 ls (.inl (mWr (a + b)) :: st) g μ Q := Wp_nx k87_186 rfl
theorem k87_187 : mCode 87 187 = some (.iastore, 1) := by decide +kernel
theorem x87_187 {E : ME} {ls : MLs} {st : List MV} {g : MG} {μ : MU} {Q : Option MV → MG → MU → Prop} {a : Nat} {j v : Int} : Wp E 87 187 ls (.inl v :: .inl j :: .inr (.inr (.inl a)) :: st) g μ Q = (((mKd g a).1 = 10 ∧ 0 ≤ j ∧ j < (mKd g a).2) ∧ Wp E 87 188 ls st g (mUp μ a j.toNat v) Q) := Wp_iast k87_187
theorem k87_188 : mCode 87 188 = some (.aload_n 0, 1) := by decide +kernel
theorem x87_188 {E : ME} {ls : MLs} {st : List MV} {g : MG} {μ : MU} {Q : Option MV → MG → MU → Prop} {v : Nat ⊕ Nat} : Wp E 87 188 (some (.inr (.inr v)) :: ls) st g μ Q = Wp E 87 189 (some (.inr (.inr v)) :: ls) (.inr (.inr v) :: st) g μ Q := Wp_nx k87_188 rfl
theorem k87_189 : mCode 87 189 = some (.getfield 44, 3) := by decide +kernel
theorem x87_189 {E : ME} {ls : MLs} {st : List MV} {g : MG} {μ : MU} {Q : Option MV → MG → MU → Prop} {a : Nat} : Wp E 87 189 ls (.inr (.inr (.inl a)) :: st) g μ Q = ((mKd g a).1 = 6 ∧ Wp E 87 192 ls (mRv (mRf g a 14) :: st) g μ Q) := Wp_getR k87_189 f6_44 (by decide) (by decide)
theorem k87_192 : mCode 87 192 = some (.iload 4, 2) := by decide +kernel
theorem x87_192 {E : ME} {ls : MLs} {st : List MV} {g : MG} {μ : MU} {Q : Option MV → MG → MU → Prop} {l0 l1 l2 l3 : Option MV} {v : Int} : Wp E 87 192 (l0 :: l1 :: l2 :: l3 :: some (.inl v) :: ls) st g μ Q = Wp E 87 194 (l0 :: l1 :: l2 :: l3 :: some (.inl v) :: ls) (.inl v :: st) g μ Q := Wp_nx k87_192 rfl
theorem k87_194 : mCode 87 194 = some (.dup2, 1) := by decide +kernel
theorem x87_194 {E : ME} {ls : MLs} {st : List MV} {g : MG} {μ : MU} {Q : Option MV → MG → MU → Prop} {v w : MV} : Wp E 87 194 ls (v :: w :: st) g μ Q = ((mC1 v = true ∧ mC1 w = true) ∧ Wp E 87 195 ls (v :: w :: v :: w :: st) g μ Q) := Wp_dup2 k87_194
theorem k87_195 : mCode 87 195 = some (.iaload, 1) := by decide +kernel
theorem x87_195 {E : ME} {ls : MLs} {st : List MV} {g : MG} {μ : MU} {Q : Option MV → MG → MU → Prop} {a : Nat} {j : Int} : Wp E 87 195 ls (.inl j :: .inr (.inr (.inl a)) :: st) g μ Q = (((mKd g a).1 = 10 ∧ 0 ≤ j ∧ j < (mKd g a).2) ∧ Wp E 87 196 ls (.inl (μ a j.toNat) :: st) g μ Q) := Wp_ald k87_195 (fun _ => rfl)
theorem k87_196 : mCode 87 196 = some (.aload_n 0, 1) := by decide +kernel
theorem x87_196 {E : ME} {ls : MLs} {st : List MV} {g : MG} {μ : MU} {Q : Option MV → MG → MU → Prop} {v : Nat ⊕ Nat} : Wp E 87 196 (some (.inr (.inr v)) :: ls) st g μ Q = Wp E 87 197 (some (.inr (.inr v)) :: ls) (.inr (.inr v) :: st) g μ Q := Wp_nx k87_196 rfl
theorem k87_197 : mCode 87 197 = some (.getfield 47, 3) := by decide +kernel
theorem x87_197 {E : ME} {ls : MLs} {st : List MV} {g : MG} {μ : MU} {Q : Option MV → MG → MU → Prop} {a : Nat} : Wp E 87 197 ls (.inr (.inr (.inl a)) :: st) g μ Q = ((mKd g a).1 = 6 ∧ Wp E 87 200 ls (mRv (mRf g a 16) :: st) g μ Q) := Wp_getR k87_197 f6_47 (by decide) (by decide)
theorem k87_200 : mCode 87 200 = some (.iload 5, 2) := by decide +kernel
theorem x87_200 {E : ME} {ls : MLs} {st : List MV} {g : MG} {μ : MU} {Q : Option MV → MG → MU → Prop} {l0 l1 l2 l3 l4 : Option MV} {v : Int} : Wp E 87 200 (l0 :: l1 :: l2 :: l3 :: l4 :: some (.inl v) :: ls) st g μ Q = Wp E 87 202 (l0 :: l1 :: l2 :: l3 :: l4 :: some (.inl v) :: ls) (.inl v :: st) g μ Q := Wp_nx k87_200 rfl
theorem k87_202 : mCode 87 202 = some (.iaload, 1) := by decide +kernel
theorem x87_202 {E : ME} {ls : MLs} {st : List MV} {g : MG} {μ : MU} {Q : Option MV → MG → MU → Prop} {a : Nat} {j : Int} : Wp E 87 202 ls (.inl j :: .inr (.inr (.inl a)) :: st) g μ Q = (((mKd g a).1 = 10 ∧ 0 ≤ j ∧ j < (mKd g a).2) ∧ Wp E 87 203 ls (.inl (μ a j.toNat) :: st) g μ Q) := Wp_ald k87_202 (fun _ => rfl)
theorem k87_203 : mCode 87 203 = some (.iload 6, 2) := by decide +kernel
theorem x87_203 {E : ME} {ls : MLs} {st : List MV} {g : MG} {μ : MU} {Q : Option MV → MG → MU → Prop} {l0 l1 l2 l3 l4 l5 : Option MV} {v : Int} : Wp E 87 203 (l0 :: l1 :: l2 :: l3 :: l4 :: l5 :: some (.inl v) :: ls) st g μ Q = Wp E 87 205 (l0 :: l1 :: l2 :: l3 :: l4 :: l5 :: some (.inl v) :: ls) (.inl v :: st) g μ Q := Wp_nx k87_203 rfl
theorem k87_205 : mCode 87 205 = some (.if_icmp .ne 7, 3) := by decide +kernel
theorem x87_205 {E : ME} {ls : MLs} {st : List MV} {g : MG} {μ : MU} {Q : Option MV → MG → MU → Prop} {a b : Int} : Wp E 87 205 ls (.inl b :: .inl a :: st) g μ Q = ((¬ a = b → Wp E 87 212 ls st g μ Q) ∧ (a = b → Wp E 87 208 ls st g μ Q)) := Wp_cmp_ne k87_205 (by decide)
theorem k87_208 : mCode 87 208 = some (.iconst 0, 1) := by decide +kernel
theorem x87_208 {E : ME} {ls : MLs} {st : List MV} {g : MG} {μ : MU} {Q : Option MV → MG → MU → Prop} : Wp E 87 208 ls st g μ Q = Wp E 87 209 ls (.inl 0 :: st) g μ Q := Wp_nx k87_208 rfl
theorem k87_209 : mCode 87 209 = some (.goto 4, 3) := by decide +kernel
theorem x87_209 {E : ME} {ls : MLs} {st : List MV} {g : MG} {μ : MU} {Q : Option MV → MG → MU → Prop} : Wp E 87 209 ls st g μ Q = Wp E 87 213 ls st g μ Q := Wp_goto k87_209 (by decide)
theorem k87_212 : mCode 87 212 = some (.iconst 1, 1) := by decide +kernel
theorem x87_212 {E : ME} {ls : MLs} {st : List MV} {g : MG} {μ : MU} {Q : Option MV → MG → MU → Prop} : Wp E 87 212 ls st g μ Q = Wp E 87 213 ls (.inl 1 :: st) g μ Q := Wp_nx k87_212 rfl
theorem k87_213 : mCode 87 213 = some (.iadd, 1) := by decide +kernel
theorem x87_213 {E : ME} {ls : MLs} {st : List MV} {g : MG} {μ : MU} {Q : Option MV → MG → MU → Prop} {a b : Int} : Wp E 87 213 ls (.inl b :: .inl a :: st) g μ Q = Wp E 87 214 ls (.inl (mWr (a + b)) :: st) g μ Q := Wp_nx k87_213 rfl
theorem k87_214 : mCode 87 214 = some (.iastore, 1) := by decide +kernel
theorem x87_214 {E : ME} {ls : MLs} {st : List MV} {g : MG} {μ : MU} {Q : Option MV → MG → MU → Prop} {a : Nat} {j v : Int} : Wp E 87 214 ls (.inl v :: .inl j :: .inr (.inr (.inl a)) :: st) g μ Q = (((mKd g a).1 = 10 ∧ 0 ≤ j ∧ j < (mKd g a).2) ∧ Wp E 87 215 ls st g (mUp μ a j.toNat v) Q) := Wp_iast k87_214
theorem k87_215 : mCode 87 215 = some (.aload_n 0, 1) := by decide +kernel
theorem x87_215 {E : ME} {ls : MLs} {st : List MV} {g : MG} {μ : MU} {Q : Option MV → MG → MU → Prop} {v : Nat ⊕ Nat} : Wp E 87 215 (some (.inr (.inr v)) :: ls) st g μ Q = Wp E 87 216 (some (.inr (.inr v)) :: ls) (.inr (.inr v) :: st) g μ Q := Wp_nx k87_215 rfl
theorem k87_216 : mCode 87 216 = some (.getfield 47, 3) := by decide +kernel
theorem x87_216 {E : ME} {ls : MLs} {st : List MV} {g : MG} {μ : MU} {Q : Option MV → MG → MU → Prop} {a : Nat} : Wp E 87 216 ls (.inr (.inr (.inl a)) :: st) g μ Q = ((mKd g a).1 = 6 ∧ Wp E 87 219 ls (mRv (mRf g a 16) :: st) g μ Q) := Wp_getR k87_216 f6_47 (by decide) (by decide)
theorem k87_219 : mCode 87 219 = some (.iload 5, 2) := by decide +kernel
theorem x87_219 {E : ME} {ls : MLs} {st : List MV} {g : MG} {μ : MU} {Q : Option MV → MG → MU → Prop} {l0 l1 l2 l3 l4 : Option MV} {v : Int} : Wp E 87 219 (l0 :: l1 :: l2 :: l3 :: l4 :: some (.inl v) :: ls) st g μ Q = Wp E 87 221 (l0 :: l1 :: l2 :: l3 :: l4 :: some (.inl v) :: ls) (.inl v :: st) g μ Q := Wp_nx k87_219 rfl
theorem k87_221 : mCode 87 221 = some (.iload 6, 2) := by decide +kernel
theorem x87_221 {E : ME} {ls : MLs} {st : List MV} {g : MG} {μ : MU} {Q : Option MV → MG → MU → Prop} {l0 l1 l2 l3 l4 l5 : Option MV} {v : Int} : Wp E 87 221 (l0 :: l1 :: l2 :: l3 :: l4 :: l5 :: some (.inl v) :: ls) st g μ Q = Wp E 87 223 (l0 :: l1 :: l2 :: l3 :: l4 :: l5 :: some (.inl v) :: ls) (.inl v :: st) g μ Q := Wp_nx k87_221 rfl
theorem k87_223 : mCode 87 223 = some (.iastore, 1) := by decide +kernel
theorem x87_223 {E : ME} {ls : MLs} {st : List MV} {g : MG} {μ : MU} {Q : Option MV → MG → MU → Prop} {a : Nat} {j v : Int} : Wp E 87 223 ls (.inl v :: .inl j :: .inr (.inr (.inl a)) :: st) g μ Q = (((mKd g a).1 = 10 ∧ 0 ≤ j ∧ j < (mKd g a).2) ∧ Wp E 87 224 ls st g (mUp μ a j.toNat v) Q) := Wp_iast k87_223
theorem k87_224 : mCode 87 224 = some (.aload_n 0, 1) := by decide +kernel
theorem x87_224 {E : ME} {ls : MLs} {st : List MV} {g : MG} {μ : MU} {Q : Option MV → MG → MU → Prop} {v : Nat ⊕ Nat} : Wp E 87 224 (some (.inr (.inr v)) :: ls) st g μ Q = Wp E 87 225 (some (.inr (.inr v)) :: ls) (.inr (.inr v) :: st) g μ Q := Wp_nx k87_224 rfl
theorem k87_225 : mCode 87 225 = some (.getfield 50, 3) := by decide +kernel
theorem x87_225 {E : ME} {ls : MLs} {st : List MV} {g : MG} {μ : MU} {Q : Option MV → MG → MU → Prop} {a : Nat} : Wp E 87 225 ls (.inr (.inr (.inl a)) :: st) g μ Q = ((mKd g a).1 = 6 ∧ Wp E 87 228 ls (mRv (mRf g a 17) :: st) g μ Q) := Wp_getR k87_225 f6_50 (by decide) (by decide)
theorem k87_228 : mCode 87 228 = some (.iload 5, 2) := by decide +kernel
theorem x87_228 {E : ME} {ls : MLs} {st : List MV} {g : MG} {μ : MU} {Q : Option MV → MG → MU → Prop} {l0 l1 l2 l3 l4 : Option MV} {v : Int} : Wp E 87 228 (l0 :: l1 :: l2 :: l3 :: l4 :: some (.inl v) :: ls) st g μ Q = Wp E 87 230 (l0 :: l1 :: l2 :: l3 :: l4 :: some (.inl v) :: ls) (.inl v :: st) g μ Q := Wp_nx k87_228 rfl
theorem k87_230 : mCode 87 230 = some (.iload 8, 2) := by decide +kernel
theorem x87_230 {E : ME} {ls : MLs} {st : List MV} {g : MG} {μ : MU} {Q : Option MV → MG → MU → Prop} {l0 l1 l2 l3 l4 l5 l6 l7 : Option MV} {v : Int} : Wp E 87 230 (l0 :: l1 :: l2 :: l3 :: l4 :: l5 :: l6 :: l7 :: some (.inl v) :: ls) st g μ Q = Wp E 87 232 (l0 :: l1 :: l2 :: l3 :: l4 :: l5 :: l6 :: l7 :: some (.inl v) :: ls) (.inl v :: st) g μ Q := Wp_nx k87_230 rfl
theorem k87_232 : mCode 87 232 = some (.aload_n 0, 1) := by decide +kernel
theorem x87_232 {E : ME} {ls : MLs} {st : List MV} {g : MG} {μ : MU} {Q : Option MV → MG → MU → Prop} {v : Nat ⊕ Nat} : Wp E 87 232 (some (.inr (.inr v)) :: ls) st g μ Q = Wp E 87 233 (some (.inr (.inr v)) :: ls) (.inr (.inr v) :: st) g μ Q := Wp_nx k87_232 rfl
theorem k87_233 : mCode 87 233 = some (.getfield 7, 3) := by decide +kernel
theorem x87_233 {E : ME} {ls : MLs} {st : List MV} {g : MG} {μ : MU} {Q : Option MV → MG → MU → Prop} {a : Nat} : Wp E 87 233 ls (.inr (.inr (.inl a)) :: st) g μ Q = ((mKd g a).1 = 6 ∧ Wp E 87 236 ls (mRv (mRf g a 1) :: st) g μ Q) := Wp_getR k87_233 f6_7 (by decide) (by decide)
theorem k87_236 : mCode 87 236 = some (.iconst 0, 1) := by decide +kernel
theorem x87_236 {E : ME} {ls : MLs} {st : List MV} {g : MG} {μ : MU} {Q : Option MV → MG → MU → Prop} : Wp E 87 236 ls st g μ Q = Wp E 87 237 ls (.inl 0 :: st) g μ Q := Wp_nx k87_236 rfl
theorem k87_237 : mCode 87 237 = some (.iaload, 1) := by decide +kernel
theorem x87_237 {E : ME} {ls : MLs} {st : List MV} {g : MG} {μ : MU} {Q : Option MV → MG → MU → Prop} {a : Nat} {j : Int} : Wp E 87 237 ls (.inl j :: .inr (.inr (.inl a)) :: st) g μ Q = (((mKd g a).1 = 10 ∧ 0 ≤ j ∧ j < (mKd g a).2) ∧ Wp E 87 238 ls (.inl (μ a j.toNat) :: st) g μ Q) := Wp_ald k87_237 (fun _ => rfl)
theorem k87_238 : mCode 87 238 = some (.iadd, 1) := by decide +kernel
theorem x87_238 {E : ME} {ls : MLs} {st : List MV} {g : MG} {μ : MU} {Q : Option MV → MG → MU → Prop} {a b : Int} : Wp E 87 238 ls (.inl b :: .inl a :: st) g μ Q = Wp E 87 239 ls (.inl (mWr (a + b)) :: st) g μ Q := Wp_nx k87_238 rfl
theorem k87_239 : mCode 87 239 = some (.iload 10, 2) := by decide +kernel
theorem x87_239 {E : ME} {ls : MLs} {st : List MV} {g : MG} {μ : MU} {Q : Option MV → MG → MU → Prop} {l0 l1 l2 l3 l4 l5 l6 l7 l8 l9 : Option MV} {v : Int} : Wp E 87 239 (l0 :: l1 :: l2 :: l3 :: l4 :: l5 :: l6 :: l7 :: l8 :: l9 :: some (.inl v) :: ls) st g μ Q = Wp E 87 241 (l0 :: l1 :: l2 :: l3 :: l4 :: l5 :: l6 :: l7 :: l8 :: l9 :: some (.inl v) :: ls) (.inl v :: st) g μ Q := Wp_nx k87_239 rfl
theorem k87_241 : mCode 87 241 = some (.ifCond .eq 12, 3) := by decide +kernel
theorem x87_241 {E : ME} {ls : MLs} {st : List MV} {g : MG} {μ : MU} {Q : Option MV → MG → MU → Prop} {a : Int} : Wp E 87 241 ls (.inl a :: st) g μ Q = ((a = 0 → Wp E 87 253 ls st g μ Q) ∧ (¬ a = 0 → Wp E 87 244 ls st g μ Q)) := Wp_if_eq k87_241 (by decide)
theorem k87_244 : mCode 87 244 = some (.aload_n 0, 1) := by decide +kernel
theorem x87_244 {E : ME} {ls : MLs} {st : List MV} {g : MG} {μ : MU} {Q : Option MV → MG → MU → Prop} {v : Nat ⊕ Nat} : Wp E 87 244 (some (.inr (.inr v)) :: ls) st g μ Q = Wp E 87 245 (some (.inr (.inr v)) :: ls) (.inr (.inr v) :: st) g μ Q := Wp_nx k87_244 rfl
theorem k87_245 : mCode 87 245 = some (.getfield 7, 3) := by decide +kernel
theorem x87_245 {E : ME} {ls : MLs} {st : List MV} {g : MG} {μ : MU} {Q : Option MV → MG → MU → Prop} {a : Nat} : Wp E 87 245 ls (.inr (.inr (.inl a)) :: st) g μ Q = ((mKd g a).1 = 6 ∧ Wp E 87 248 ls (mRv (mRf g a 1) :: st) g μ Q) := Wp_getR k87_245 f6_7 (by decide) (by decide)
theorem k87_248 : mCode 87 248 = some (.iconst 2, 1) := by decide +kernel
theorem x87_248 {E : ME} {ls : MLs} {st : List MV} {g : MG} {μ : MU} {Q : Option MV → MG → MU → Prop} : Wp E 87 248 ls st g μ Q = Wp E 87 249 ls (.inl 2 :: st) g μ Q := Wp_nx k87_248 rfl
theorem k87_249 : mCode 87 249 = some (.iaload, 1) := by decide +kernel
theorem x87_249 {E : ME} {ls : MLs} {st : List MV} {g : MG} {μ : MU} {Q : Option MV → MG → MU → Prop} {a : Nat} {j : Int} : Wp E 87 249 ls (.inl j :: .inr (.inr (.inl a)) :: st) g μ Q = (((mKd g a).1 = 10 ∧ 0 ≤ j ∧ j < (mKd g a).2) ∧ Wp E 87 250 ls (.inl (μ a j.toNat) :: st) g μ Q) := Wp_ald k87_249 (fun _ => rfl)
theorem k87_250 : mCode 87 250 = some (.goto 4, 3) := by decide +kernel
theorem x87_250 {E : ME} {ls : MLs} {st : List MV} {g : MG} {μ : MU} {Q : Option MV → MG → MU → Prop} : Wp E 87 250 ls st g μ Q = Wp E 87 254 ls st g μ Q := Wp_goto k87_250 (by decide)
theorem k87_253 : mCode 87 253 = some (.iconst 0, 1) := by decide +kernel
theorem x87_253 {E : ME} {ls : MLs} {st : List MV} {g : MG} {μ : MU} {Q : Option MV → MG → MU → Prop} : Wp E 87 253 ls st g μ Q = Wp E 87 254 ls (.inl 0 :: st) g μ Q := Wp_nx k87_253 rfl
theorem k87_254 : mCode 87 254 = some (.iadd, 1) := by decide +kernel
theorem x87_254 {E : ME} {ls : MLs} {st : List MV} {g : MG} {μ : MU} {Q : Option MV → MG → MU → Prop} {a b : Int} : Wp E 87 254 ls (.inl b :: .inl a :: st) g μ Q = Wp E 87 255 ls (.inl (mWr (a + b)) :: st) g μ Q := Wp_nx k87_254 rfl
theorem k87_255 : mCode 87 255 = some (.iastore, 1) := by decide +kernel
theorem x87_255 {E : ME} {ls : MLs} {st : List MV} {g : MG} {μ : MU} {Q : Option MV → MG → MU → Prop} {a : Nat} {j v : Int} : Wp E 87 255 ls (.inl v :: .inl j :: .inr (.inr (.inl a)) :: st) g μ Q = (((mKd g a).1 = 10 ∧ 0 ≤ j ∧ j < (mKd g a).2) ∧ Wp E 87 256 ls st g (mUp μ a j.toNat v) Q) := Wp_iast k87_255
theorem k87_256 : mCode 87 256 = some (.aload_n 0, 1) := by decide +kernel
theorem x87_256 {E : ME} {ls : MLs} {st : List MV} {g : MG} {μ : MU} {Q : Option MV → MG → MU → Prop} {v : Nat ⊕ Nat} : Wp E 87 256 (some (.inr (.inr v)) :: ls) st g μ Q = Wp E 87 257 (some (.inr (.inr v)) :: ls) (.inr (.inr v) :: st) g μ Q := Wp_nx k87_256 rfl
theorem k87_257 : mCode 87 257 = some (.getfield 38, 3) := by decide +kernel
theorem x87_257 {E : ME} {ls : MLs} {st : List MV} {g : MG} {μ : MU} {Q : Option MV → MG → MU → Prop} {a : Nat} : Wp E 87 257 ls (.inr (.inr (.inl a)) :: st) g μ Q = ((mKd g a).1 = 6 ∧ Wp E 87 260 ls (mRv (mRf g a 12) :: st) g μ Q) := Wp_getR k87_257 f6_38 (by decide) (by decide)
theorem k87_260 : mCode 87 260 = some (.bipush 6, 2) := by decide +kernel
theorem x87_260 {E : ME} {ls : MLs} {st : List MV} {g : MG} {μ : MU} {Q : Option MV → MG → MU → Prop} : Wp E 87 260 ls st g μ Q = Wp E 87 262 ls (.inl 6 :: st) g μ Q := Wp_nx k87_260 rfl
theorem k87_262 : mCode 87 262 = some (.iload_n 1, 1) := by decide +kernel
theorem x87_262 {E : ME} {ls : MLs} {st : List MV} {g : MG} {μ : MU} {Q : Option MV → MG → MU → Prop} {l0 : Option MV} {v : Int} : Wp E 87 262 (l0 :: some (.inl v) :: ls) st g μ Q = Wp E 87 263 (l0 :: some (.inl v) :: ls) (.inl v :: st) g μ Q := Wp_nx k87_262 rfl
theorem k87_263 : mCode 87 263 = some (.imul, 1) := by decide +kernel
theorem x87_263 {E : ME} {ls : MLs} {st : List MV} {g : MG} {μ : MU} {Q : Option MV → MG → MU → Prop} {a b : Int} : Wp E 87 263 ls (.inl b :: .inl a :: st) g μ Q = Wp E 87 264 ls (.inl (mWr (a * b)) :: st) g μ Q := Wp_nx k87_263 rfl
theorem k87_264 : mCode 87 264 = some (.iload_n 2, 1) := by decide +kernel
theorem x87_264 {E : ME} {ls : MLs} {st : List MV} {g : MG} {μ : MU} {Q : Option MV → MG → MU → Prop} {l0 l1 : Option MV} {v : Int} : Wp E 87 264 (l0 :: l1 :: some (.inl v) :: ls) st g μ Q = Wp E 87 265 (l0 :: l1 :: some (.inl v) :: ls) (.inl v :: st) g μ Q := Wp_nx k87_264 rfl
theorem k87_265 : mCode 87 265 = some (.iadd, 1) := by decide +kernel
theorem x87_265 {E : ME} {ls : MLs} {st : List MV} {g : MG} {μ : MU} {Q : Option MV → MG → MU → Prop} {a b : Int} : Wp E 87 265 ls (.inl b :: .inl a :: st) g μ Q = Wp E 87 266 ls (.inl (mWr (a + b)) :: st) g μ Q := Wp_nx k87_265 rfl
theorem k87_266 : mCode 87 266 = some (.iload 8, 2) := by decide +kernel
theorem x87_266 {E : ME} {ls : MLs} {st : List MV} {g : MG} {μ : MU} {Q : Option MV → MG → MU → Prop} {l0 l1 l2 l3 l4 l5 l6 l7 : Option MV} {v : Int} : Wp E 87 266 (l0 :: l1 :: l2 :: l3 :: l4 :: l5 :: l6 :: l7 :: some (.inl v) :: ls) st g μ Q = Wp E 87 268 (l0 :: l1 :: l2 :: l3 :: l4 :: l5 :: l6 :: l7 :: some (.inl v) :: ls) (.inl v :: st) g μ Q := Wp_nx k87_266 rfl
theorem k87_268 : mCode 87 268 = some (.iastore, 1) := by decide +kernel
theorem x87_268 {E : ME} {ls : MLs} {st : List MV} {g : MG} {μ : MU} {Q : Option MV → MG → MU → Prop} {a : Nat} {j v : Int} : Wp E 87 268 ls (.inl v :: .inl j :: .inr (.inr (.inl a)) :: st) g μ Q = (((mKd g a).1 = 10 ∧ 0 ≤ j ∧ j < (mKd g a).2) ∧ Wp E 87 269 ls st g (mUp μ a j.toNat v) Q) := Wp_iast k87_268
theorem k87_269 : mCode 87 269 = some (.aload_n 0, 1) := by decide +kernel
theorem x87_269 {E : ME} {ls : MLs} {st : List MV} {g : MG} {μ : MU} {Q : Option MV → MG → MU → Prop} {v : Nat ⊕ Nat} : Wp E 87 269 (some (.inr (.inr v)) :: ls) st g μ Q = Wp E 87 270 (some (.inr (.inr v)) :: ls) (.inr (.inr v) :: st) g μ Q := Wp_nx k87_269 rfl
theorem k87_270 : mCode 87 270 = some (.getfield 41, 3) := by decide +kernel
theorem x87_270 {E : ME} {ls : MLs} {st : List MV} {g : MG} {μ : MU} {Q : Option MV → MG → MU → Prop} {a : Nat} : Wp E 87 270 ls (.inr (.inr (.inl a)) :: st) g μ Q = ((mKd g a).1 = 6 ∧ Wp E 87 273 ls (mRv (mRf g a 13) :: st) g μ Q) := Wp_getR k87_270 f6_41 (by decide) (by decide)
theorem k87_273 : mCode 87 273 = some (.bipush 6, 2) := by decide +kernel
theorem x87_273 {E : ME} {ls : MLs} {st : List MV} {g : MG} {μ : MU} {Q : Option MV → MG → MU → Prop} : Wp E 87 273 ls st g μ Q = Wp E 87 275 ls (.inl 6 :: st) g μ Q := Wp_nx k87_273 rfl
theorem k87_275 : mCode 87 275 = some (.iload_n 1, 1) := by decide +kernel
theorem x87_275 {E : ME} {ls : MLs} {st : List MV} {g : MG} {μ : MU} {Q : Option MV → MG → MU → Prop} {l0 : Option MV} {v : Int} : Wp E 87 275 (l0 :: some (.inl v) :: ls) st g μ Q = Wp E 87 276 (l0 :: some (.inl v) :: ls) (.inl v :: st) g μ Q := Wp_nx k87_275 rfl
theorem k87_276 : mCode 87 276 = some (.imul, 1) := by decide +kernel
theorem x87_276 {E : ME} {ls : MLs} {st : List MV} {g : MG} {μ : MU} {Q : Option MV → MG → MU → Prop} {a b : Int} : Wp E 87 276 ls (.inl b :: .inl a :: st) g μ Q = Wp E 87 277 ls (.inl (mWr (a * b)) :: st) g μ Q := Wp_nx k87_276 rfl
theorem k87_277 : mCode 87 277 = some (.iload_n 2, 1) := by decide +kernel
theorem x87_277 {E : ME} {ls : MLs} {st : List MV} {g : MG} {μ : MU} {Q : Option MV → MG → MU → Prop} {l0 l1 : Option MV} {v : Int} : Wp E 87 277 (l0 :: l1 :: some (.inl v) :: ls) st g μ Q = Wp E 87 278 (l0 :: l1 :: some (.inl v) :: ls) (.inl v :: st) g μ Q := Wp_nx k87_277 rfl
theorem k87_278 : mCode 87 278 = some (.iadd, 1) := by decide +kernel
theorem x87_278 {E : ME} {ls : MLs} {st : List MV} {g : MG} {μ : MU} {Q : Option MV → MG → MU → Prop} {a b : Int} : Wp E 87 278 ls (.inl b :: .inl a :: st) g μ Q = Wp E 87 279 ls (.inl (mWr (a + b)) :: st) g μ Q := Wp_nx k87_278 rfl
theorem k87_279 : mCode 87 279 = some (.aload_n 0, 1) := by decide +kernel
theorem x87_279 {E : ME} {ls : MLs} {st : List MV} {g : MG} {μ : MU} {Q : Option MV → MG → MU → Prop} {v : Nat ⊕ Nat} : Wp E 87 279 (some (.inr (.inr v)) :: ls) st g μ Q = Wp E 87 280 (some (.inr (.inr v)) :: ls) (.inr (.inr v) :: st) g μ Q := Wp_nx k87_279 rfl
theorem k87_280 : mCode 87 280 = some (.getfield 50, 3) := by decide +kernel
theorem x87_280 {E : ME} {ls : MLs} {st : List MV} {g : MG} {μ : MU} {Q : Option MV → MG → MU → Prop} {a : Nat} : Wp E 87 280 ls (.inr (.inr (.inl a)) :: st) g μ Q = ((mKd g a).1 = 6 ∧ Wp E 87 283 ls (mRv (mRf g a 17) :: st) g μ Q) := Wp_getR k87_280 f6_50 (by decide) (by decide)
theorem k87_283 : mCode 87 283 = some (.iload 5, 2) := by decide +kernel
theorem x87_283 {E : ME} {ls : MLs} {st : List MV} {g : MG} {μ : MU} {Q : Option MV → MG → MU → Prop} {l0 l1 l2 l3 l4 : Option MV} {v : Int} : Wp E 87 283 (l0 :: l1 :: l2 :: l3 :: l4 :: some (.inl v) :: ls) st g μ Q = Wp E 87 285 (l0 :: l1 :: l2 :: l3 :: l4 :: some (.inl v) :: ls) (.inl v :: st) g μ Q := Wp_nx k87_283 rfl
theorem k87_285 : mCode 87 285 = some (.iaload, 1) := by decide +kernel
theorem x87_285 {E : ME} {ls : MLs} {st : List MV} {g : MG} {μ : MU} {Q : Option MV → MG → MU → Prop} {a : Nat} {j : Int} : Wp E 87 285 ls (.inl j :: .inr (.inr (.inl a)) :: st) g μ Q = (((mKd g a).1 = 10 ∧ 0 ≤ j ∧ j < (mKd g a).2) ∧ Wp E 87 286 ls (.inl (μ a j.toNat) :: st) g μ Q) := Wp_ald k87_285 (fun _ => rfl)
theorem k87_286 : mCode 87 286 = some (.iastore, 1) := by decide +kernel
theorem x87_286 {E : ME} {ls : MLs} {st : List MV} {g : MG} {μ : MU} {Q : Option MV → MG → MU → Prop} {a : Nat} {j v : Int} : Wp E 87 286 ls (.inl v :: .inl j :: .inr (.inr (.inl a)) :: st) g μ Q = (((mKd g a).1 = 10 ∧ 0 ≤ j ∧ j < (mKd g a).2) ∧ Wp E 87 287 ls st g (mUp μ a j.toNat v) Q) := Wp_iast k87_286
theorem k87_287 : mCode 87 287 = some (.iload 8, 2) := by decide +kernel
theorem x87_287 {E : ME} {ls : MLs} {st : List MV} {g : MG} {μ : MU} {Q : Option MV → MG → MU → Prop} {l0 l1 l2 l3 l4 l5 l6 l7 : Option MV} {v : Int} : Wp E 87 287 (l0 :: l1 :: l2 :: l3 :: l4 :: l5 :: l6 :: l7 :: some (.inl v) :: ls) st g μ Q = Wp E 87 289 (l0 :: l1 :: l2 :: l3 :: l4 :: l5 :: l6 :: l7 :: some (.inl v) :: ls) (.inl v :: st) g μ Q := Wp_nx k87_287 rfl
theorem k87_289 : mCode 87 289 = some (.aload_n 0, 1) := by decide +kernel
theorem x87_289 {E : ME} {ls : MLs} {st : List MV} {g : MG} {μ : MU} {Q : Option MV → MG → MU → Prop} {v : Nat ⊕ Nat} : Wp E 87 289 (some (.inr (.inr v)) :: ls) st g μ Q = Wp E 87 290 (some (.inr (.inr v)) :: ls) (.inr (.inr v) :: st) g μ Q := Wp_nx k87_289 rfl
theorem k87_290 : mCode 87 290 = some (.getfield 7, 3) := by decide +kernel
theorem x87_290 {E : ME} {ls : MLs} {st : List MV} {g : MG} {μ : MU} {Q : Option MV → MG → MU → Prop} {a : Nat} : Wp E 87 290 ls (.inr (.inr (.inl a)) :: st) g μ Q = ((mKd g a).1 = 6 ∧ Wp E 87 293 ls (mRv (mRf g a 1) :: st) g μ Q) := Wp_getR k87_290 f6_7 (by decide) (by decide)
theorem k87_293 : mCode 87 293 = some (.iconst 0, 1) := by decide +kernel
theorem x87_293 {E : ME} {ls : MLs} {st : List MV} {g : MG} {μ : MU} {Q : Option MV → MG → MU → Prop} : Wp E 87 293 ls st g μ Q = Wp E 87 294 ls (.inl 0 :: st) g μ Q := Wp_nx k87_293 rfl
theorem k87_294 : mCode 87 294 = some (.iaload, 1) := by decide +kernel
theorem x87_294 {E : ME} {ls : MLs} {st : List MV} {g : MG} {μ : MU} {Q : Option MV → MG → MU → Prop} {a : Nat} {j : Int} : Wp E 87 294 ls (.inl j :: .inr (.inr (.inl a)) :: st) g μ Q = (((mKd g a).1 = 10 ∧ 0 ≤ j ∧ j < (mKd g a).2) ∧ Wp E 87 295 ls (.inl (μ a j.toNat) :: st) g μ Q) := Wp_ald k87_294 (fun _ => rfl)
theorem k87_295 : mCode 87 295 = some (.iadd, 1) := by decide +kernel
theorem x87_295 {E : ME} {ls : MLs} {st : List MV} {g : MG} {μ : MU} {Q : Option MV → MG → MU → Prop} {a b : Int} : Wp E 87 295 ls (.inl b :: .inl a :: st) g μ Q = Wp E 87 296 ls (.inl (mWr (a + b)) :: st) g μ Q := Wp_nx k87_295 rfl
theorem k87_296 : mCode 87 296 = some (.ireturn, 1) := by decide +kernel
theorem x87_296 {E : ME} {ls : MLs} {g : MG} {μ : MU} {Q : Option MV → MG → MU → Prop} {v : Int} : Wp E 87 296 ls [.inl v] g μ Q = Q (some (.inl v)) g μ := Wp_retI k87_296 (by decide)
theorem k88_0 : mCode 88 0 = some (.aload_n 0, 1) := by decide +kernel
theorem x88_0 {E : ME} {ls : MLs} {st : List MV} {g : MG} {μ : MU} {Q : Option MV → MG → MU → Prop} {v : Nat ⊕ Nat} : Wp E 88 0 (some (.inr (.inr v)) :: ls) st g μ Q = Wp E 88 1 (some (.inr (.inr v)) :: ls) (.inr (.inr v) :: st) g μ Q := Wp_nx k88_0 rfl
theorem k88_1 : mCode 88 1 = some (.iload_n 1, 1) := by decide +kernel
theorem x88_1 {E : ME} {ls : MLs} {st : List MV} {g : MG} {μ : MU} {Q : Option MV → MG → MU → Prop} {l0 : Option MV} {v : Int} : Wp E 88 1 (l0 :: some (.inl v) :: ls) st g μ Q = Wp E 88 2 (l0 :: some (.inl v) :: ls) (.inl v :: st) g μ Q := Wp_nx k88_1 rfl
theorem k88_2 : mCode 88 2 = some (.iconst 2, 1) := by decide +kernel
theorem x88_2 {E : ME} {ls : MLs} {st : List MV} {g : MG} {μ : MU} {Q : Option MV → MG → MU → Prop} : Wp E 88 2 ls st g μ Q = Wp E 88 3 ls (.inl 2 :: st) g μ Q := Wp_nx k88_2 rfl
theorem k88_3 : mCode 88 3 = some (.invokevirtual 87, 3) := by decide +kernel
theorem x88_3 {E : ME} {ls : MLs} {st : List MV} {g : MG} {μ : MU} {Q : Option MV → MG → MU → Prop} {r : Nat} {a0 : Int} {a1 : Int} : Wp E 88 3 ls (.inl a1 :: .inl a0 :: .inr (.inr (.inl r)) :: st) g μ Q = ((st.length ≤ 4 ∧ ((mKd g r).1 == 6) = true) ∧ Wp E 79 0 [some (.inr (.inr (.inl r))), some (.inl a0), some (.inl a1)] [] g μ (fun r g' μ' => (g'.1 = g.1 ∧ g'.2.1 = g.2.1) ∧ Wp E 88 6 ls (mPush r st) g' μ' Q)) := Wp_cV k88_3 m6_87 (by decide) (as := [.inr (.inr (.inl r)), .inl a0, .inl a1]) rfl rfl rfl ⟨Nat.le_of_ble_eq_true rfl, by decide⟩
theorem k88_6 : mCode 88 6 = some (.istore_n 2, 1) := by decide +kernel
theorem x88_6 {E : ME} {ls : MLs} {st : List MV} {g : MG} {μ : MU} {Q : Option MV → MG → MU → Prop} {l0 l1 : Option MV} {lk : Option MV} {v : Int} : Wp E 88 6 (l0 :: l1 :: lk :: ls) (.inl v :: st) g μ Q = ((mNl (some l1) = true ∧ mNl (some lk) = true) ∧ Wp E 88 7 (l0 :: l1 :: some (.inl v) :: ls) st g μ Q) := Wp_sti k88_6 (fun _ => rfl) rfl rfl rfl
theorem k88_7 : mCode 88 7 = some (.aload_n 0, 1) := by decide +kernel
theorem x88_7 {E : ME} {ls : MLs} {st : List MV} {g : MG} {μ : MU} {Q : Option MV → MG → MU → Prop} {v : Nat ⊕ Nat} : Wp E 88 7 (some (.inr (.inr v)) :: ls) st g μ Q = Wp E 88 8 (some (.inr (.inr v)) :: ls) (.inr (.inr v) :: st) g μ Q := Wp_nx k88_7 rfl
theorem k88_8 : mCode 88 8 = some (.getfield 32, 3) := by decide +kernel
theorem x88_8 {E : ME} {ls : MLs} {st : List MV} {g : MG} {μ : MU} {Q : Option MV → MG → MU → Prop} {a : Nat} : Wp E 88 8 ls (.inr (.inr (.inl a)) :: st) g μ Q = ((mKd g a).1 = 6 ∧ Wp E 88 11 ls (mRv (mRf g a 10) :: st) g μ Q) := Wp_getR k88_8 f6_32 (by decide) (by decide)
theorem k88_11 : mCode 88 11 = some (.iload_n 1, 1) := by decide +kernel
theorem x88_11 {E : ME} {ls : MLs} {st : List MV} {g : MG} {μ : MU} {Q : Option MV → MG → MU → Prop} {l0 : Option MV} {v : Int} : Wp E 88 11 (l0 :: some (.inl v) :: ls) st g μ Q = Wp E 88 12 (l0 :: some (.inl v) :: ls) (.inl v :: st) g μ Q := Wp_nx k88_11 rfl
theorem k88_12 : mCode 88 12 = some (.iconst 0, 1) := by decide +kernel
theorem x88_12 {E : ME} {ls : MLs} {st : List MV} {g : MG} {μ : MU} {Q : Option MV → MG → MU → Prop} : Wp E 88 12 ls st g μ Q = Wp E 88 13 ls (.inl 0 :: st) g μ Q := Wp_nx k88_12 rfl
theorem k88_13 : mCode 88 13 = some (.iastore, 1) := by decide +kernel
theorem x88_13 {E : ME} {ls : MLs} {st : List MV} {g : MG} {μ : MU} {Q : Option MV → MG → MU → Prop} {a : Nat} {j v : Int} : Wp E 88 13 ls (.inl v :: .inl j :: .inr (.inr (.inl a)) :: st) g μ Q = (((mKd g a).1 = 10 ∧ 0 ≤ j ∧ j < (mKd g a).2) ∧ Wp E 88 14 ls st g (mUp μ a j.toNat v) Q) := Wp_iast k88_13
theorem k88_14 : mCode 88 14 = some (.aload_n 0, 1) := by decide +kernel
theorem x88_14 {E : ME} {ls : MLs} {st : List MV} {g : MG} {μ : MU} {Q : Option MV → MG → MU → Prop} {v : Nat ⊕ Nat} : Wp E 88 14 (some (.inr (.inr v)) :: ls) st g μ Q = Wp E 88 15 (some (.inr (.inr v)) :: ls) (.inr (.inr v) :: st) g μ Q := Wp_nx k88_14 rfl
theorem k88_15 : mCode 88 15 = some (.getfield 35, 3) := by decide +kernel
theorem x88_15 {E : ME} {ls : MLs} {st : List MV} {g : MG} {μ : MU} {Q : Option MV → MG → MU → Prop} {a : Nat} : Wp E 88 15 ls (.inr (.inr (.inl a)) :: st) g μ Q = ((mKd g a).1 = 6 ∧ Wp E 88 18 ls (mRv (mRf g a 11) :: st) g μ Q) := Wp_getR k88_15 f6_35 (by decide) (by decide)
theorem k88_18 : mCode 88 18 = some (.iload_n 1, 1) := by decide +kernel
theorem x88_18 {E : ME} {ls : MLs} {st : List MV} {g : MG} {μ : MU} {Q : Option MV → MG → MU → Prop} {l0 : Option MV} {v : Int} : Wp E 88 18 (l0 :: some (.inl v) :: ls) st g μ Q = Wp E 88 19 (l0 :: some (.inl v) :: ls) (.inl v :: st) g μ Q := Wp_nx k88_18 rfl
theorem k88_19 : mCode 88 19 = some (.iconst 0, 1) := by decide +kernel
theorem x88_19 {E : ME} {ls : MLs} {st : List MV} {g : MG} {μ : MU} {Q : Option MV → MG → MU → Prop} : Wp E 88 19 ls st g μ Q = Wp E 88 20 ls (.inl 0 :: st) g μ Q := Wp_nx k88_19 rfl
theorem k88_20 : mCode 88 20 = some (.iastore, 1) := by decide +kernel
theorem x88_20 {E : ME} {ls : MLs} {st : List MV} {g : MG} {μ : MU} {Q : Option MV → MG → MU → Prop} {a : Nat} {j v : Int} : Wp E 88 20 ls (.inl v :: .inl j :: .inr (.inr (.inl a)) :: st) g μ Q = (((mKd g a).1 = 10 ∧ 0 ≤ j ∧ j < (mKd g a).2) ∧ Wp E 88 21 ls st g (mUp μ a j.toNat v) Q) := Wp_iast k88_20
theorem k88_21 : mCode 88 21 = some (.iconst 0, 1) := by decide +kernel
theorem x88_21 {E : ME} {ls : MLs} {st : List MV} {g : MG} {μ : MU} {Q : Option MV → MG → MU → Prop} : Wp E 88 21 ls st g μ Q = Wp E 88 22 ls (.inl 0 :: st) g μ Q := Wp_nx k88_21 rfl
theorem k88_22 : mCode 88 22 = some (.istore_n 3, 1) := by decide +kernel
theorem x88_22 {E : ME} {ls : MLs} {st : List MV} {g : MG} {μ : MU} {Q : Option MV → MG → MU → Prop} {l0 l1 l2 : Option MV} {lk : Option MV} {v : Int} : Wp E 88 22 (l0 :: l1 :: l2 :: lk :: ls) (.inl v :: st) g μ Q = ((mNl (some l2) = true ∧ mNl (some lk) = true) ∧ Wp E 88 23 (l0 :: l1 :: l2 :: some (.inl v) :: ls) st g μ Q) := Wp_sti k88_22 (fun _ => rfl) rfl rfl rfl
theorem k88_23 : mCode 88 23 = some (.iload_n 3, 1) := by decide +kernel
theorem x88_23 {E : ME} {ls : MLs} {st : List MV} {g : MG} {μ : MU} {Q : Option MV → MG → MU → Prop} {l0 l1 l2 : Option MV} {v : Int} : Wp E 88 23 (l0 :: l1 :: l2 :: some (.inl v) :: ls) st g μ Q = Wp E 88 24 (l0 :: l1 :: l2 :: some (.inl v) :: ls) (.inl v :: st) g μ Q := Wp_nx k88_23 rfl
theorem k88_24 : mCode 88 24 = some (.aload_n 0, 1) := by decide +kernel
theorem x88_24 {E : ME} {ls : MLs} {st : List MV} {g : MG} {μ : MU} {Q : Option MV → MG → MU → Prop} {v : Nat ⊕ Nat} : Wp E 88 24 (some (.inr (.inr v)) :: ls) st g μ Q = Wp E 88 25 (some (.inr (.inr v)) :: ls) (.inr (.inr v) :: st) g μ Q := Wp_nx k88_24 rfl
theorem k88_25 : mCode 88 25 = some (.aload_n 0, 1) := by decide +kernel
theorem x88_25 {E : ME} {ls : MLs} {st : List MV} {g : MG} {μ : MU} {Q : Option MV → MG → MU → Prop} {v : Nat ⊕ Nat} : Wp E 88 25 (some (.inr (.inr v)) :: ls) st g μ Q = Wp E 88 26 (some (.inr (.inr v)) :: ls) (.inr (.inr v) :: st) g μ Q := Wp_nx k88_25 rfl
theorem k88_26 : mCode 88 26 = some (.iload_n 1, 1) := by decide +kernel
theorem x88_26 {E : ME} {ls : MLs} {st : List MV} {g : MG} {μ : MU} {Q : Option MV → MG → MU → Prop} {l0 : Option MV} {v : Int} : Wp E 88 26 (l0 :: some (.inl v) :: ls) st g μ Q = Wp E 88 27 (l0 :: some (.inl v) :: ls) (.inl v :: st) g μ Q := Wp_nx k88_26 rfl
theorem k88_27 : mCode 88 27 = some (.iconst 0, 1) := by decide +kernel
theorem x88_27 {E : ME} {ls : MLs} {st : List MV} {g : MG} {μ : MU} {Q : Option MV → MG → MU → Prop} : Wp E 88 27 ls st g μ Q = Wp E 88 28 ls (.inl 0 :: st) g μ Q := Wp_nx k88_27 rfl
theorem k88_28 : mCode 88 28 = some (.invokevirtual 87, 3) := by decide +kernel
theorem x88_28 {E : ME} {ls : MLs} {st : List MV} {g : MG} {μ : MU} {Q : Option MV → MG → MU → Prop} {r : Nat} {a0 : Int} {a1 : Int} : Wp E 88 28 ls (.inl a1 :: .inl a0 :: .inr (.inr (.inl r)) :: st) g μ Q = ((st.length ≤ 4 ∧ ((mKd g r).1 == 6) = true) ∧ Wp E 79 0 [some (.inr (.inr (.inl r))), some (.inl a0), some (.inl a1)] [] g μ (fun r g' μ' => (g'.1 = g.1 ∧ g'.2.1 = g.2.1) ∧ Wp E 88 31 ls (mPush r st) g' μ' Q)) := Wp_cV k88_28 m6_87 (by decide) (as := [.inr (.inr (.inl r)), .inl a0, .inl a1]) rfl rfl rfl ⟨Nat.le_of_ble_eq_true rfl, by decide⟩
theorem k88_31 : mCode 88 31 = some (.iconst 0, 1) := by decide +kernel
theorem x88_31 {E : ME} {ls : MLs} {st : List MV} {g : MG} {μ : MU} {Q : Option MV → MG → MU → Prop} : Wp E 88 31 ls st g μ Q = Wp E 88 32 ls (.inl 0 :: st) g μ Q := Wp_nx k88_31 rfl
theorem k88_32 : mCode 88 32 = some (.invokevirtual 77, 3) := by decide +kernel
theorem x88_32 {E : ME} {ls : MLs} {st : List MV} {g : MG} {μ : MU} {Q : Option MV → MG → MU → Prop} {r : Nat} {a0 : Int} {a1 : Int} : Wp E 88 32 ls (.inl a1 :: .inl a0 :: .inr (.inr (.inl r)) :: st) g μ Q = ((st.length ≤ 4 ∧ ((mKd g r).1 == 6) = true) ∧ Wp E 78 0 [some (.inr (.inr (.inl r))), some (.inl a0), some (.inl a1)] [] g μ (fun r g' μ' => (g'.1 = g.1 ∧ g'.2.1 = g.2.1) ∧ Wp E 88 35 ls (mPush r st) g' μ' Q)) := Wp_cV k88_32 m6_77 (by decide) (as := [.inr (.inr (.inl r)), .inl a0, .inl a1]) rfl rfl rfl ⟨Nat.le_of_ble_eq_true rfl, by decide⟩
theorem k88_35 : mCode 88 35 = some (.if_icmp .ge 17, 3) := by decide +kernel
theorem x88_35 {E : ME} {ls : MLs} {st : List MV} {g : MG} {μ : MU} {Q : Option MV → MG → MU → Prop} {a b : Int} : Wp E 88 35 ls (.inl b :: .inl a :: st) g μ Q = ((b ≤ a → Wp E 88 52 ls st g μ Q) ∧ (a < b → Wp E 88 38 ls st g μ Q)) := Wp_cmp_ge k88_35 (by decide)
theorem k88_38 : mCode 88 38 = some (.aload_n 0, 1) := by decide +kernel
theorem x88_38 {E : ME} {ls : MLs} {st : List MV} {g : MG} {μ : MU} {Q : Option MV → MG → MU → Prop} {v : Nat ⊕ Nat} : Wp E 88 38 (some (.inr (.inr v)) :: ls) st g μ Q = Wp E 88 39 (some (.inr (.inr v)) :: ls) (.inr (.inr v) :: st) g μ Q := Wp_nx k88_38 rfl
theorem k88_39 : mCode 88 39 = some (.iload_n 1, 1) := by decide +kernel
theorem x88_39 {E : ME} {ls : MLs} {st : List MV} {g : MG} {μ : MU} {Q : Option MV → MG → MU → Prop} {l0 : Option MV} {v : Int} : Wp E 88 39 (l0 :: some (.inl v) :: ls) st g μ Q = Wp E 88 40 (l0 :: some (.inl v) :: ls) (.inl v :: st) g μ Q := Wp_nx k88_39 rfl
theorem k88_40 : mCode 88 40 = some (.iload_n 3, 1) := by decide +kernel
theorem x88_40 {E : ME} {ls : MLs} {st : List MV} {g : MG} {μ : MU} {Q : Option MV → MG → MU → Prop} {l0 l1 l2 : Option MV} {v : Int} : Wp E 88 40 (l0 :: l1 :: l2 :: some (.inl v) :: ls) st g μ Q = Wp E 88 41 (l0 :: l1 :: l2 :: some (.inl v) :: ls) (.inl v :: st) g μ Q := Wp_nx k88_40 rfl
theorem k88_41 : mCode 88 41 = some (.iload_n 2, 1) := by decide +kernel
theorem x88_41 {E : ME} {ls : MLs} {st : List MV} {g : MG} {μ : MU} {Q : Option MV → MG → MU → Prop} {l0 l1 : Option MV} {v : Int} : Wp E 88 41 (l0 :: l1 :: some (.inl v) :: ls) st g μ Q = Wp E 88 42 (l0 :: l1 :: some (.inl v) :: ls) (.inl v :: st) g μ Q := Wp_nx k88_41 rfl
theorem k88_42 : mCode 88 42 = some (.invokevirtual 93, 3) := by decide +kernel
theorem x88_42 {E : ME} {ls : MLs} {st : List MV} {g : MG} {μ : MU} {Q : Option MV → MG → MU → Prop} {r : Nat} {a0 : Int} {a1 : Int} {a2 : Int} : Wp E 88 42 ls (.inl a2 :: .inl a1 :: .inl a0 :: .inr (.inr (.inl r)) :: st) g μ Q = ((st.length ≤ 4 ∧ ((mKd g r).1 == 6) = true) ∧ Wp E 87 0 [some (.inr (.inr (.inl r))), some (.inl a0), some (.inl a1), some (.inl a2), none, none, none, none, none, none, none] [] g μ (fun r g' μ' => (g'.1 = g.1 ∧ g'.2.1 = g.2.1) ∧ Wp E 88 45 ls (mPush r st) g' μ' Q)) := Wp_cV k88_42 m6_93 (by decide) (as := [.inr (.inr (.inl r)), .inl a0, .inl a1, .inl a2]) rfl rfl rfl ⟨Nat.le_of_ble_eq_true rfl, by decide⟩
theorem k88_45 : mCode 88 45 = some (.istore_n 2, 1) := by decide +kernel
theorem x88_45 {E : ME} {ls : MLs} {st : List MV} {g : MG} {μ : MU} {Q : Option MV → MG → MU → Prop} {l0 l1 : Option MV} {lk : Option MV} {v : Int} : Wp E 88 45 (l0 :: l1 :: lk :: ls) (.inl v :: st) g μ Q = ((mNl (some l1) = true ∧ mNl (some lk) = true) ∧ Wp E 88 46 (l0 :: l1 :: some (.inl v) :: ls) st g μ Q) := Wp_sti k88_45 (fun _ => rfl) rfl rfl rfl
theorem k88_46 : mCode 88 46 = some (.iinc 3 1, 3) := by decide +kernel
theorem x88_46 {E : ME} {ls : MLs} {st : List MV} {g : MG} {μ : MU} {Q : Option MV → MG → MU → Prop} {l0 l1 l2 : Option MV} {v : Int} : Wp E 88 46 (l0 :: l1 :: l2 :: some (.inl v) :: ls) st g μ Q = (mNl (some l2) = true ∧ Wp E 88 49 (l0 :: l1 :: l2 :: some (.inl (mWr (v + 1))) :: ls) st g μ Q) := Wp_inc k88_46 rfl rfl rfl
theorem k88_49 : mCode 88 49 = some (.goto (-26), 3) := by decide +kernel
theorem x88_49 {E : ME} {ls : MLs} {st : List MV} {g : MG} {μ : MU} {Q : Option MV → MG → MU → Prop} : Wp E 88 49 ls st g μ Q = Wp E 88 23 ls st g μ Q := Wp_goto k88_49 (by decide)
theorem k88_52 : mCode 88 52 = some (.aload_n 0, 1) := by decide +kernel
theorem x88_52 {E : ME} {ls : MLs} {st : List MV} {g : MG} {μ : MU} {Q : Option MV → MG → MU → Prop} {v : Nat ⊕ Nat} : Wp E 88 52 (some (.inr (.inr v)) :: ls) st g μ Q = Wp E 88 53 (some (.inr (.inr v)) :: ls) (.inr (.inr v) :: st) g μ Q := Wp_nx k88_52 rfl
theorem k88_53 : mCode 88 53 = some (.getfield 29, 3) := by decide +kernel
theorem x88_53 {E : ME} {ls : MLs} {st : List MV} {g : MG} {μ : MU} {Q : Option MV → MG → MU → Prop} {a : Nat} : Wp E 88 53 ls (.inr (.inr (.inl a)) :: st) g μ Q = ((mKd g a).1 = 6 ∧ Wp E 88 56 ls (mRv (mRf g a 9) :: st) g μ Q) := Wp_getR k88_53 f6_29 (by decide) (by decide)
theorem k88_56 : mCode 88 56 = some (.iload_n 1, 1) := by decide +kernel
theorem x88_56 {E : ME} {ls : MLs} {st : List MV} {g : MG} {μ : MU} {Q : Option MV → MG → MU → Prop} {l0 : Option MV} {v : Int} : Wp E 88 56 (l0 :: some (.inl v) :: ls) st g μ Q = Wp E 88 57 (l0 :: some (.inl v) :: ls) (.inl v :: st) g μ Q := Wp_nx k88_56 rfl
theorem k88_57 : mCode 88 57 = some (.iload_n 2, 1) := by decide +kernel
theorem x88_57 {E : ME} {ls : MLs} {st : List MV} {g : MG} {μ : MU} {Q : Option MV → MG → MU → Prop} {l0 l1 : Option MV} {v : Int} : Wp E 88 57 (l0 :: l1 :: some (.inl v) :: ls) st g μ Q = Wp E 88 58 (l0 :: l1 :: some (.inl v) :: ls) (.inl v :: st) g μ Q := Wp_nx k88_57 rfl
theorem k88_58 : mCode 88 58 = some (.iastore, 1) := by decide +kernel
theorem x88_58 {E : ME} {ls : MLs} {st : List MV} {g : MG} {μ : MU} {Q : Option MV → MG → MU → Prop} {a : Nat} {j v : Int} : Wp E 88 58 ls (.inl v :: .inl j :: .inr (.inr (.inl a)) :: st) g μ Q = (((mKd g a).1 = 10 ∧ 0 ≤ j ∧ j < (mKd g a).2) ∧ Wp E 88 59 ls st g (mUp μ a j.toNat v) Q) := Wp_iast k88_58
theorem k88_59 : mCode 88 59 = some (.return_, 1) := by decide +kernel
theorem x88_59 {E : ME} {ls : MLs} {g : MG} {μ : MU} {Q : Option MV → MG → MU → Prop} : Wp E 88 59 ls [] g μ Q = Q none g μ := Wp_retV k88_59 (by decide)
theorem k89_0 : mCode 89 0 = some (.aload_n 0, 1) := by decide +kernel
theorem x89_0 {E : ME} {ls : MLs} {st : List MV} {g : MG} {μ : MU} {Q : Option MV → MG → MU → Prop} {v : Nat ⊕ Nat} : Wp E 89 0 (some (.inr (.inr v)) :: ls) st g μ Q = Wp E 89 1 (some (.inr (.inr v)) :: ls) (.inr (.inr v) :: st) g μ Q := Wp_nx k89_0 rfl
theorem k89_1 : mCode 89 1 = some (.iload_n 1, 1) := by decide +kernel
theorem x89_1 {E : ME} {ls : MLs} {st : List MV} {g : MG} {μ : MU} {Q : Option MV → MG → MU → Prop} {l0 : Option MV} {v : Int} : Wp E 89 1 (l0 :: some (.inl v) :: ls) st g μ Q = Wp E 89 2 (l0 :: some (.inl v) :: ls) (.inl v :: st) g μ Q := Wp_nx k89_1 rfl
theorem k89_2 : mCode 89 2 = some (.putfield 84, 3) := by decide +kernel
theorem x89_2 {E : ME} {ls : MLs} {st : List MV} {g : MG} {μ : MU} {Q : Option MV → MG → MU → Prop} {a : Nat} {v : Int} : Wp E 89 2 ls (.inl v :: .inr (.inr (.inl a)) :: st) g μ Q = ((mKd g a).1 = 6 ∧ Wp E 89 5 ls st g (mUp μ a 15 v) Q) := Wp_putI0 k89_2 f6_84 (by decide) (by decide)
theorem k89_5 : mCode 89 5 = some (.iconst 0, 1) := by decide +kernel
theorem x89_5 {E : ME} {ls : MLs} {st : List MV} {g : MG} {μ : MU} {Q : Option MV → MG → MU → Prop} : Wp E 89 5 ls st g μ Q = Wp E 89 6 ls (.inl 0 :: st) g μ Q := Wp_nx k89_5 rfl
theorem k89_6 : mCode 89 6 = some (.istore_n 2, 1) := by decide +kernel
theorem x89_6 {E : ME} {ls : MLs} {st : List MV} {g : MG} {μ : MU} {Q : Option MV → MG → MU → Prop} {l0 l1 : Option MV} {lk : Option MV} {v : Int} : Wp E 89 6 (l0 :: l1 :: lk :: ls) (.inl v :: st) g μ Q = ((mNl (some l1) = true ∧ mNl (some lk) = true) ∧ Wp E 89 7 (l0 :: l1 :: some (.inl v) :: ls) st g μ Q) := Wp_sti k89_6 (fun _ => rfl) rfl rfl rfl
theorem k89_7 : mCode 89 7 = some (.iload_n 2, 1) := by decide +kernel
theorem x89_7 {E : ME} {ls : MLs} {st : List MV} {g : MG} {μ : MU} {Q : Option MV → MG → MU → Prop} {l0 l1 : Option MV} {v : Int} : Wp E 89 7 (l0 :: l1 :: some (.inl v) :: ls) st g μ Q = Wp E 89 8 (l0 :: l1 :: some (.inl v) :: ls) (.inl v :: st) g μ Q := Wp_nx k89_7 rfl
theorem k89_8 : mCode 89 8 = some (.aload_n 0, 1) := by decide +kernel
theorem x89_8 {E : ME} {ls : MLs} {st : List MV} {g : MG} {μ : MU} {Q : Option MV → MG → MU → Prop} {v : Nat ⊕ Nat} : Wp E 89 8 (some (.inr (.inr v)) :: ls) st g μ Q = Wp E 89 9 (some (.inr (.inr v)) :: ls) (.inr (.inr v) :: st) g μ Q := Wp_nx k89_8 rfl
theorem k89_9 : mCode 89 9 = some (.getfield 7, 3) := by decide +kernel
theorem x89_9 {E : ME} {ls : MLs} {st : List MV} {g : MG} {μ : MU} {Q : Option MV → MG → MU → Prop} {a : Nat} : Wp E 89 9 ls (.inr (.inr (.inl a)) :: st) g μ Q = ((mKd g a).1 = 6 ∧ Wp E 89 12 ls (mRv (mRf g a 1) :: st) g μ Q) := Wp_getR k89_9 f6_7 (by decide) (by decide)
theorem k89_12 : mCode 89 12 = some (.iconst 5, 1) := by decide +kernel
theorem x89_12 {E : ME} {ls : MLs} {st : List MV} {g : MG} {μ : MU} {Q : Option MV → MG → MU → Prop} : Wp E 89 12 ls st g μ Q = Wp E 89 13 ls (.inl 5 :: st) g μ Q := Wp_nx k89_12 rfl
theorem k89_13 : mCode 89 13 = some (.iaload, 1) := by decide +kernel
theorem x89_13 {E : ME} {ls : MLs} {st : List MV} {g : MG} {μ : MU} {Q : Option MV → MG → MU → Prop} {a : Nat} {j : Int} : Wp E 89 13 ls (.inl j :: .inr (.inr (.inl a)) :: st) g μ Q = (((mKd g a).1 = 10 ∧ 0 ≤ j ∧ j < (mKd g a).2) ∧ Wp E 89 14 ls (.inl (μ a j.toNat) :: st) g μ Q) := Wp_ald k89_13 (fun _ => rfl)
theorem k89_14 : mCode 89 14 = some (.if_icmp .ge 71, 3) := by decide +kernel
theorem x89_14 {E : ME} {ls : MLs} {st : List MV} {g : MG} {μ : MU} {Q : Option MV → MG → MU → Prop} {a b : Int} : Wp E 89 14 ls (.inl b :: .inl a :: st) g μ Q = ((b ≤ a → Wp E 89 85 ls st g μ Q) ∧ (a < b → Wp E 89 17 ls st g μ Q)) := Wp_cmp_ge k89_14 (by decide)
theorem k89_17 : mCode 89 17 = some (.aload_n 0, 1) := by decide +kernel
theorem x89_17 {E : ME} {ls : MLs} {st : List MV} {g : MG} {μ : MU} {Q : Option MV → MG → MU → Prop} {v : Nat ⊕ Nat} : Wp E 89 17 (some (.inr (.inr v)) :: ls) st g μ Q = Wp E 89 18 (some (.inr (.inr v)) :: ls) (.inr (.inr v) :: st) g μ Q := Wp_nx k89_17 rfl
theorem k89_18 : mCode 89 18 = some (.getfield 44, 3) := by decide +kernel
theorem x89_18 {E : ME} {ls : MLs} {st : List MV} {g : MG} {μ : MU} {Q : Option MV → MG → MU → Prop} {a : Nat} : Wp E 89 18 ls (.inr (.inr (.inl a)) :: st) g μ Q = ((mKd g a).1 = 6 ∧ Wp E 89 21 ls (mRv (mRf g a 14) :: st) g μ Q) := Wp_getR k89_18 f6_44 (by decide) (by decide)
theorem k89_21 : mCode 89 21 = some (.iload_n 2, 1) := by decide +kernel
theorem x89_21 {E : ME} {ls : MLs} {st : List MV} {g : MG} {μ : MU} {Q : Option MV → MG → MU → Prop} {l0 l1 : Option MV} {v : Int} : Wp E 89 21 (l0 :: l1 :: some (.inl v) :: ls) st g μ Q = Wp E 89 22 (l0 :: l1 :: some (.inl v) :: ls) (.inl v :: st) g μ Q := Wp_nx k89_21 rfl
theorem k89_22 : mCode 89 22 = some (.iconst 0, 1) := by decide +kernel
theorem x89_22 {E : ME} {ls : MLs} {st : List MV} {g : MG} {μ : MU} {Q : Option MV → MG → MU → Prop} : Wp E 89 22 ls st g μ Q = Wp E 89 23 ls (.inl 0 :: st) g μ Q := Wp_nx k89_22 rfl
theorem k89_23 : mCode 89 23 = some (.iastore, 1) := by decide +kernel
theorem x89_23 {E : ME} {ls : MLs} {st : List MV} {g : MG} {μ : MU} {Q : Option MV → MG → MU → Prop} {a : Nat} {j v : Int} : Wp E 89 23 ls (.inl v :: .inl j :: .inr (.inr (.inl a)) :: st) g μ Q = (((mKd g a).1 = 10 ∧ 0 ≤ j ∧ j < (mKd g a).2) ∧ Wp E 89 24 ls st g (mUp μ a j.toNat v) Q) := Wp_iast k89_23
theorem k89_24 : mCode 89 24 = some (.iconst 0, 1) := by decide +kernel
theorem x89_24 {E : ME} {ls : MLs} {st : List MV} {g : MG} {μ : MU} {Q : Option MV → MG → MU → Prop} : Wp E 89 24 ls st g μ Q = Wp E 89 25 ls (.inl 0 :: st) g μ Q := Wp_nx k89_24 rfl
theorem k89_25 : mCode 89 25 = some (.istore_n 3, 1) := by decide +kernel
theorem x89_25 {E : ME} {ls : MLs} {st : List MV} {g : MG} {μ : MU} {Q : Option MV → MG → MU → Prop} {l0 l1 l2 : Option MV} {lk : Option MV} {v : Int} : Wp E 89 25 (l0 :: l1 :: l2 :: lk :: ls) (.inl v :: st) g μ Q = ((mNl (some l2) = true ∧ mNl (some lk) = true) ∧ Wp E 89 26 (l0 :: l1 :: l2 :: some (.inl v) :: ls) st g μ Q) := Wp_sti k89_25 (fun _ => rfl) rfl rfl rfl
theorem k89_26 : mCode 89 26 = some (.iload_n 3, 1) := by decide +kernel
theorem x89_26 {E : ME} {ls : MLs} {st : List MV} {g : MG} {μ : MU} {Q : Option MV → MG → MU → Prop} {l0 l1 l2 : Option MV} {v : Int} : Wp E 89 26 (l0 :: l1 :: l2 :: some (.inl v) :: ls) st g μ Q = Wp E 89 27 (l0 :: l1 :: l2 :: some (.inl v) :: ls) (.inl v :: st) g μ Q := Wp_nx k89_26 rfl
theorem k89_27 : mCode 89 27 = some (.bipush 6, 2) := by decide +kernel
theorem x89_27 {E : ME} {ls : MLs} {st : List MV} {g : MG} {μ : MU} {Q : Option MV → MG → MU → Prop} : Wp E 89 27 ls st g μ Q = Wp E 89 29 ls (.inl 6 :: st) g μ Q := Wp_nx k89_27 rfl
theorem k89_29 : mCode 89 29 = some (.if_icmp .ge 50, 3) := by decide +kernel
theorem x89_29 {E : ME} {ls : MLs} {st : List MV} {g : MG} {μ : MU} {Q : Option MV → MG → MU → Prop} {a b : Int} : Wp E 89 29 ls (.inl b :: .inl a :: st) g μ Q = ((b ≤ a → Wp E 89 79 ls st g μ Q) ∧ (a < b → Wp E 89 32 ls st g μ Q)) := Wp_cmp_ge k89_29 (by decide)
theorem k89_32 : mCode 89 32 = some (.aload_n 0, 1) := by decide +kernel
theorem x89_32 {E : ME} {ls : MLs} {st : List MV} {g : MG} {μ : MU} {Q : Option MV → MG → MU → Prop} {v : Nat ⊕ Nat} : Wp E 89 32 (some (.inr (.inr v)) :: ls) st g μ Q = Wp E 89 33 (some (.inr (.inr v)) :: ls) (.inr (.inr v) :: st) g μ Q := Wp_nx k89_32 rfl
theorem k89_33 : mCode 89 33 = some (.getfield 47, 3) := by decide +kernel
theorem x89_33 {E : ME} {ls : MLs} {st : List MV} {g : MG} {μ : MU} {Q : Option MV → MG → MU → Prop} {a : Nat} : Wp E 89 33 ls (.inr (.inr (.inl a)) :: st) g μ Q = ((mKd g a).1 = 6 ∧ Wp E 89 36 ls (mRv (mRf g a 16) :: st) g μ Q) := Wp_getR k89_33 f6_47 (by decide) (by decide)
theorem k89_36 : mCode 89 36 = some (.bipush 6, 2) := by decide +kernel
theorem x89_36 {E : ME} {ls : MLs} {st : List MV} {g : MG} {μ : MU} {Q : Option MV → MG → MU → Prop} : Wp E 89 36 ls st g μ Q = Wp E 89 38 ls (.inl 6 :: st) g μ Q := Wp_nx k89_36 rfl
theorem k89_38 : mCode 89 38 = some (.iload_n 2, 1) := by decide +kernel
theorem x89_38 {E : ME} {ls : MLs} {st : List MV} {g : MG} {μ : MU} {Q : Option MV → MG → MU → Prop} {l0 l1 : Option MV} {v : Int} : Wp E 89 38 (l0 :: l1 :: some (.inl v) :: ls) st g μ Q = Wp E 89 39 (l0 :: l1 :: some (.inl v) :: ls) (.inl v :: st) g μ Q := Wp_nx k89_38 rfl
theorem k89_39 : mCode 89 39 = some (.imul, 1) := by decide +kernel
theorem x89_39 {E : ME} {ls : MLs} {st : List MV} {g : MG} {μ : MU} {Q : Option MV → MG → MU → Prop} {a b : Int} : Wp E 89 39 ls (.inl b :: .inl a :: st) g μ Q = Wp E 89 40 ls (.inl (mWr (a * b)) :: st) g μ Q := Wp_nx k89_39 rfl
theorem k89_40 : mCode 89 40 = some (.iload_n 3, 1) := by decide +kernel
theorem x89_40 {E : ME} {ls : MLs} {st : List MV} {g : MG} {μ : MU} {Q : Option MV → MG → MU → Prop} {l0 l1 l2 : Option MV} {v : Int} : Wp E 89 40 (l0 :: l1 :: l2 :: some (.inl v) :: ls) st g μ Q = Wp E 89 41 (l0 :: l1 :: l2 :: some (.inl v) :: ls) (.inl v :: st) g μ Q := Wp_nx k89_40 rfl
theorem k89_41 : mCode 89 41 = some (.iadd, 1) := by decide +kernel
theorem x89_41 {E : ME} {ls : MLs} {st : List MV} {g : MG} {μ : MU} {Q : Option MV → MG → MU → Prop} {a b : Int} : Wp E 89 41 ls (.inl b :: .inl a :: st) g μ Q = Wp E 89 42 ls (.inl (mWr (a + b)) :: st) g μ Q := Wp_nx k89_41 rfl
theorem k89_42 : mCode 89 42 = some (.aload_n 0, 1) := by decide +kernel
theorem x89_42 {E : ME} {ls : MLs} {st : List MV} {g : MG} {μ : MU} {Q : Option MV → MG → MU → Prop} {v : Nat ⊕ Nat} : Wp E 89 42 (some (.inr (.inr v)) :: ls) st g μ Q = Wp E 89 43 (some (.inr (.inr v)) :: ls) (.inr (.inr v) :: st) g μ Q := Wp_nx k89_42 rfl
theorem k89_43 : mCode 89 43 = some (.iload_n 2, 1) := by decide +kernel
theorem x89_43 {E : ME} {ls : MLs} {st : List MV} {g : MG} {μ : MU} {Q : Option MV → MG → MU → Prop} {l0 l1 : Option MV} {v : Int} : Wp E 89 43 (l0 :: l1 :: some (.inl v) :: ls) st g μ Q = Wp E 89 44 (l0 :: l1 :: some (.inl v) :: ls) (.inl v :: st) g μ Q := Wp_nx k89_43 rfl
theorem k89_44 : mCode 89 44 = some (.iconst 1, 1) := by decide +kernel
theorem x89_44 {E : ME} {ls : MLs} {st : List MV} {g : MG} {μ : MU} {Q : Option MV → MG → MU → Prop} : Wp E 89 44 ls st g μ Q = Wp E 89 45 ls (.inl 1 :: st) g μ Q := Wp_nx k89_44 rfl
theorem k89_45 : mCode 89 45 = some (.invokevirtual 77, 3) := by decide +kernel
theorem x89_45 {E : ME} {ls : MLs} {st : List MV} {g : MG} {μ : MU} {Q : Option MV → MG → MU → Prop} {r : Nat} {a0 : Int} {a1 : Int} : Wp E 89 45 ls (.inl a1 :: .inl a0 :: .inr (.inr (.inl r)) :: st) g μ Q = ((st.length ≤ 4 ∧ ((mKd g r).1 == 6) = true) ∧ Wp E 78 0 [some (.inr (.inr (.inl r))), some (.inl a0), some (.inl a1)] [] g μ (fun r g' μ' => (g'.1 = g.1 ∧ g'.2.1 = g.2.1) ∧ Wp E 89 48 ls (mPush r st) g' μ' Q)) := Wp_cV k89_45 m6_77 (by decide) (as := [.inr (.inr (.inl r)), .inl a0, .inl a1]) rfl rfl rfl ⟨Nat.le_of_ble_eq_true rfl, by decide⟩
theorem k89_48 : mCode 89 48 = some (.iastore, 1) := by decide +kernel
theorem x89_48 {E : ME} {ls : MLs} {st : List MV} {g : MG} {μ : MU} {Q : Option MV → MG → MU → Prop} {a : Nat} {j v : Int} : Wp E 89 48 ls (.inl v :: .inl j :: .inr (.inr (.inl a)) :: st) g μ Q = (((mKd g a).1 = 10 ∧ 0 ≤ j ∧ j < (mKd g a).2) ∧ Wp E 89 49 ls st g (mUp μ a j.toNat v) Q) := Wp_iast k89_48
theorem k89_49 : mCode 89 49 = some (.aload_n 0, 1) := by decide +kernel
theorem x89_49 {E : ME} {ls : MLs} {st : List MV} {g : MG} {μ : MU} {Q : Option MV → MG → MU → Prop} {v : Nat ⊕ Nat} : Wp E 89 49 (some (.inr (.inr v)) :: ls) st g μ Q = Wp E 89 50 (some (.inr (.inr v)) :: ls) (.inr (.inr v) :: st) g μ Q := Wp_nx k89_49 rfl
theorem k89_50 : mCode 89 50 = some (.getfield 50, 3) := by decide +kernel
theorem x89_50 {E : ME} {ls : MLs} {st : List MV} {g : MG} {μ : MU} {Q : Option MV → MG → MU → Prop} {a : Nat} : Wp E 89 50 ls (.inr (.inr (.inl a)) :: st) g μ Q = ((mKd g a).1 = 6 ∧ Wp E 89 53 ls (mRv (mRf g a 17) :: st) g μ Q) := Wp_getR k89_50 f6_50 (by decide) (by decide)
theorem k89_53 : mCode 89 53 = some (.bipush 6, 2) := by decide +kernel
theorem x89_53 {E : ME} {ls : MLs} {st : List MV} {g : MG} {μ : MU} {Q : Option MV → MG → MU → Prop} : Wp E 89 53 ls st g μ Q = Wp E 89 55 ls (.inl 6 :: st) g μ Q := Wp_nx k89_53 rfl
theorem k89_55 : mCode 89 55 = some (.iload_n 2, 1) := by decide +kernel
theorem x89_55 {E : ME} {ls : MLs} {st : List MV} {g : MG} {μ : MU} {Q : Option MV → MG → MU → Prop} {l0 l1 : Option MV} {v : Int} : Wp E 89 55 (l0 :: l1 :: some (.inl v) :: ls) st g μ Q = Wp E 89 56 (l0 :: l1 :: some (.inl v) :: ls) (.inl v :: st) g μ Q := Wp_nx k89_55 rfl
theorem k89_56 : mCode 89 56 = some (.imul, 1) := by decide +kernel
theorem x89_56 {E : ME} {ls : MLs} {st : List MV} {g : MG} {μ : MU} {Q : Option MV → MG → MU → Prop} {a b : Int} : Wp E 89 56 ls (.inl b :: .inl a :: st) g μ Q = Wp E 89 57 ls (.inl (mWr (a * b)) :: st) g μ Q := Wp_nx k89_56 rfl
theorem k89_57 : mCode 89 57 = some (.iload_n 3, 1) := by decide +kernel
theorem x89_57 {E : ME} {ls : MLs} {st : List MV} {g : MG} {μ : MU} {Q : Option MV → MG → MU → Prop} {l0 l1 l2 : Option MV} {v : Int} : Wp E 89 57 (l0 :: l1 :: l2 :: some (.inl v) :: ls) st g μ Q = Wp E 89 58 (l0 :: l1 :: l2 :: some (.inl v) :: ls) (.inl v :: st) g μ Q := Wp_nx k89_57 rfl
theorem k89_58 : mCode 89 58 = some (.iadd, 1) := by decide +kernel
theorem x89_58 {E : ME} {ls : MLs} {st : List MV} {g : MG} {μ : MU} {Q : Option MV → MG → MU → Prop} {a b : Int} : Wp E 89 58 ls (.inl b :: .inl a :: st) g μ Q = Wp E 89 59 ls (.inl (mWr (a + b)) :: st) g μ Q := Wp_nx k89_58 rfl
theorem k89_59 : mCode 89 59 = some (.iconst 0, 1) := by decide +kernel
theorem x89_59 {E : ME} {ls : MLs} {st : List MV} {g : MG} {μ : MU} {Q : Option MV → MG → MU → Prop} : Wp E 89 59 ls st g μ Q = Wp E 89 60 ls (.inl 0 :: st) g μ Q := Wp_nx k89_59 rfl
theorem k89_60 : mCode 89 60 = some (.iastore, 1) := by decide +kernel
theorem x89_60 {E : ME} {ls : MLs} {st : List MV} {g : MG} {μ : MU} {Q : Option MV → MG → MU → Prop} {a : Nat} {j v : Int} : Wp E 89 60 ls (.inl v :: .inl j :: .inr (.inr (.inl a)) :: st) g μ Q = (((mKd g a).1 = 10 ∧ 0 ≤ j ∧ j < (mKd g a).2) ∧ Wp E 89 61 ls st g (mUp μ a j.toNat v) Q) := Wp_iast k89_60
theorem k89_61 : mCode 89 61 = some (.aload_n 0, 1) := by decide +kernel
theorem x89_61 {E : ME} {ls : MLs} {st : List MV} {g : MG} {μ : MU} {Q : Option MV → MG → MU → Prop} {v : Nat ⊕ Nat} : Wp E 89 61 (some (.inr (.inr v)) :: ls) st g μ Q = Wp E 89 62 (some (.inr (.inr v)) :: ls) (.inr (.inr v) :: st) g μ Q := Wp_nx k89_61 rfl
theorem k89_62 : mCode 89 62 = some (.getfield 53, 3) := by decide +kernel
theorem x89_62 {E : ME} {ls : MLs} {st : List MV} {g : MG} {μ : MU} {Q : Option MV → MG → MU → Prop} {a : Nat} : Wp E 89 62 ls (.inr (.inr (.inl a)) :: st) g μ Q = ((mKd g a).1 = 6 ∧ Wp E 89 65 ls (mRv (mRf g a 18) :: st) g μ Q) := Wp_getR k89_62 f6_53 (by decide) (by decide)
theorem k89_65 : mCode 89 65 = some (.bipush 6, 2) := by decide +kernel
theorem x89_65 {E : ME} {ls : MLs} {st : List MV} {g : MG} {μ : MU} {Q : Option MV → MG → MU → Prop} : Wp E 89 65 ls st g μ Q = Wp E 89 67 ls (.inl 6 :: st) g μ Q := Wp_nx k89_65 rfl
theorem k89_67 : mCode 89 67 = some (.iload_n 2, 1) := by decide +kernel
theorem x89_67 {E : ME} {ls : MLs} {st : List MV} {g : MG} {μ : MU} {Q : Option MV → MG → MU → Prop} {l0 l1 : Option MV} {v : Int} : Wp E 89 67 (l0 :: l1 :: some (.inl v) :: ls) st g μ Q = Wp E 89 68 (l0 :: l1 :: some (.inl v) :: ls) (.inl v :: st) g μ Q := Wp_nx k89_67 rfl
theorem k89_68 : mCode 89 68 = some (.imul, 1) := by decide +kernel
theorem x89_68 {E : ME} {ls : MLs} {st : List MV} {g : MG} {μ : MU} {Q : Option MV → MG → MU → Prop} {a b : Int} : Wp E 89 68 ls (.inl b :: .inl a :: st) g μ Q = Wp E 89 69 ls (.inl (mWr (a * b)) :: st) g μ Q := Wp_nx k89_68 rfl
theorem k89_69 : mCode 89 69 = some (.iload_n 3, 1) := by decide +kernel
theorem x89_69 {E : ME} {ls : MLs} {st : List MV} {g : MG} {μ : MU} {Q : Option MV → MG → MU → Prop} {l0 l1 l2 : Option MV} {v : Int} : Wp E 89 69 (l0 :: l1 :: l2 :: some (.inl v) :: ls) st g μ Q = Wp E 89 70 (l0 :: l1 :: l2 :: some (.inl v) :: ls) (.inl v :: st) g μ Q := Wp_nx k89_69 rfl
theorem k89_70 : mCode 89 70 = some (.iadd, 1) := by decide +kernel
theorem x89_70 {E : ME} {ls : MLs} {st : List MV} {g : MG} {μ : MU} {Q : Option MV → MG → MU → Prop} {a b : Int} : Wp E 89 70 ls (.inl b :: .inl a :: st) g μ Q = Wp E 89 71 ls (.inl (mWr (a + b)) :: st) g μ Q := Wp_nx k89_70 rfl
theorem k89_71 : mCode 89 71 = some (.iconst 0, 1) := by decide +kernel
theorem x89_71 {E : ME} {ls : MLs} {st : List MV} {g : MG} {μ : MU} {Q : Option MV → MG → MU → Prop} : Wp E 89 71 ls st g μ Q = Wp E 89 72 ls (.inl 0 :: st) g μ Q := Wp_nx k89_71 rfl
theorem k89_72 : mCode 89 72 = some (.bastore, 1) := by decide +kernel
theorem x89_72 {E : ME} {ls : MLs} {st : List MV} {g : MG} {μ : MU} {Q : Option MV → MG → MU → Prop} {a : Nat} {j v : Int} : Wp E 89 72 ls (.inl v :: .inl j :: .inr (.inr (.inl a)) :: st) g μ Q = (((mKd g a).1 = 12 ∧ 0 ≤ j ∧ j < (mKd g a).2 ∧ mOk 2 v = true) ∧ Wp E 89 73 ls st g (mUp μ a j.toNat v) Q) := Wp_ast k89_72 (fun _ => rfl)
theorem k89_73 : mCode 89 73 = some (.iinc 3 1, 3) := by decide +kernel
theorem x89_73 {E : ME} {ls : MLs} {st : List MV} {g : MG} {μ : MU} {Q : Option MV → MG → MU → Prop} {l0 l1 l2 : Option MV} {v : Int} : Wp E 89 73 (l0 :: l1 :: l2 :: some (.inl v) :: ls) st g μ Q = (mNl (some l2) = true ∧ Wp E 89 76 (l0 :: l1 :: l2 :: some (.inl (mWr (v + 1))) :: ls) st g μ Q) := Wp_inc k89_73 rfl rfl rfl
theorem k89_76 : mCode 89 76 = some (.goto (-50), 3) := by decide +kernel
theorem x89_76 {E : ME} {ls : MLs} {st : List MV} {g : MG} {μ : MU} {Q : Option MV → MG → MU → Prop} : Wp E 89 76 ls st g μ Q = Wp E 89 26 ls st g μ Q := Wp_goto k89_76 (by decide)
theorem k89_79 : mCode 89 79 = some (.iinc 2 1, 3) := by decide +kernel
theorem x89_79 {E : ME} {ls : MLs} {st : List MV} {g : MG} {μ : MU} {Q : Option MV → MG → MU → Prop} {l0 l1 : Option MV} {v : Int} : Wp E 89 79 (l0 :: l1 :: some (.inl v) :: ls) st g μ Q = (mNl (some l1) = true ∧ Wp E 89 82 (l0 :: l1 :: some (.inl (mWr (v + 1))) :: ls) st g μ Q) := Wp_inc k89_79 rfl rfl rfl
theorem k89_82 : mCode 89 82 = some (.goto (-75), 3) := by decide +kernel
theorem x89_82 {E : ME} {ls : MLs} {st : List MV} {g : MG} {μ : MU} {Q : Option MV → MG → MU → Prop} : Wp E 89 82 ls st g μ Q = Wp E 89 7 ls st g μ Q := Wp_goto k89_82 (by decide)
theorem k89_85 : mCode 89 85 = some (.iconst 0, 1) := by decide +kernel
theorem x89_85 {E : ME} {ls : MLs} {st : List MV} {g : MG} {μ : MU} {Q : Option MV → MG → MU → Prop} : Wp E 89 85 ls st g μ Q = Wp E 89 86 ls (.inl 0 :: st) g μ Q := Wp_nx k89_85 rfl
theorem k89_86 : mCode 89 86 = some (.istore_n 2, 1) := by decide +kernel
theorem x89_86 {E : ME} {ls : MLs} {st : List MV} {g : MG} {μ : MU} {Q : Option MV → MG → MU → Prop} {l0 l1 : Option MV} {lk : Option MV} {v : Int} : Wp E 89 86 (l0 :: l1 :: lk :: ls) (.inl v :: st) g μ Q = ((mNl (some l1) = true ∧ mNl (some lk) = true) ∧ Wp E 89 87 (l0 :: l1 :: some (.inl v) :: ls) st g μ Q) := Wp_sti k89_86 (fun _ => rfl) rfl rfl rfl
theorem k89_87 : mCode 89 87 = some (.iload_n 2, 1) := by decide +kernel
theorem x89_87 {E : ME} {ls : MLs} {st : List MV} {g : MG} {μ : MU} {Q : Option MV → MG → MU → Prop} {l0 l1 : Option MV} {v : Int} : Wp E 89 87 (l0 :: l1 :: some (.inl v) :: ls) st g μ Q = Wp E 89 88 (l0 :: l1 :: some (.inl v) :: ls) (.inl v :: st) g μ Q := Wp_nx k89_87 rfl
theorem k89_88 : mCode 89 88 = some (.aload_n 0, 1) := by decide +kernel
theorem x89_88 {E : ME} {ls : MLs} {st : List MV} {g : MG} {μ : MU} {Q : Option MV → MG → MU → Prop} {v : Nat ⊕ Nat} : Wp E 89 88 (some (.inr (.inr v)) :: ls) st g μ Q = Wp E 89 89 (some (.inr (.inr v)) :: ls) (.inr (.inr v) :: st) g μ Q := Wp_nx k89_88 rfl
theorem k89_89 : mCode 89 89 = some (.getfield 7, 3) := by decide +kernel
theorem x89_89 {E : ME} {ls : MLs} {st : List MV} {g : MG} {μ : MU} {Q : Option MV → MG → MU → Prop} {a : Nat} : Wp E 89 89 ls (.inr (.inr (.inl a)) :: st) g μ Q = ((mKd g a).1 = 6 ∧ Wp E 89 92 ls (mRv (mRf g a 1) :: st) g μ Q) := Wp_getR k89_89 f6_7 (by decide) (by decide)
theorem k89_92 : mCode 89 92 = some (.bipush 6, 2) := by decide +kernel
theorem x89_92 {E : ME} {ls : MLs} {st : List MV} {g : MG} {μ : MU} {Q : Option MV → MG → MU → Prop} : Wp E 89 92 ls st g μ Q = Wp E 89 94 ls (.inl 6 :: st) g μ Q := Wp_nx k89_92 rfl
theorem k89_94 : mCode 89 94 = some (.iaload, 1) := by decide +kernel
theorem x89_94 {E : ME} {ls : MLs} {st : List MV} {g : MG} {μ : MU} {Q : Option MV → MG → MU → Prop} {a : Nat} {j : Int} : Wp E 89 94 ls (.inl j :: .inr (.inr (.inl a)) :: st) g μ Q = (((mKd g a).1 = 10 ∧ 0 ≤ j ∧ j < (mKd g a).2) ∧ Wp E 89 95 ls (.inl (μ a j.toNat) :: st) g μ Q) := Wp_ald k89_94 (fun _ => rfl)
theorem k89_95 : mCode 89 95 = some (.if_icmp .ge 20, 3) := by decide +kernel
theorem x89_95 {E : ME} {ls : MLs} {st : List MV} {g : MG} {μ : MU} {Q : Option MV → MG → MU → Prop} {a b : Int} : Wp E 89 95 ls (.inl b :: .inl a :: st) g μ Q = ((b ≤ a → Wp E 89 115 ls st g μ Q) ∧ (a < b → Wp E 89 98 ls st g μ Q)) := Wp_cmp_ge k89_95 (by decide)
theorem k89_98 : mCode 89 98 = some (.aload_n 0, 1) := by decide +kernel
theorem x89_98 {E : ME} {ls : MLs} {st : List MV} {g : MG} {μ : MU} {Q : Option MV → MG → MU → Prop} {v : Nat ⊕ Nat} : Wp E 89 98 (some (.inr (.inr v)) :: ls) st g μ Q = Wp E 89 99 (some (.inr (.inr v)) :: ls) (.inr (.inr v) :: st) g μ Q := Wp_nx k89_98 rfl
theorem k89_99 : mCode 89 99 = some (.getfield 26, 3) := by decide +kernel
theorem x89_99 {E : ME} {ls : MLs} {st : List MV} {g : MG} {μ : MU} {Q : Option MV → MG → MU → Prop} {a : Nat} : Wp E 89 99 ls (.inr (.inr (.inl a)) :: st) g μ Q = ((mKd g a).1 = 6 ∧ Wp E 89 102 ls (mRv (mRf g a 8) :: st) g μ Q) := Wp_getR k89_99 f6_26 (by decide) (by decide)
theorem k89_102 : mCode 89 102 = some (.aload_n 0, 1) := by decide +kernel
theorem x89_102 {E : ME} {ls : MLs} {st : List MV} {g : MG} {μ : MU} {Q : Option MV → MG → MU → Prop} {v : Nat ⊕ Nat} : Wp E 89 102 (some (.inr (.inr v)) :: ls) st g μ Q = Wp E 89 103 (some (.inr (.inr v)) :: ls) (.inr (.inr v) :: st) g μ Q := Wp_nx k89_102 rfl
theorem k89_103 : mCode 89 103 = some (.iload_n 2, 1) := by decide +kernel
theorem x89_103 {E : ME} {ls : MLs} {st : List MV} {g : MG} {μ : MU} {Q : Option MV → MG → MU → Prop} {l0 l1 : Option MV} {v : Int} : Wp E 89 103 (l0 :: l1 :: some (.inl v) :: ls) st g μ Q = Wp E 89 104 (l0 :: l1 :: some (.inl v) :: ls) (.inl v :: st) g μ Q := Wp_nx k89_103 rfl
theorem k89_104 : mCode 89 104 = some (.invokevirtual 97, 3) := by decide +kernel
theorem x89_104 {E : ME} {ls : MLs} {st : List MV} {g : MG} {μ : MU} {Q : Option MV → MG → MU → Prop} {r : Nat} {a0 : Int} : Wp E 89 104 ls (.inl a0 :: .inr (.inr (.inl r)) :: st) g μ Q = ((st.length ≤ 4 ∧ ((mKd g r).1 == 6) = true) ∧ Wp E 86 0 [some (.inr (.inr (.inl r))), some (.inl a0), none, none, none] [] g μ (fun r g' μ' => (g'.1 = g.1 ∧ g'.2.1 = g.2.1) ∧ Wp E 89 107 ls (mPush r st) g' μ' Q)) := Wp_cV k89_104 m6_97 (by decide) (as := [.inr (.inr (.inl r)), .inl a0]) rfl rfl rfl ⟨Nat.le_of_ble_eq_true rfl, by decide⟩
theorem k89_107 : mCode 89 107 = some (.iload_n 2, 1) := by decide +kernel
theorem x89_107 {E : ME} {ls : MLs} {st : List MV} {g : MG} {μ : MU} {Q : Option MV → MG → MU → Prop} {l0 l1 : Option MV} {v : Int} : Wp E 89 107 (l0 :: l1 :: some (.inl v) :: ls) st g μ Q = Wp E 89 108 (l0 :: l1 :: some (.inl v) :: ls) (.inl v :: st) g μ Q := Wp_nx k89_107 rfl
theorem k89_108 : mCode 89 108 = some (.iastore, 1) := by decide +kernel
theorem x89_108 {E : ME} {ls : MLs} {st : List MV} {g : MG} {μ : MU} {Q : Option MV → MG → MU → Prop} {a : Nat} {j v : Int} : Wp E 89 108 ls (.inl v :: .inl j :: .inr (.inr (.inl a)) :: st) g μ Q = (((mKd g a).1 = 10 ∧ 0 ≤ j ∧ j < (mKd g a).2) ∧ Wp E 89 109 ls st g (mUp μ a j.toNat v) Q) := Wp_iast k89_108
theorem k89_109 : mCode 89 109 = some (.iinc 2 1, 3) := by decide +kernel
theorem x89_109 {E : ME} {ls : MLs} {st : List MV} {g : MG} {μ : MU} {Q : Option MV → MG → MU → Prop} {l0 l1 : Option MV} {v : Int} : Wp E 89 109 (l0 :: l1 :: some (.inl v) :: ls) st g μ Q = (mNl (some l1) = true ∧ Wp E 89 112 (l0 :: l1 :: some (.inl (mWr (v + 1))) :: ls) st g μ Q) := Wp_inc k89_109 rfl rfl rfl
theorem k89_112 : mCode 89 112 = some (.goto (-25), 3) := by decide +kernel
theorem x89_112 {E : ME} {ls : MLs} {st : List MV} {g : MG} {μ : MU} {Q : Option MV → MG → MU → Prop} : Wp E 89 112 ls st g μ Q = Wp E 89 87 ls st g μ Q := Wp_goto k89_112 (by decide)
theorem k89_115 : mCode 89 115 = some (.iconst 0, 1) := by decide +kernel
theorem x89_115 {E : ME} {ls : MLs} {st : List MV} {g : MG} {μ : MU} {Q : Option MV → MG → MU → Prop} : Wp E 89 115 ls st g μ Q = Wp E 89 116 ls (.inl 0 :: st) g μ Q := Wp_nx k89_115 rfl
theorem k89_116 : mCode 89 116 = some (.istore_n 2, 1) := by decide +kernel
theorem x89_116 {E : ME} {ls : MLs} {st : List MV} {g : MG} {μ : MU} {Q : Option MV → MG → MU → Prop} {l0 l1 : Option MV} {lk : Option MV} {v : Int} : Wp E 89 116 (l0 :: l1 :: lk :: ls) (.inl v :: st) g μ Q = ((mNl (some l1) = true ∧ mNl (some lk) = true) ∧ Wp E 89 117 (l0 :: l1 :: some (.inl v) :: ls) st g μ Q) := Wp_sti k89_116 (fun _ => rfl) rfl rfl rfl
theorem k89_117 : mCode 89 117 = some (.iload_n 2, 1) := by decide +kernel
theorem x89_117 {E : ME} {ls : MLs} {st : List MV} {g : MG} {μ : MU} {Q : Option MV → MG → MU → Prop} {l0 l1 : Option MV} {v : Int} : Wp E 89 117 (l0 :: l1 :: some (.inl v) :: ls) st g μ Q = Wp E 89 118 (l0 :: l1 :: some (.inl v) :: ls) (.inl v :: st) g μ Q := Wp_nx k89_117 rfl
theorem k89_118 : mCode 89 118 = some (.aload_n 0, 1) := by decide +kernel
theorem x89_118 {E : ME} {ls : MLs} {st : List MV} {g : MG} {μ : MU} {Q : Option MV → MG → MU → Prop} {v : Nat ⊕ Nat} : Wp E 89 118 (some (.inr (.inr v)) :: ls) st g μ Q = Wp E 89 119 (some (.inr (.inr v)) :: ls) (.inr (.inr v) :: st) g μ Q := Wp_nx k89_118 rfl
theorem k89_119 : mCode 89 119 = some (.getfield 7, 3) := by decide +kernel
theorem x89_119 {E : ME} {ls : MLs} {st : List MV} {g : MG} {μ : MU} {Q : Option MV → MG → MU → Prop} {a : Nat} : Wp E 89 119 ls (.inr (.inr (.inl a)) :: st) g μ Q = ((mKd g a).1 = 6 ∧ Wp E 89 122 ls (mRv (mRf g a 1) :: st) g μ Q) := Wp_getR k89_119 f6_7 (by decide) (by decide)
theorem k89_122 : mCode 89 122 = some (.bipush 6, 2) := by decide +kernel
theorem x89_122 {E : ME} {ls : MLs} {st : List MV} {g : MG} {μ : MU} {Q : Option MV → MG → MU → Prop} : Wp E 89 122 ls st g μ Q = Wp E 89 124 ls (.inl 6 :: st) g μ Q := Wp_nx k89_122 rfl
theorem k89_124 : mCode 89 124 = some (.iaload, 1) := by decide +kernel
theorem x89_124 {E : ME} {ls : MLs} {st : List MV} {g : MG} {μ : MU} {Q : Option MV → MG → MU → Prop} {a : Nat} {j : Int} : Wp E 89 124 ls (.inl j :: .inr (.inr (.inl a)) :: st) g μ Q = (((mKd g a).1 = 10 ∧ 0 ≤ j ∧ j < (mKd g a).2) ∧ Wp E 89 125 ls (.inl (μ a j.toNat) :: st) g μ Q) := Wp_ald k89_124 (fun _ => rfl)
theorem k89_125 : mCode 89 125 = some (.if_icmp .ge 19, 3) := by decide +kernel
theorem x89_125 {E : ME} {ls : MLs} {st : List MV} {g : MG} {μ : MU} {Q : Option MV → MG → MU → Prop} {a b : Int} : Wp E 89 125 ls (.inl b :: .inl a :: st) g μ Q = ((b ≤ a → Wp E 89 144 ls st g μ Q) ∧ (a < b → Wp E 89 128 ls st g μ Q)) := Wp_cmp_ge k89_125 (by decide)
theorem k89_128 : mCode 89 128 = some (.aload_n 0, 1) := by decide +kernel
theorem x89_128 {E : ME} {ls : MLs} {st : List MV} {g : MG} {μ : MU} {Q : Option MV → MG → MU → Prop} {v : Nat ⊕ Nat} : Wp E 89 128 (some (.inr (.inr v)) :: ls) st g μ Q = Wp E 89 129 (some (.inr (.inr v)) :: ls) (.inr (.inr v) :: st) g μ Q := Wp_nx k89_128 rfl
theorem k89_129 : mCode 89 129 = some (.aload_n 0, 1) := by decide +kernel
theorem x89_129 {E : ME} {ls : MLs} {st : List MV} {g : MG} {μ : MU} {Q : Option MV → MG → MU → Prop} {v : Nat ⊕ Nat} : Wp E 89 129 (some (.inr (.inr v)) :: ls) st g μ Q = Wp E 89 130 (some (.inr (.inr v)) :: ls) (.inr (.inr v) :: st) g μ Q := Wp_nx k89_129 rfl
theorem k89_130 : mCode 89 130 = some (.getfield 26, 3) := by decide +kernel
theorem x89_130 {E : ME} {ls : MLs} {st : List MV} {g : MG} {μ : MU} {Q : Option MV → MG → MU → Prop} {a : Nat} : Wp E 89 130 ls (.inr (.inr (.inl a)) :: st) g μ Q = ((mKd g a).1 = 6 ∧ Wp E 89 133 ls (mRv (mRf g a 8) :: st) g μ Q) := Wp_getR k89_130 f6_26 (by decide) (by decide)
theorem k89_133 : mCode 89 133 = some (.iload_n 2, 1) := by decide +kernel
theorem x89_133 {E : ME} {ls : MLs} {st : List MV} {g : MG} {μ : MU} {Q : Option MV → MG → MU → Prop} {l0 l1 : Option MV} {v : Int} : Wp E 89 133 (l0 :: l1 :: some (.inl v) :: ls) st g μ Q = Wp E 89 134 (l0 :: l1 :: some (.inl v) :: ls) (.inl v :: st) g μ Q := Wp_nx k89_133 rfl
theorem k89_134 : mCode 89 134 = some (.iaload, 1) := by decide +kernel
theorem x89_134 {E : ME} {ls : MLs} {st : List MV} {g : MG} {μ : MU} {Q : Option MV → MG → MU → Prop} {a : Nat} {j : Int} : Wp E 89 134 ls (.inl j :: .inr (.inr (.inl a)) :: st) g μ Q = (((mKd g a).1 = 10 ∧ 0 ≤ j ∧ j < (mKd g a).2) ∧ Wp E 89 135 ls (.inl (μ a j.toNat) :: st) g μ Q) := Wp_ald k89_134 (fun _ => rfl)
theorem k89_135 : mCode 89 135 = some (.invokevirtual 101, 3) := by decide +kernel
theorem x89_135 {E : ME} {ls : MLs} {st : List MV} {g : MG} {μ : MU} {Q : Option MV → MG → MU → Prop} {r : Nat} {a0 : Int} : Wp E 89 135 ls (.inl a0 :: .inr (.inr (.inl r)) :: st) g μ Q = ((st.length ≤ 4 ∧ ((mKd g r).1 == 6) = true) ∧ Wp E 88 0 [some (.inr (.inr (.inl r))), some (.inl a0), none, none] [] g μ (fun r g' μ' => (g'.1 = g.1 ∧ g'.2.1 = g.2.1) ∧ Wp E 89 138 ls (mPush r st) g' μ' Q)) := Wp_cV k89_135 m6_101 (by decide) (as := [.inr (.inr (.inl r)), .inl a0]) rfl rfl rfl ⟨Nat.le_of_ble_eq_true rfl, by decide⟩
theorem k89_138 : mCode 89 138 = some (.iinc 2 1, 3) := by decide +kernel
theorem x89_138 {E : ME} {ls : MLs} {st : List MV} {g : MG} {μ : MU} {Q : Option MV → MG → MU → Prop} {l0 l1 : Option MV} {v : Int} : Wp E 89 138 (l0 :: l1 :: some (.inl v) :: ls) st g μ Q = (mNl (some l1) = true ∧ Wp E 89 141 (l0 :: l1 :: some (.inl (mWr (v + 1))) :: ls) st g μ Q) := Wp_inc k89_138 rfl rfl rfl
theorem k89_141 : mCode 89 141 = some (.goto (-24), 3) := by decide +kernel
theorem x89_141 {E : ME} {ls : MLs} {st : List MV} {g : MG} {μ : MU} {Q : Option MV → MG → MU → Prop} : Wp E 89 141 ls st g μ Q = Wp E 89 117 ls st g μ Q := Wp_goto k89_141 (by decide)
theorem k89_144 : mCode 89 144 = some (.return_, 1) := by decide +kernel
theorem x89_144 {E : ME} {ls : MLs} {g : MG} {μ : MU} {Q : Option MV → MG → MU → Prop} : Wp E 89 144 ls [] g μ Q = Q none g μ := Wp_retV k89_144 (by decide)
theorem k90_0 : mCode 90 0 = some (.iconst 0, 1) := by decide +kernel
theorem x90_0 {E : ME} {ls : MLs} {st : List MV} {g : MG} {μ : MU} {Q : Option MV → MG → MU → Prop} : Wp E 90 0 ls st g μ Q = Wp E 90 1 ls (.inl 0 :: st) g μ Q := Wp_nx k90_0 rfl
theorem k90_1 : mCode 90 1 = some (.istore_n 1, 1) := by decide +kernel
theorem x90_1 {E : ME} {ls : MLs} {st : List MV} {g : MG} {μ : MU} {Q : Option MV → MG → MU → Prop} {l0 : Option MV} {lk : Option MV} {v : Int} : Wp E 90 1 (l0 :: lk :: ls) (.inl v :: st) g μ Q = ((mNl (some l0) = true ∧ mNl (some lk) = true) ∧ Wp E 90 2 (l0 :: some (.inl v) :: ls) st g μ Q) := Wp_sti k90_1 (fun _ => rfl) rfl rfl rfl
theorem k90_2 : mCode 90 2 = some (.iconst 0, 1) := by decide +kernel
theorem x90_2 {E : ME} {ls : MLs} {st : List MV} {g : MG} {μ : MU} {Q : Option MV → MG → MU → Prop} : Wp E 90 2 ls st g μ Q = Wp E 90 3 ls (.inl 0 :: st) g μ Q := Wp_nx k90_2 rfl
theorem k90_3 : mCode 90 3 = some (.istore_n 2, 1) := by decide +kernel
theorem x90_3 {E : ME} {ls : MLs} {st : List MV} {g : MG} {μ : MU} {Q : Option MV → MG → MU → Prop} {l0 l1 : Option MV} {lk : Option MV} {v : Int} : Wp E 90 3 (l0 :: l1 :: lk :: ls) (.inl v :: st) g μ Q = ((mNl (some l1) = true ∧ mNl (some lk) = true) ∧ Wp E 90 4 (l0 :: l1 :: some (.inl v) :: ls) st g μ Q) := Wp_sti k90_3 (fun _ => rfl) rfl rfl rfl
theorem k90_4 : mCode 90 4 = some (.iload_n 2, 1) := by decide +kernel
theorem x90_4 {E : ME} {ls : MLs} {st : List MV} {g : MG} {μ : MU} {Q : Option MV → MG → MU → Prop} {l0 l1 : Option MV} {v : Int} : Wp E 90 4 (l0 :: l1 :: some (.inl v) :: ls) st g μ Q = Wp E 90 5 (l0 :: l1 :: some (.inl v) :: ls) (.inl v :: st) g μ Q := Wp_nx k90_4 rfl
theorem k90_5 : mCode 90 5 = some (.bipush 6, 2) := by decide +kernel
theorem x90_5 {E : ME} {ls : MLs} {st : List MV} {g : MG} {μ : MU} {Q : Option MV → MG → MU → Prop} : Wp E 90 5 ls st g μ Q = Wp E 90 7 ls (.inl 6 :: st) g μ Q := Wp_nx k90_5 rfl
theorem k90_7 : mCode 90 7 = some (.if_icmp .ge 17, 3) := by decide +kernel
theorem x90_7 {E : ME} {ls : MLs} {st : List MV} {g : MG} {μ : MU} {Q : Option MV → MG → MU → Prop} {a b : Int} : Wp E 90 7 ls (.inl b :: .inl a :: st) g μ Q = ((b ≤ a → Wp E 90 24 ls st g μ Q) ∧ (a < b → Wp E 90 10 ls st g μ Q)) := Wp_cmp_ge k90_7 (by decide)
theorem k90_10 : mCode 90 10 = some (.iload_n 1, 1) := by decide +kernel
theorem x90_10 {E : ME} {ls : MLs} {st : List MV} {g : MG} {μ : MU} {Q : Option MV → MG → MU → Prop} {l0 : Option MV} {v : Int} : Wp E 90 10 (l0 :: some (.inl v) :: ls) st g μ Q = Wp E 90 11 (l0 :: some (.inl v) :: ls) (.inl v :: st) g μ Q := Wp_nx k90_10 rfl
theorem k90_11 : mCode 90 11 = some (.iload_n 0, 1) := by decide +kernel
theorem x90_11 {E : ME} {ls : MLs} {st : List MV} {g : MG} {μ : MU} {Q : Option MV → MG → MU → Prop} {v : Int} : Wp E 90 11 (some (.inl v) :: ls) st g μ Q = Wp E 90 12 (some (.inl v) :: ls) (.inl v :: st) g μ Q := Wp_nx k90_11 rfl
theorem k90_12 : mCode 90 12 = some (.iload_n 2, 1) := by decide +kernel
theorem x90_12 {E : ME} {ls : MLs} {st : List MV} {g : MG} {μ : MU} {Q : Option MV → MG → MU → Prop} {l0 l1 : Option MV} {v : Int} : Wp E 90 12 (l0 :: l1 :: some (.inl v) :: ls) st g μ Q = Wp E 90 13 (l0 :: l1 :: some (.inl v) :: ls) (.inl v :: st) g μ Q := Wp_nx k90_12 rfl
theorem k90_13 : mCode 90 13 = some (.ishr, 1) := by decide +kernel
theorem x90_13 {E : ME} {ls : MLs} {st : List MV} {g : MG} {μ : MU} {Q : Option MV → MG → MU → Prop} {a b : Int} : Wp E 90 13 ls (.inl b :: .inl a :: st) g μ Q = Wp E 90 14 ls (.inl (mIshr a b) :: st) g μ Q := Wp_nx k90_13 rfl
theorem k90_14 : mCode 90 14 = some (.iconst 1, 1) := by decide +kernel
theorem x90_14 {E : ME} {ls : MLs} {st : List MV} {g : MG} {μ : MU} {Q : Option MV → MG → MU → Prop} : Wp E 90 14 ls st g μ Q = Wp E 90 15 ls (.inl 1 :: st) g μ Q := Wp_nx k90_14 rfl
theorem k90_15 : mCode 90 15 = some (.iand, 1) := by decide +kernel
theorem x90_15 {E : ME} {ls : MLs} {st : List MV} {g : MG} {μ : MU} {Q : Option MV → MG → MU → Prop} {a b : Int} : Wp E 90 15 ls (.inl b :: .inl a :: st) g μ Q = Wp E 90 16 ls (.inl (mIand a b) :: st) g μ Q := Wp_nx k90_15 rfl
theorem k90_16 : mCode 90 16 = some (.iadd, 1) := by decide +kernel
theorem x90_16 {E : ME} {ls : MLs} {st : List MV} {g : MG} {μ : MU} {Q : Option MV → MG → MU → Prop} {a b : Int} : Wp E 90 16 ls (.inl b :: .inl a :: st) g μ Q = Wp E 90 17 ls (.inl (mWr (a + b)) :: st) g μ Q := Wp_nx k90_16 rfl
theorem k90_17 : mCode 90 17 = some (.istore_n 1, 1) := by decide +kernel
theorem x90_17 {E : ME} {ls : MLs} {st : List MV} {g : MG} {μ : MU} {Q : Option MV → MG → MU → Prop} {l0 : Option MV} {lk : Option MV} {v : Int} : Wp E 90 17 (l0 :: lk :: ls) (.inl v :: st) g μ Q = ((mNl (some l0) = true ∧ mNl (some lk) = true) ∧ Wp E 90 18 (l0 :: some (.inl v) :: ls) st g μ Q) := Wp_sti k90_17 (fun _ => rfl) rfl rfl rfl
theorem k90_18 : mCode 90 18 = some (.iinc 2 1, 3) := by decide +kernel
theorem x90_18 {E : ME} {ls : MLs} {st : List MV} {g : MG} {μ : MU} {Q : Option MV → MG → MU → Prop} {l0 l1 : Option MV} {v : Int} : Wp E 90 18 (l0 :: l1 :: some (.inl v) :: ls) st g μ Q = (mNl (some l1) = true ∧ Wp E 90 21 (l0 :: l1 :: some (.inl (mWr (v + 1))) :: ls) st g μ Q) := Wp_inc k90_18 rfl rfl rfl
theorem k90_21 : mCode 90 21 = some (.goto (-17), 3) := by decide +kernel
theorem x90_21 {E : ME} {ls : MLs} {st : List MV} {g : MG} {μ : MU} {Q : Option MV → MG → MU → Prop} : Wp E 90 21 ls st g μ Q = Wp E 90 4 ls st g μ Q := Wp_goto k90_21 (by decide)
theorem k90_24 : mCode 90 24 = some (.iload_n 1, 1) := by decide +kernel
theorem x90_24 {E : ME} {ls : MLs} {st : List MV} {g : MG} {μ : MU} {Q : Option MV → MG → MU → Prop} {l0 : Option MV} {v : Int} : Wp E 90 24 (l0 :: some (.inl v) :: ls) st g μ Q = Wp E 90 25 (l0 :: some (.inl v) :: ls) (.inl v :: st) g μ Q := Wp_nx k90_24 rfl
theorem k90_25 : mCode 90 25 = some (.ireturn, 1) := by decide +kernel
theorem x90_25 {E : ME} {ls : MLs} {g : MG} {μ : MU} {Q : Option MV → MG → MU → Prop} {v : Int} : Wp E 90 25 ls [.inl v] g μ Q = Q (some (.inl v)) g μ := Wp_retI k90_25 (by decide)
theorem k91_0 : mCode 91 0 = some (.aload_n 0, 1) := by decide +kernel
theorem x91_0 {E : ME} {ls : MLs} {st : List MV} {g : MG} {μ : MU} {Q : Option MV → MG → MU → Prop} {v : Nat ⊕ Nat} : Wp E 91 0 (some (.inr (.inr v)) :: ls) st g μ Q = Wp E 91 1 (some (.inr (.inr v)) :: ls) (.inr (.inr v) :: st) g μ Q := Wp_nx k91_0 rfl
theorem k91_1 : mCode 91 1 = some (.iload_n 1, 1) := by decide +kernel
theorem x91_1 {E : ME} {ls : MLs} {st : List MV} {g : MG} {μ : MU} {Q : Option MV → MG → MU → Prop} {l0 : Option MV} {v : Int} : Wp E 91 1 (l0 :: some (.inl v) :: ls) st g μ Q = Wp E 91 2 (l0 :: some (.inl v) :: ls) (.inl v :: st) g μ Q := Wp_nx k91_1 rfl
theorem k91_2 : mCode 91 2 = some (.iconst 3, 1) := by decide +kernel
theorem x91_2 {E : ME} {ls : MLs} {st : List MV} {g : MG} {μ : MU} {Q : Option MV → MG → MU → Prop} : Wp E 91 2 ls st g μ Q = Wp E 91 3 ls (.inl 3 :: st) g μ Q := Wp_nx k91_2 rfl
theorem k91_3 : mCode 91 3 = some (.invokevirtual 87, 3) := by decide +kernel
theorem x91_3 {E : ME} {ls : MLs} {st : List MV} {g : MG} {μ : MU} {Q : Option MV → MG → MU → Prop} {r : Nat} {a0 : Int} {a1 : Int} : Wp E 91 3 ls (.inl a1 :: .inl a0 :: .inr (.inr (.inl r)) :: st) g μ Q = ((st.length ≤ 4 ∧ ((mKd g r).1 == 6) = true) ∧ Wp E 79 0 [some (.inr (.inr (.inl r))), some (.inl a0), some (.inl a1)] [] g μ (fun r g' μ' => (g'.1 = g.1 ∧ g'.2.1 = g.2.1) ∧ Wp E 91 6 ls (mPush r st) g' μ' Q)) := Wp_cV k91_3 m6_87 (by decide) (as := [.inr (.inr (.inl r)), .inl a0, .inl a1]) rfl rfl rfl ⟨Nat.le_of_ble_eq_true rfl, by decide⟩
theorem k91_6 : mCode 91 6 = some (.aload_n 0, 1) := by decide +kernel
theorem x91_6 {E : ME} {ls : MLs} {st : List MV} {g : MG} {μ : MU} {Q : Option MV → MG → MU → Prop} {v : Nat ⊕ Nat} : Wp E 91 6 (some (.inr (.inr v)) :: ls) st g μ Q = Wp E 91 7 (some (.inr (.inr v)) :: ls) (.inr (.inr v) :: st) g μ Q := Wp_nx k91_6 rfl
theorem k91_7 : mCode 91 7 = some (.getfield 7, 3) := by decide +kernel
theorem x91_7 {E : ME} {ls : MLs} {st : List MV} {g : MG} {μ : MU} {Q : Option MV → MG → MU → Prop} {a : Nat} : Wp E 91 7 ls (.inr (.inr (.inl a)) :: st) g μ Q = ((mKd g a).1 = 6 ∧ Wp E 91 10 ls (mRv (mRf g a 1) :: st) g μ Q) := Wp_getR k91_7 f6_7 (by decide) (by decide)
theorem k91_10 : mCode 91 10 = some (.iconst 4, 1) := by decide +kernel
theorem x91_10 {E : ME} {ls : MLs} {st : List MV} {g : MG} {μ : MU} {Q : Option MV → MG → MU → Prop} : Wp E 91 10 ls st g μ Q = Wp E 91 11 ls (.inl 4 :: st) g μ Q := Wp_nx k91_10 rfl
theorem k91_11 : mCode 91 11 = some (.iaload, 1) := by decide +kernel
theorem x91_11 {E : ME} {ls : MLs} {st : List MV} {g : MG} {μ : MU} {Q : Option MV → MG → MU → Prop} {a : Nat} {j : Int} : Wp E 91 11 ls (.inl j :: .inr (.inr (.inl a)) :: st) g μ Q = (((mKd g a).1 = 10 ∧ 0 ≤ j ∧ j < (mKd g a).2) ∧ Wp E 91 12 ls (.inl (μ a j.toNat) :: st) g μ Q) := Wp_ald k91_11 (fun _ => rfl)
theorem k91_12 : mCode 91 12 = some (.imul, 1) := by decide +kernel
theorem x91_12 {E : ME} {ls : MLs} {st : List MV} {g : MG} {μ : MU} {Q : Option MV → MG → MU → Prop} {a b : Int} : Wp E 91 12 ls (.inl b :: .inl a :: st) g μ Q = Wp E 91 13 ls (.inl (mWr (a * b)) :: st) g μ Q := Wp_nx k91_12 rfl
theorem k91_13 : mCode 91 13 = some (.ireturn, 1) := by decide +kernel
theorem x91_13 {E : ME} {ls : MLs} {g : MG} {μ : MU} {Q : Option MV → MG → MU → Prop} {v : Int} : Wp E 91 13 ls [.inl v] g μ Q = Q (some (.inl v)) g μ := Wp_retI k91_13 (by decide)
theorem k92_0 : mCode 92 0 = some (.aload_n 0, 1) := by decide +kernel
theorem x92_0 {E : ME} {ls : MLs} {st : List MV} {g : MG} {μ : MU} {Q : Option MV → MG → MU → Prop} {v : Nat ⊕ Nat} : Wp E 92 0 (some (.inr (.inr v)) :: ls) st g μ Q = Wp E 92 1 (some (.inr (.inr v)) :: ls) (.inr (.inr v) :: st) g μ Q := Wp_nx k92_0 rfl
theorem k92_1 : mCode 92 1 = some (.iload_n 1, 1) := by decide +kernel
theorem x92_1 {E : ME} {ls : MLs} {st : List MV} {g : MG} {μ : MU} {Q : Option MV → MG → MU → Prop} {l0 : Option MV} {v : Int} : Wp E 92 1 (l0 :: some (.inl v) :: ls) st g μ Q = Wp E 92 2 (l0 :: some (.inl v) :: ls) (.inl v :: st) g μ Q := Wp_nx k92_1 rfl
theorem k92_2 : mCode 92 2 = some (.invokevirtual 105, 3) := by decide +kernel
theorem x92_2 {E : ME} {ls : MLs} {st : List MV} {g : MG} {μ : MU} {Q : Option MV → MG → MU → Prop} {r : Nat} {a0 : Int} : Wp E 92 2 ls (.inl a0 :: .inr (.inr (.inl r)) :: st) g μ Q = ((st.length ≤ 4 ∧ ((mKd g r).1 == 6) = true) ∧ Wp E 91 0 [some (.inr (.inr (.inl r))), some (.inl a0)] [] g μ (fun r g' μ' => (g'.1 = g.1 ∧ g'.2.1 = g.2.1) ∧ Wp E 92 5 ls (mPush r st) g' μ' Q)) := Wp_cV k92_2 m6_105 (by decide) (as := [.inr (.inr (.inl r)), .inl a0]) rfl rfl rfl ⟨Nat.le_of_ble_eq_true rfl, by decide⟩
theorem k92_5 : mCode 92 5 = some (.aload_n 0, 1) := by decide +kernel
theorem x92_5 {E : ME} {ls : MLs} {st : List MV} {g : MG} {μ : MU} {Q : Option MV → MG → MU → Prop} {v : Nat ⊕ Nat} : Wp E 92 5 (some (.inr (.inr v)) :: ls) st g μ Q = Wp E 92 6 (some (.inr (.inr v)) :: ls) (.inr (.inr v) :: st) g μ Q := Wp_nx k92_5 rfl
theorem k92_6 : mCode 92 6 = some (.getfield 35, 3) := by decide +kernel
theorem x92_6 {E : ME} {ls : MLs} {st : List MV} {g : MG} {μ : MU} {Q : Option MV → MG → MU → Prop} {a : Nat} : Wp E 92 6 ls (.inr (.inr (.inl a)) :: st) g μ Q = ((mKd g a).1 = 6 ∧ Wp E 92 9 ls (mRv (mRf g a 11) :: st) g μ Q) := Wp_getR k92_6 f6_35 (by decide) (by decide)
theorem k92_9 : mCode 92 9 = some (.iload_n 1, 1) := by decide +kernel
theorem x92_9 {E : ME} {ls : MLs} {st : List MV} {g : MG} {μ : MU} {Q : Option MV → MG → MU → Prop} {l0 : Option MV} {v : Int} : Wp E 92 9 (l0 :: some (.inl v) :: ls) st g μ Q = Wp E 92 10 (l0 :: some (.inl v) :: ls) (.inl v :: st) g μ Q := Wp_nx k92_9 rfl
theorem k92_10 : mCode 92 10 = some (.iaload, 1) := by decide +kernel
theorem x92_10 {E : ME} {ls : MLs} {st : List MV} {g : MG} {μ : MU} {Q : Option MV → MG → MU → Prop} {a : Nat} {j : Int} : Wp E 92 10 ls (.inl j :: .inr (.inr (.inl a)) :: st) g μ Q = (((mKd g a).1 = 10 ∧ 0 ≤ j ∧ j < (mKd g a).2) ∧ Wp E 92 11 ls (.inl (μ a j.toNat) :: st) g μ Q) := Wp_ald k92_10 (fun _ => rfl)
theorem k92_11 : mCode 92 11 = some (.invokestatic 108, 3) := by decide +kernel
theorem x92_11 {E : ME} {ls : MLs} {st : List MV} {g : MG} {μ : MU} {Q : Option MV → MG → MU → Prop} {a0 : Int} : Wp E 92 11 ls (.inl a0 :: st) g μ Q = (st.length ≤ 4 ∧ Wp E 90 0 [some (.inl a0), none, none] [] g μ (fun r g' μ' => (g'.1 = g.1 ∧ g'.2.1 = g.2.1) ∧ Wp E 92 14 ls (mPush r st) g' μ' Q)) := Wp_cS k92_11 m6_108 (by decide) (as := [.inl a0]) rfl rfl rfl ⟨Nat.le_of_ble_eq_true rfl, by decide⟩
theorem k92_14 : mCode 92 14 = some (.imul, 1) := by decide +kernel
theorem x92_14 {E : ME} {ls : MLs} {st : List MV} {g : MG} {μ : MU} {Q : Option MV → MG → MU → Prop} {a b : Int} : Wp E 92 14 ls (.inl b :: .inl a :: st) g μ Q = Wp E 92 15 ls (.inl (mWr (a * b)) :: st) g μ Q := Wp_nx k92_14 rfl
theorem k92_15 : mCode 92 15 = some (.aload_n 0, 1) := by decide +kernel
theorem x92_15 {E : ME} {ls : MLs} {st : List MV} {g : MG} {μ : MU} {Q : Option MV → MG → MU → Prop} {v : Nat ⊕ Nat} : Wp E 92 15 (some (.inr (.inr v)) :: ls) st g μ Q = Wp E 92 16 (some (.inr (.inr v)) :: ls) (.inr (.inr v) :: st) g μ Q := Wp_nx k92_15 rfl
theorem k92_16 : mCode 92 16 = some (.aload_n 0, 1) := by decide +kernel
theorem x92_16 {E : ME} {ls : MLs} {st : List MV} {g : MG} {μ : MU} {Q : Option MV → MG → MU → Prop} {v : Nat ⊕ Nat} : Wp E 92 16 (some (.inr (.inr v)) :: ls) st g μ Q = Wp E 92 17 (some (.inr (.inr v)) :: ls) (.inr (.inr v) :: st) g μ Q := Wp_nx k92_16 rfl
theorem k92_17 : mCode 92 17 = some (.iload_n 1, 1) := by decide +kernel
theorem x92_17 {E : ME} {ls : MLs} {st : List MV} {g : MG} {μ : MU} {Q : Option MV → MG → MU → Prop} {l0 : Option MV} {v : Int} : Wp E 92 17 (l0 :: some (.inl v) :: ls) st g μ Q = Wp E 92 18 (l0 :: some (.inl v) :: ls) (.inl v :: st) g μ Q := Wp_nx k92_17 rfl
theorem k92_18 : mCode 92 18 = some (.iconst 0, 1) := by decide +kernel
theorem x92_18 {E : ME} {ls : MLs} {st : List MV} {g : MG} {μ : MU} {Q : Option MV → MG → MU → Prop} : Wp E 92 18 ls st g μ Q = Wp E 92 19 ls (.inl 0 :: st) g μ Q := Wp_nx k92_18 rfl
theorem k92_19 : mCode 92 19 = some (.invokevirtual 87, 3) := by decide +kernel
theorem x92_19 {E : ME} {ls : MLs} {st : List MV} {g : MG} {μ : MU} {Q : Option MV → MG → MU → Prop} {r : Nat} {a0 : Int} {a1 : Int} : Wp E 92 19 ls (.inl a1 :: .inl a0 :: .inr (.inr (.inl r)) :: st) g μ Q = ((st.length ≤ 4 ∧ ((mKd g r).1 == 6) = true) ∧ Wp E 79 0 [some (.inr (.inr (.inl r))), some (.inl a0), some (.inl a1)] [] g μ (fun r g' μ' => (g'.1 = g.1 ∧ g'.2.1 = g.2.1) ∧ Wp E 92 22 ls (mPush r st) g' μ' Q)) := Wp_cV k92_19 m6_87 (by decide) (as := [.inr (.inr (.inl r)), .inl a0, .inl a1]) rfl rfl rfl ⟨Nat.le_of_ble_eq_true rfl, by decide⟩
theorem k92_22 : mCode 92 22 = some (.iconst 0, 1) := by decide +kernel
theorem x92_22 {E : ME} {ls : MLs} {st : List MV} {g : MG} {μ : MU} {Q : Option MV → MG → MU → Prop} : Wp E 92 22 ls st g μ Q = Wp E 92 23 ls (.inl 0 :: st) g μ Q := Wp_nx k92_22 rfl
theorem k92_23 : mCode 92 23 = some (.invokevirtual 77, 3) := by decide +kernel
theorem x92_23 {E : ME} {ls : MLs} {st : List MV} {g : MG} {μ : MU} {Q : Option MV → MG → MU → Prop} {r : Nat} {a0 : Int} {a1 : Int} : Wp E 92 23 ls (.inl a1 :: .inl a0 :: .inr (.inr (.inl r)) :: st) g μ Q = ((st.length ≤ 4 ∧ ((mKd g r).1 == 6) = true) ∧ Wp E 78 0 [some (.inr (.inr (.inl r))), some (.inl a0), some (.inl a1)] [] g μ (fun r g' μ' => (g'.1 = g.1 ∧ g'.2.1 = g.2.1) ∧ Wp E 92 26 ls (mPush r st) g' μ' Q)) := Wp_cV k92_23 m6_77 (by decide) (as := [.inr (.inr (.inl r)), .inl a0, .inl a1]) rfl rfl rfl ⟨Nat.le_of_ble_eq_true rfl, by decide⟩
theorem k92_26 : mCode 92 26 = some (.idiv, 1) := by decide +kernel
theorem x92_26 {E : ME} {ls : MLs} {st : List MV} {g : MG} {μ : MU} {Q : Option MV → MG → MU → Prop} {a b : Int} : Wp E 92 26 ls (.inl b :: .inl a :: st) g μ Q = (¬ b = 0 ∧ Wp E 92 27 ls (.inl (mWr (a.tdiv b)) :: st) g μ Q) := Wp_div (f := mIdiv) k92_26 (fun _ => rfl)
theorem k92_27 : mCode 92 27 = some (.ireturn, 1) := by decide +kernel
theorem x92_27 {E : ME} {ls : MLs} {g : MG} {μ : MU} {Q : Option MV → MG → MU → Prop} {v : Int} : Wp E 92 27 ls [.inl v] g μ Q = Q (some (.inl v)) g μ := Wp_retI k92_27 (by decide)
theorem k93_0 : mCode 93 0 = some (.aload_n 0, 1) := by decide +kernel
theorem x93_0 {E : ME} {ls : MLs} {st : List MV} {g : MG} {μ : MU} {Q : Option MV → MG → MU → Prop} {v : Nat ⊕ Nat} : Wp E 93 0 (some (.inr (.inr v)) :: ls) st g μ Q = Wp E 93 1 (some (.inr (.inr v)) :: ls) (.inr (.inr v) :: st) g μ Q := Wp_nx k93_0 rfl
theorem k93_1 : mCode 93 1 = some (.iload_n 1, 1) := by decide +kernel
theorem x93_1 {E : ME} {ls : MLs} {st : List MV} {g : MG} {μ : MU} {Q : Option MV → MG → MU → Prop} {l0 : Option MV} {v : Int} : Wp E 93 1 (l0 :: some (.inl v) :: ls) st g μ Q = Wp E 93 2 (l0 :: some (.inl v) :: ls) (.inl v :: st) g μ Q := Wp_nx k93_1 rfl
theorem k93_2 : mCode 93 2 = some (.invokevirtual 105, 3) := by decide +kernel
theorem x93_2 {E : ME} {ls : MLs} {st : List MV} {g : MG} {μ : MU} {Q : Option MV → MG → MU → Prop} {r : Nat} {a0 : Int} : Wp E 93 2 ls (.inl a0 :: .inr (.inr (.inl r)) :: st) g μ Q = ((st.length ≤ 4 ∧ ((mKd g r).1 == 6) = true) ∧ Wp E 91 0 [some (.inr (.inr (.inl r))), some (.inl a0)] [] g μ (fun r g' μ' => (g'.1 = g.1 ∧ g'.2.1 = g.2.1) ∧ Wp E 93 5 ls (mPush r st) g' μ' Q)) := Wp_cV k93_2 m6_105 (by decide) (as := [.inr (.inr (.inl r)), .inl a0]) rfl rfl rfl ⟨Nat.le_of_ble_eq_true rfl, by decide⟩
theorem k93_5 : mCode 93 5 = some (.aload_n 0, 1) := by decide +kernel
theorem x93_5 {E : ME} {ls : MLs} {st : List MV} {g : MG} {μ : MU} {Q : Option MV → MG → MU → Prop} {v : Nat ⊕ Nat} : Wp E 93 5 (some (.inr (.inr v)) :: ls) st g μ Q = Wp E 93 6 (some (.inr (.inr v)) :: ls) (.inr (.inr v) :: st) g μ Q := Wp_nx k93_5 rfl
theorem k93_6 : mCode 93 6 = some (.iload_n 1, 1) := by decide +kernel
theorem x93_6 {E : ME} {ls : MLs} {st : List MV} {g : MG} {μ : MU} {Q : Option MV → MG → MU → Prop} {l0 : Option MV} {v : Int} : Wp E 93 6 (l0 :: some (.inl v) :: ls) st g μ Q = Wp E 93 7 (l0 :: some (.inl v) :: ls) (.inl v :: st) g μ Q := Wp_nx k93_6 rfl
theorem k93_7 : mCode 93 7 = some (.invokevirtual 111, 3) := by decide +kernel
theorem x93_7 {E : ME} {ls : MLs} {st : List MV} {g : MG} {μ : MU} {Q : Option MV → MG → MU → Prop} {r : Nat} {a0 : Int} : Wp E 93 7 ls (.inl a0 :: .inr (.inr (.inl r)) :: st) g μ Q = ((st.length ≤ 4 ∧ ((mKd g r).1 == 6) = true) ∧ Wp E 92 0 [some (.inr (.inr (.inl r))), some (.inl a0)] [] g μ (fun r g' μ' => (g'.1 = g.1 ∧ g'.2.1 = g.2.1) ∧ Wp E 93 10 ls (mPush r st) g' μ' Q)) := Wp_cV k93_7 m6_111 (by decide) (as := [.inr (.inr (.inl r)), .inl a0]) rfl rfl rfl ⟨Nat.le_of_ble_eq_true rfl, by decide⟩
theorem k93_10 : mCode 93 10 = some (.isub, 1) := by decide +kernel
theorem x93_10 {E : ME} {ls : MLs} {st : List MV} {g : MG} {μ : MU} {Q : Option MV → MG → MU → Prop} {a b : Int} : Wp E 93 10 ls (.inl b :: .inl a :: st) g μ Q = Wp E 93 11 ls (.inl (mWr (a - b)) :: st) g μ Q := Wp_nx k93_10 rfl
theorem k93_11 : mCode 93 11 = some (.ireturn, 1) := by decide +kernel
theorem x93_11 {E : ME} {ls : MLs} {g : MG} {μ : MU} {Q : Option MV → MG → MU → Prop} {v : Int} : Wp E 93 11 ls [.inl v] g μ Q = Q (some (.inl v)) g μ := Wp_retI k93_11 (by decide)
theorem k94_0 : mCode 94 0 = some (.aload_n 0, 1) := by decide +kernel
theorem x94_0 {E : ME} {ls : MLs} {st : List MV} {g : MG} {μ : MU} {Q : Option MV → MG → MU → Prop} {v : Nat ⊕ Nat} : Wp E 94 0 (some (.inr (.inr v)) :: ls) st g μ Q = Wp E 94 1 (some (.inr (.inr v)) :: ls) (.inr (.inr v) :: st) g μ Q := Wp_nx k94_0 rfl
theorem k94_1 : mCode 94 1 = some (.iload_n 1, 1) := by decide +kernel
theorem x94_1 {E : ME} {ls : MLs} {st : List MV} {g : MG} {μ : MU} {Q : Option MV → MG → MU → Prop} {l0 : Option MV} {v : Int} : Wp E 94 1 (l0 :: some (.inl v) :: ls) st g μ Q = Wp E 94 2 (l0 :: some (.inl v) :: ls) (.inl v :: st) g μ Q := Wp_nx k94_1 rfl
theorem k94_2 : mCode 94 2 = some (.invokevirtual 114, 3) := by decide +kernel
theorem x94_2 {E : ME} {ls : MLs} {st : List MV} {g : MG} {μ : MU} {Q : Option MV → MG → MU → Prop} {r : Nat} {a0 : Int} : Wp E 94 2 ls (.inl a0 :: .inr (.inr (.inl r)) :: st) g μ Q = ((st.length ≤ 4 ∧ ((mKd g r).1 == 6) = true) ∧ Wp E 93 0 [some (.inr (.inr (.inl r))), some (.inl a0)] [] g μ (fun r g' μ' => (g'.1 = g.1 ∧ g'.2.1 = g.2.1) ∧ Wp E 94 5 ls (mPush r st) g' μ' Q)) := Wp_cV k94_2 m6_114 (by decide) (as := [.inr (.inr (.inl r)), .inl a0]) rfl rfl rfl ⟨Nat.le_of_ble_eq_true rfl, by decide⟩
theorem k94_5 : mCode 94 5 = some (.aload_n 0, 1) := by decide +kernel
theorem x94_5 {E : ME} {ls : MLs} {st : List MV} {g : MG} {μ : MU} {Q : Option MV → MG → MU → Prop} {v : Nat ⊕ Nat} : Wp E 94 5 (some (.inr (.inr v)) :: ls) st g μ Q = Wp E 94 6 (some (.inr (.inr v)) :: ls) (.inr (.inr v) :: st) g μ Q := Wp_nx k94_5 rfl
theorem k94_6 : mCode 94 6 = some (.aload_n 0, 1) := by decide +kernel
theorem x94_6 {E : ME} {ls : MLs} {st : List MV} {g : MG} {μ : MU} {Q : Option MV → MG → MU → Prop} {v : Nat ⊕ Nat} : Wp E 94 6 (some (.inr (.inr v)) :: ls) st g μ Q = Wp E 94 7 (some (.inr (.inr v)) :: ls) (.inr (.inr v) :: st) g μ Q := Wp_nx k94_6 rfl
theorem k94_7 : mCode 94 7 = some (.iload_n 1, 1) := by decide +kernel
theorem x94_7 {E : ME} {ls : MLs} {st : List MV} {g : MG} {μ : MU} {Q : Option MV → MG → MU → Prop} {l0 : Option MV} {v : Int} : Wp E 94 7 (l0 :: some (.inl v) :: ls) st g μ Q = Wp E 94 8 (l0 :: some (.inl v) :: ls) (.inl v :: st) g μ Q := Wp_nx k94_7 rfl
theorem k94_8 : mCode 94 8 = some (.iconst 0, 1) := by decide +kernel
theorem x94_8 {E : ME} {ls : MLs} {st : List MV} {g : MG} {μ : MU} {Q : Option MV → MG → MU → Prop} : Wp E 94 8 ls st g μ Q = Wp E 94 9 ls (.inl 0 :: st) g μ Q := Wp_nx k94_8 rfl
theorem k94_9 : mCode 94 9 = some (.invokevirtual 87, 3) := by decide +kernel
theorem x94_9 {E : ME} {ls : MLs} {st : List MV} {g : MG} {μ : MU} {Q : Option MV → MG → MU → Prop} {r : Nat} {a0 : Int} {a1 : Int} : Wp E 94 9 ls (.inl a1 :: .inl a0 :: .inr (.inr (.inl r)) :: st) g μ Q = ((st.length ≤ 4 ∧ ((mKd g r).1 == 6) = true) ∧ Wp E 79 0 [some (.inr (.inr (.inl r))), some (.inl a0), some (.inl a1)] [] g μ (fun r g' μ' => (g'.1 = g.1 ∧ g'.2.1 = g.2.1) ∧ Wp E 94 12 ls (mPush r st) g' μ' Q)) := Wp_cV k94_9 m6_87 (by decide) (as := [.inr (.inr (.inl r)), .inl a0, .inl a1]) rfl rfl rfl ⟨Nat.le_of_ble_eq_true rfl, by decide⟩
theorem k94_12 : mCode 94 12 = some (.iconst 2, 1) := by decide +kernel
theorem x94_12 {E : ME} {ls : MLs} {st : List MV} {g : MG} {μ : MU} {Q : Option MV → MG → MU → Prop} : Wp E 94 12 ls st g μ Q = Wp E 94 13 ls (.inl 2 :: st) g μ Q := Wp_nx k94_12 rfl
theorem k94_13 : mCode 94 13 = some (.invokevirtual 77, 3) := by decide +kernel
theorem x94_13 {E : ME} {ls : MLs} {st : List MV} {g : MG} {μ : MU} {Q : Option MV → MG → MU → Prop} {r : Nat} {a0 : Int} {a1 : Int} : Wp E 94 13 ls (.inl a1 :: .inl a0 :: .inr (.inr (.inl r)) :: st) g μ Q = ((st.length ≤ 4 ∧ ((mKd g r).1 == 6) = true) ∧ Wp E 78 0 [some (.inr (.inr (.inl r))), some (.inl a0), some (.inl a1)] [] g μ (fun r g' μ' => (g'.1 = g.1 ∧ g'.2.1 = g.2.1) ∧ Wp E 94 16 ls (mPush r st) g' μ' Q)) := Wp_cV k94_13 m6_77 (by decide) (as := [.inr (.inr (.inl r)), .inl a0, .inl a1]) rfl rfl rfl ⟨Nat.le_of_ble_eq_true rfl, by decide⟩
theorem k94_16 : mCode 94 16 = some (.imul, 1) := by decide +kernel
theorem x94_16 {E : ME} {ls : MLs} {st : List MV} {g : MG} {μ : MU} {Q : Option MV → MG → MU → Prop} {a b : Int} : Wp E 94 16 ls (.inl b :: .inl a :: st) g μ Q = Wp E 94 17 ls (.inl (mWr (a * b)) :: st) g μ Q := Wp_nx k94_16 rfl
theorem k94_17 : mCode 94 17 = some (.bipush 100, 2) := by decide +kernel
theorem x94_17 {E : ME} {ls : MLs} {st : List MV} {g : MG} {μ : MU} {Q : Option MV → MG → MU → Prop} : Wp E 94 17 ls st g μ Q = Wp E 94 19 ls (.inl 100 :: st) g μ Q := Wp_nx k94_17 rfl
theorem k94_19 : mCode 94 19 = some (.idiv, 1) := by decide +kernel
theorem x94_19 {E : ME} {ls : MLs} {st : List MV} {g : MG} {μ : MU} {Q : Option MV → MG → MU → Prop} {a b : Int} : Wp E 94 19 ls (.inl b :: .inl a :: st) g μ Q = (¬ b = 0 ∧ Wp E 94 20 ls (.inl (mWr (a.tdiv b)) :: st) g μ Q) := Wp_div (f := mIdiv) k94_19 (fun _ => rfl)
theorem k94_20 : mCode 94 20 = some (.ireturn, 1) := by decide +kernel
theorem x94_20 {E : ME} {ls : MLs} {g : MG} {μ : MU} {Q : Option MV → MG → MU → Prop} {v : Int} : Wp E 94 20 ls [.inl v] g μ Q = Q (some (.inl v)) g μ := Wp_retI k94_20 (by decide)
theorem k95_0 : mCode 95 0 = some (.iload_n 0, 1) := by decide +kernel
theorem x95_0 {E : ME} {ls : MLs} {st : List MV} {g : MG} {μ : MU} {Q : Option MV → MG → MU → Prop} {v : Int} : Wp E 95 0 (some (.inl v) :: ls) st g μ Q = Wp E 95 1 (some (.inl v) :: ls) (.inl v :: st) g μ Q := Wp_nx k95_0 rfl
theorem k95_1 : mCode 95 1 = some (.tableswitch 67 0 4 #[35, 43, 43, 51, 59], 35) := by decide +kernel
theorem x95_1_0 {E : ME} {ls : MLs} {st : List MV} {g : MG} {μ : MU} {Q : Option MV → MG → MU → Prop} : Wp E 95 1 ls (.inl 0 :: st) g μ Q = Wp E 95 36 ls st g μ Q := Wp_nx k95_1 rfl
theorem x95_1_1 {E : ME} {ls : MLs} {st : List MV} {g : MG} {μ : MU} {Q : Option MV → MG → MU → Prop} : Wp E 95 1 ls (.inl 1 :: st) g μ Q = Wp E 95 44 ls st g μ Q := Wp_nx k95_1 rfl
theorem x95_1_2 {E : ME} {ls : MLs} {st : List MV} {g : MG} {μ : MU} {Q : Option MV → MG → MU → Prop} : Wp E 95 1 ls (.inl 2 :: st) g μ Q = Wp E 95 44 ls st g μ Q := Wp_nx k95_1 rfl
theorem x95_1_3 {E : ME} {ls : MLs} {st : List MV} {g : MG} {μ : MU} {Q : Option MV → MG → MU → Prop} : Wp E 95 1 ls (.inl 3 :: st) g μ Q = Wp E 95 52 ls st g μ Q := Wp_nx k95_1 rfl
theorem x95_1_4 {E : ME} {ls : MLs} {st : List MV} {g : MG} {μ : MU} {Q : Option MV → MG → MU → Prop} : Wp E 95 1 ls (.inl 4 :: st) g μ Q = Wp E 95 60 ls st g μ Q := Wp_nx k95_1 rfl
theorem x95_1_d {E : ME} {ls : MLs} {st : List MV} {g : MG} {μ : MU} {Q : Option MV → MG → MU → Prop} {a : Int} (h : a < 0 ∨ 4 < a) : Wp E 95 1 ls (.inl a :: st) g μ Q = Wp E 95 68 ls st g μ Q := Wp_tswD k95_1 h (by decide)
theorem k95_36 : mCode 95 36 = some (.iload_n 1, 1) := by decide +kernel
theorem x95_36 {E : ME} {ls : MLs} {st : List MV} {g : MG} {μ : MU} {Q : Option MV → MG → MU → Prop} {l0 : Option MV} {v : Int} : Wp E 95 36 (l0 :: some (.inl v) :: ls) st g μ Q = Wp E 95 37 (l0 :: some (.inl v) :: ls) (.inl v :: st) g μ Q := Wp_nx k95_36 rfl
theorem k95_37 : mCode 95 37 = some (.iconst 1, 1) := by decide +kernel
theorem x95_37 {E : ME} {ls : MLs} {st : List MV} {g : MG} {μ : MU} {Q : Option MV → MG → MU → Prop} : Wp E 95 37 ls st g μ Q = Wp E 95 38 ls (.inl 1 :: st) g μ Q := Wp_nx k95_37 rfl
theorem k95_38 : mCode 95 38 = some (.bipush 60, 2) := by decide +kernel
theorem x95_38 {E : ME} {ls : MLs} {st : List MV} {g : MG} {μ : MU} {Q : Option MV → MG → MU → Prop} : Wp E 95 38 ls st g μ Q = Wp E 95 40 ls (.inl 60 :: st) g μ Q := Wp_nx k95_38 rfl
theorem k95_40 : mCode 95 40 = some (.invokestatic 69, 3) := by decide +kernel
theorem x95_40 {E : ME} {ls : MLs} {st : List MV} {g : MG} {μ : MU} {Q : Option MV → MG → MU → Prop} {a0 : Int} {a1 : Int} {a2 : Int} : Wp E 95 40 ls (.inl a2 :: .inl a1 :: .inl a0 :: st) g μ Q = (st.length ≤ 4 ∧ Wp E 77 0 [some (.inl a0), some (.inl a1), some (.inl a2)] [] g μ (fun r g' μ' => (g'.1 = g.1 ∧ g'.2.1 = g.2.1) ∧ Wp E 95 43 ls (mPush r st) g' μ' Q)) := Wp_cS k95_40 m6_69 (by decide) (as := [.inl a0, .inl a1, .inl a2]) rfl rfl rfl ⟨Nat.le_of_ble_eq_true rfl, by decide⟩
theorem k95_43 : mCode 95 43 = some (.ireturn, 1) := by decide +kernel
theorem x95_43 {E : ME} {ls : MLs} {g : MG} {μ : MU} {Q : Option MV → MG → MU → Prop} {v : Int} : Wp E 95 43 ls [.inl v] g μ Q = ((v = 0 ∨ v = 1) ∧ Q (some (.inl v)) g μ) := Wp_retZ k95_43 (by decide)
theorem k95_44 : mCode 95 44 = some (.iload_n 1, 1) := by decide +kernel
theorem x95_44 {E : ME} {ls : MLs} {st : List MV} {g : MG} {μ : MU} {Q : Option MV → MG → MU → Prop} {l0 : Option MV} {v : Int} : Wp E 95 44 (l0 :: some (.inl v) :: ls) st g μ Q = Wp E 95 45 (l0 :: some (.inl v) :: ls) (.inl v :: st) g μ Q := Wp_nx k95_44 rfl
theorem k95_45 : mCode 95 45 = some (.iconst 0, 1) := by decide +kernel
theorem x95_45 {E : ME} {ls : MLs} {st : List MV} {g : MG} {μ : MU} {Q : Option MV → MG → MU → Prop} : Wp E 95 45 ls st g μ Q = Wp E 95 46 ls (.inl 0 :: st) g μ Q := Wp_nx k95_45 rfl
theorem k95_46 : mCode 95 46 = some (.bipush 60, 2) := by decide +kernel
theorem x95_46 {E : ME} {ls : MLs} {st : List MV} {g : MG} {μ : MU} {Q : Option MV → MG → MU → Prop} : Wp E 95 46 ls st g μ Q = Wp E 95 48 ls (.inl 60 :: st) g μ Q := Wp_nx k95_46 rfl
theorem k95_48 : mCode 95 48 = some (.invokestatic 69, 3) := by decide +kernel
theorem x95_48 {E : ME} {ls : MLs} {st : List MV} {g : MG} {μ : MU} {Q : Option MV → MG → MU → Prop} {a0 : Int} {a1 : Int} {a2 : Int} : Wp E 95 48 ls (.inl a2 :: .inl a1 :: .inl a0 :: st) g μ Q = (st.length ≤ 4 ∧ Wp E 77 0 [some (.inl a0), some (.inl a1), some (.inl a2)] [] g μ (fun r g' μ' => (g'.1 = g.1 ∧ g'.2.1 = g.2.1) ∧ Wp E 95 51 ls (mPush r st) g' μ' Q)) := Wp_cS k95_48 m6_69 (by decide) (as := [.inl a0, .inl a1, .inl a2]) rfl rfl rfl ⟨Nat.le_of_ble_eq_true rfl, by decide⟩
theorem k95_51 : mCode 95 51 = some (.ireturn, 1) := by decide +kernel
theorem x95_51 {E : ME} {ls : MLs} {g : MG} {μ : MU} {Q : Option MV → MG → MU → Prop} {v : Int} : Wp E 95 51 ls [.inl v] g μ Q = ((v = 0 ∨ v = 1) ∧ Q (some (.inl v)) g μ) := Wp_retZ k95_51 (by decide)
theorem k95_52 : mCode 95 52 = some (.iload_n 1, 1) := by decide +kernel
theorem x95_52 {E : ME} {ls : MLs} {st : List MV} {g : MG} {μ : MU} {Q : Option MV → MG → MU → Prop} {l0 : Option MV} {v : Int} : Wp E 95 52 (l0 :: some (.inl v) :: ls) st g μ Q = Wp E 95 53 (l0 :: some (.inl v) :: ls) (.inl v :: st) g μ Q := Wp_nx k95_52 rfl
theorem k95_53 : mCode 95 53 = some (.iconst 0, 1) := by decide +kernel
theorem x95_53 {E : ME} {ls : MLs} {st : List MV} {g : MG} {μ : MU} {Q : Option MV → MG → MU → Prop} : Wp E 95 53 ls st g μ Q = Wp E 95 54 ls (.inl 0 :: st) g μ Q := Wp_nx k95_53 rfl
theorem k95_54 : mCode 95 54 = some (.bipush 9, 2) := by decide +kernel
theorem x95_54 {E : ME} {ls : MLs} {st : List MV} {g : MG} {μ : MU} {Q : Option MV → MG → MU → Prop} : Wp E 95 54 ls st g μ Q = Wp E 95 56 ls (.inl 9 :: st) g μ Q := Wp_nx k95_54 rfl
theorem k95_56 : mCode 95 56 = some (.invokestatic 69, 3) := by decide +kernel
theorem x95_56 {E : ME} {ls : MLs} {st : List MV} {g : MG} {μ : MU} {Q : Option MV → MG → MU → Prop} {a0 : Int} {a1 : Int} {a2 : Int} : Wp E 95 56 ls (.inl a2 :: .inl a1 :: .inl a0 :: st) g μ Q = (st.length ≤ 4 ∧ Wp E 77 0 [some (.inl a0), some (.inl a1), some (.inl a2)] [] g μ (fun r g' μ' => (g'.1 = g.1 ∧ g'.2.1 = g.2.1) ∧ Wp E 95 59 ls (mPush r st) g' μ' Q)) := Wp_cS k95_56 m6_69 (by decide) (as := [.inl a0, .inl a1, .inl a2]) rfl rfl rfl ⟨Nat.le_of_ble_eq_true rfl, by decide⟩
theorem k95_59 : mCode 95 59 = some (.ireturn, 1) := by decide +kernel
theorem x95_59 {E : ME} {ls : MLs} {g : MG} {μ : MU} {Q : Option MV → MG → MU → Prop} {v : Int} : Wp E 95 59 ls [.inl v] g μ Q = ((v = 0 ∨ v = 1) ∧ Q (some (.inl v)) g μ) := Wp_retZ k95_59 (by decide)
theorem k95_60 : mCode 95 60 = some (.iload_n 1, 1) := by decide +kernel
theorem x95_60 {E : ME} {ls : MLs} {st : List MV} {g : MG} {μ : MU} {Q : Option MV → MG → MU → Prop} {l0 : Option MV} {v : Int} : Wp E 95 60 (l0 :: some (.inl v) :: ls) st g μ Q = Wp E 95 61 (l0 :: some (.inl v) :: ls) (.inl v :: st) g μ Q := Wp_nx k95_60 rfl
theorem k95_61 : mCode 95 61 = some (.iconst 0, 1) := by decide +kernel
theorem x95_61 {E : ME} {ls : MLs} {st : List MV} {g : MG} {μ : MU} {Q : Option MV → MG → MU → Prop} : Wp E 95 61 ls st g μ Q = Wp E 95 62 ls (.inl 0 :: st) g μ Q := Wp_nx k95_61 rfl
theorem k95_62 : mCode 95 62 = some (.bipush 99, 2) := by decide +kernel
theorem x95_62 {E : ME} {ls : MLs} {st : List MV} {g : MG} {μ : MU} {Q : Option MV → MG → MU → Prop} : Wp E 95 62 ls st g μ Q = Wp E 95 64 ls (.inl 99 :: st) g μ Q := Wp_nx k95_62 rfl
theorem k95_64 : mCode 95 64 = some (.invokestatic 69, 3) := by decide +kernel
theorem x95_64 {E : ME} {ls : MLs} {st : List MV} {g : MG} {μ : MU} {Q : Option MV → MG → MU → Prop} {a0 : Int} {a1 : Int} {a2 : Int} : Wp E 95 64 ls (.inl a2 :: .inl a1 :: .inl a0 :: st) g μ Q = (st.length ≤ 4 ∧ Wp E 77 0 [some (.inl a0), some (.inl a1), some (.inl a2)] [] g μ (fun r g' μ' => (g'.1 = g.1 ∧ g'.2.1 = g.2.1) ∧ Wp E 95 67 ls (mPush r st) g' μ' Q)) := Wp_cS k95_64 m6_69 (by decide) (as := [.inl a0, .inl a1, .inl a2]) rfl rfl rfl ⟨Nat.le_of_ble_eq_true rfl, by decide⟩
theorem k95_67 : mCode 95 67 = some (.ireturn, 1) := by decide +kernel
theorem x95_67 {E : ME} {ls : MLs} {g : MG} {μ : MU} {Q : Option MV → MG → MU → Prop} {v : Int} : Wp E 95 67 ls [.inl v] g μ Q = ((v = 0 ∨ v = 1) ∧ Q (some (.inl v)) g μ) := Wp_retZ k95_67 (by decide)
theorem k95_68 : mCode 95 68 = some (.iconst 0, 1) := by decide +kernel
theorem x95_68 {E : ME} {ls : MLs} {st : List MV} {g : MG} {μ : MU} {Q : Option MV → MG → MU → Prop} : Wp E 95 68 ls st g μ Q = Wp E 95 69 ls (.inl 0 :: st) g μ Q := Wp_nx k95_68 rfl
theorem k95_69 : mCode 95 69 = some (.ireturn, 1) := by decide +kernel
theorem x95_69 {E : ME} {ls : MLs} {g : MG} {μ : MU} {Q : Option MV → MG → MU → Prop} {v : Int} : Wp E 95 69 ls [.inl v] g μ Q = ((v = 0 ∨ v = 1) ∧ Q (some (.inl v)) g μ) := Wp_retZ k95_69 (by decide)
theorem k96_0 : mCode 96 0 = some (.aload_n 0, 1) := by decide +kernel
theorem x96_0 {E : ME} {ls : MLs} {st : List MV} {g : MG} {μ : MU} {Q : Option MV → MG → MU → Prop} {v : Nat ⊕ Nat} : Wp E 96 0 (some (.inr (.inr v)) :: ls) st g μ Q = Wp E 96 1 (some (.inr (.inr v)) :: ls) (.inr (.inr v) :: st) g μ Q := Wp_nx k96_0 rfl
theorem k96_1 : mCode 96 1 = some (.iconst 0, 1) := by decide +kernel
theorem x96_1 {E : ME} {ls : MLs} {st : List MV} {g : MG} {μ : MU} {Q : Option MV → MG → MU → Prop} : Wp E 96 1 ls st g μ Q = Wp E 96 2 ls (.inl 0 :: st) g μ Q := Wp_nx k96_1 rfl
theorem k96_2 : mCode 96 2 = some (.putfield 65, 3) := by decide +kernel
theorem x96_2 {E : ME} {ls : MLs} {st : List MV} {g : MG} {μ : MU} {Q : Option MV → MG → MU → Prop} {a : Nat} {v : Int} : Wp E 96 2 ls (.inl v :: .inr (.inr (.inl a)) :: st) g μ Q = ((mKd g a).1 = 6 ∧ Wp E 96 5 ls st g (mUp μ a 0 v) Q) := Wp_putI0 k96_2 f6_65 (by decide) (by decide)
theorem k96_5 : mCode 96 5 = some (.iload_n 1, 1) := by decide +kernel
theorem x96_5 {E : ME} {ls : MLs} {st : List MV} {g : MG} {μ : MU} {Q : Option MV → MG → MU → Prop} {l0 : Option MV} {v : Int} : Wp E 96 5 (l0 :: some (.inl v) :: ls) st g μ Q = Wp E 96 6 (l0 :: some (.inl v) :: ls) (.inl v :: st) g μ Q := Wp_nx k96_5 rfl
theorem k96_6 : mCode 96 6 = some (.iload_n 2, 1) := by decide +kernel
theorem x96_6 {E : ME} {ls : MLs} {st : List MV} {g : MG} {μ : MU} {Q : Option MV → MG → MU → Prop} {l0 l1 : Option MV} {v : Int} : Wp E 96 6 (l0 :: l1 :: some (.inl v) :: ls) st g μ Q = Wp E 96 7 (l0 :: l1 :: some (.inl v) :: ls) (.inl v :: st) g μ Q := Wp_nx k96_6 rfl
theorem k96_7 : mCode 96 7 = some (.invokestatic 117, 3) := by decide +kernel
theorem x96_7 {E : ME} {ls : MLs} {st : List MV} {g : MG} {μ : MU} {Q : Option MV → MG → MU → Prop} {a0 : Int} {a1 : Int} : Wp E 96 7 ls (.inl a1 :: .inl a0 :: st) g μ Q = (st.length ≤ 4 ∧ Wp E 95 0 [some (.inl a0), some (.inl a1)] [] g μ (fun r g' μ' => (g'.1 = g.1 ∧ g'.2.1 = g.2.1) ∧ Wp E 96 10 ls (mPush r st) g' μ' Q)) := Wp_cS k96_7 m6_117 (by decide) (as := [.inl a0, .inl a1]) rfl rfl rfl ⟨Nat.le_of_ble_eq_true rfl, by decide⟩
theorem k96_10 : mCode 96 10 = some (.ifCond .ne 6, 3) := by decide +kernel
theorem x96_10 {E : ME} {ls : MLs} {st : List MV} {g : MG} {μ : MU} {Q : Option MV → MG → MU → Prop} {a : Int} : Wp E 96 10 ls (.inl a :: st) g μ Q = ((¬ a = 0 → Wp E 96 16 ls st g μ Q) ∧ (a = 0 → Wp E 96 13 ls st g μ Q)) := Wp_if_ne k96_10 (by decide)
theorem k96_13 : mCode 96 13 = some (.bipush (-2), 2) := by decide +kernel
theorem x96_13 {E : ME} {ls : MLs} {st : List MV} {g : MG} {μ : MU} {Q : Option MV → MG → MU → Prop} : Wp E 96 13 ls st g μ Q = Wp E 96 15 ls (.inl (-2) :: st) g μ Q := Wp_nx k96_13 rfl
theorem k96_15 : mCode 96 15 = some (.ireturn, 1) := by decide +kernel
theorem x96_15 {E : ME} {ls : MLs} {g : MG} {μ : MU} {Q : Option MV → MG → MU → Prop} {v : Int} : Wp E 96 15 ls [.inl v] g μ Q = Q (some (.inl v)) g μ := Wp_retI k96_15 (by decide)
theorem k96_16 : mCode 96 16 = some (.aload_n 0, 1) := by decide +kernel
theorem x96_16 {E : ME} {ls : MLs} {st : List MV} {g : MG} {μ : MU} {Q : Option MV → MG → MU → Prop} {v : Nat ⊕ Nat} : Wp E 96 16 (some (.inr (.inr v)) :: ls) st g μ Q = Wp E 96 17 (some (.inr (.inr v)) :: ls) (.inr (.inr v) :: st) g μ Q := Wp_nx k96_16 rfl
theorem k96_17 : mCode 96 17 = some (.invokevirtual 121, 3) := by decide +kernel
theorem x96_17 {E : ME} {ls : MLs} {st : List MV} {g : MG} {μ : MU} {Q : Option MV → MG → MU → Prop} {r : Nat} : Wp E 96 17 ls (.inr (.inr (.inl r)) :: st) g μ Q = ((st.length ≤ 4 ∧ ((mKd g r).1 == 6) = true) ∧ Wp E 84 0 [some (.inr (.inr (.inl r))), none] [] g μ (fun r g' μ' => (g'.1 = g.1 ∧ g'.2.1 = g.2.1) ∧ Wp E 96 20 ls (mPush r st) g' μ' Q)) := Wp_cV k96_17 m6_121 (by decide) (as := [.inr (.inr (.inl r))]) rfl rfl rfl ⟨Nat.le_of_ble_eq_true rfl, by decide⟩
theorem k96_20 : mCode 96 20 = some (.aload_n 0, 1) := by decide +kernel
theorem x96_20 {E : ME} {ls : MLs} {st : List MV} {g : MG} {μ : MU} {Q : Option MV → MG → MU → Prop} {v : Nat ⊕ Nat} : Wp E 96 20 (some (.inr (.inr v)) :: ls) st g μ Q = Wp E 96 21 (some (.inr (.inr v)) :: ls) (.inr (.inr v) :: st) g μ Q := Wp_nx k96_20 rfl
theorem k96_21 : mCode 96 21 = some (.getfield 7, 3) := by decide +kernel
theorem x96_21 {E : ME} {ls : MLs} {st : List MV} {g : MG} {μ : MU} {Q : Option MV → MG → MU → Prop} {a : Nat} : Wp E 96 21 ls (.inr (.inr (.inl a)) :: st) g μ Q = ((mKd g a).1 = 6 ∧ Wp E 96 24 ls (mRv (mRf g a 1) :: st) g μ Q) := Wp_getR k96_21 f6_7 (by decide) (by decide)
theorem k96_24 : mCode 96 24 = some (.iload_n 1, 1) := by decide +kernel
theorem x96_24 {E : ME} {ls : MLs} {st : List MV} {g : MG} {μ : MU} {Q : Option MV → MG → MU → Prop} {l0 : Option MV} {v : Int} : Wp E 96 24 (l0 :: some (.inl v) :: ls) st g μ Q = Wp E 96 25 (l0 :: some (.inl v) :: ls) (.inl v :: st) g μ Q := Wp_nx k96_24 rfl
theorem k96_25 : mCode 96 25 = some (.iaload, 1) := by decide +kernel
theorem x96_25 {E : ME} {ls : MLs} {st : List MV} {g : MG} {μ : MU} {Q : Option MV → MG → MU → Prop} {a : Nat} {j : Int} : Wp E 96 25 ls (.inl j :: .inr (.inr (.inl a)) :: st) g μ Q = (((mKd g a).1 = 10 ∧ 0 ≤ j ∧ j < (mKd g a).2) ∧ Wp E 96 26 ls (.inl (μ a j.toNat) :: st) g μ Q) := Wp_ald k96_25 (fun _ => rfl)
theorem k96_26 : mCode 96 26 = some (.istore_n 3, 1) := by decide +kernel
theorem x96_26 {E : ME} {ls : MLs} {st : List MV} {g : MG} {μ : MU} {Q : Option MV → MG → MU → Prop} {l0 l1 l2 : Option MV} {lk : Option MV} {v : Int} : Wp E 96 26 (l0 :: l1 :: l2 :: lk :: ls) (.inl v :: st) g μ Q = ((mNl (some l2) = true ∧ mNl (some lk) = true) ∧ Wp E 96 27 (l0 :: l1 :: l2 :: some (.inl v) :: ls) st g μ Q) := Wp_sti k96_26 (fun _ => rfl) rfl rfl rfl
theorem k96_27 : mCode 96 27 = some (.aload_n 0, 1) := by decide +kernel
theorem x96_27 {E : ME} {ls : MLs} {st : List MV} {g : MG} {μ : MU} {Q : Option MV → MG → MU → Prop} {v : Nat ⊕ Nat} : Wp E 96 27 (some (.inr (.inr v)) :: ls) st g μ Q = Wp E 96 28 (some (.inr (.inr v)) :: ls) (.inr (.inr v) :: st) g μ Q := Wp_nx k96_27 rfl
theorem k96_28 : mCode 96 28 = some (.getfield 7, 3) := by decide +kernel
theorem x96_28 {E : ME} {ls : MLs} {st : List MV} {g : MG} {μ : MU} {Q : Option MV → MG → MU → Prop} {a : Nat} : Wp E 96 28 ls (.inr (.inr (.inl a)) :: st) g μ Q = ((mKd g a).1 = 6 ∧ Wp E 96 31 ls (mRv (mRf g a 1) :: st) g μ Q) := Wp_getR k96_28 f6_7 (by decide) (by decide)
theorem k96_31 : mCode 96 31 = some (.iload_n 1, 1) := by decide +kernel
theorem x96_31 {E : ME} {ls : MLs} {st : List MV} {g : MG} {μ : MU} {Q : Option MV → MG → MU → Prop} {l0 : Option MV} {v : Int} : Wp E 96 31 (l0 :: some (.inl v) :: ls) st g μ Q = Wp E 96 32 (l0 :: some (.inl v) :: ls) (.inl v :: st) g μ Q := Wp_nx k96_31 rfl
theorem k96_32 : mCode 96 32 = some (.iload_n 2, 1) := by decide +kernel
theorem x96_32 {E : ME} {ls : MLs} {st : List MV} {g : MG} {μ : MU} {Q : Option MV → MG → MU → Prop} {l0 l1 : Option MV} {v : Int} : Wp E 96 32 (l0 :: l1 :: some (.inl v) :: ls) st g μ Q = Wp E 96 33 (l0 :: l1 :: some (.inl v) :: ls) (.inl v :: st) g μ Q := Wp_nx k96_32 rfl
theorem k96_33 : mCode 96 33 = some (.iastore, 1) := by decide +kernel
theorem x96_33 {E : ME} {ls : MLs} {st : List MV} {g : MG} {μ : MU} {Q : Option MV → MG → MU → Prop} {a : Nat} {j v : Int} : Wp E 96 33 ls (.inl v :: .inl j :: .inr (.inr (.inl a)) :: st) g μ Q = (((mKd g a).1 = 10 ∧ 0 ≤ j ∧ j < (mKd g a).2) ∧ Wp E 96 34 ls st g (mUp μ a j.toNat v) Q) := Wp_iast k96_33
theorem k96_34 : mCode 96 34 = some (.iload_n 3, 1) := by decide +kernel
theorem x96_34 {E : ME} {ls : MLs} {st : List MV} {g : MG} {μ : MU} {Q : Option MV → MG → MU → Prop} {l0 l1 l2 : Option MV} {v : Int} : Wp E 96 34 (l0 :: l1 :: l2 :: some (.inl v) :: ls) st g μ Q = Wp E 96 35 (l0 :: l1 :: l2 :: some (.inl v) :: ls) (.inl v :: st) g μ Q := Wp_nx k96_34 rfl
theorem k96_35 : mCode 96 35 = some (.ireturn, 1) := by decide +kernel
theorem x96_35 {E : ME} {ls : MLs} {g : MG} {μ : MU} {Q : Option MV → MG → MU → Prop} {v : Int} : Wp E 96 35 ls [.inl v] g μ Q = Q (some (.inl v)) g μ := Wp_retI k96_35 (by decide)
theorem k97_0 : mCode 97 0 = some (.iload_n 1, 1) := by decide +kernel
theorem x97_0 {E : ME} {ls : MLs} {st : List MV} {g : MG} {μ : MU} {Q : Option MV → MG → MU → Prop} {l0 : Option MV} {v : Int} : Wp E 97 0 (l0 :: some (.inl v) :: ls) st g μ Q = Wp E 97 1 (l0 :: some (.inl v) :: ls) (.inl v :: st) g μ Q := Wp_nx k97_0 rfl
theorem k97_1 : mCode 97 1 = some (.iconst 1, 1) := by decide +kernel
theorem x97_1 {E : ME} {ls : MLs} {st : List MV} {g : MG} {μ : MU} {Q : Option MV → MG → MU → Prop} : Wp E 97 1 ls st g μ Q = Wp E 97 2 ls (.inl 1 :: st) g μ Q := Wp_nx k97_1 rfl
theorem k97_2 : mCode 97 2 = some (.bipush 6, 2) := by decide +kernel
theorem x97_2 {E : ME} {ls : MLs} {st : List MV} {g : MG} {μ : MU} {Q : Option MV → MG → MU → Prop} : Wp E 97 2 ls st g μ Q = Wp E 97 4 ls (.inl 6 :: st) g μ Q := Wp_nx k97_2 rfl
theorem k97_4 : mCode 97 4 = some (.invokestatic 69, 3) := by decide +kernel
theorem x97_4 {E : ME} {ls : MLs} {st : List MV} {g : MG} {μ : MU} {Q : Option MV → MG → MU → Prop} {a0 : Int} {a1 : Int} {a2 : Int} : Wp E 97 4 ls (.inl a2 :: .inl a1 :: .inl a0 :: st) g μ Q = (st.length ≤ 4 ∧ Wp E 77 0 [some (.inl a0), some (.inl a1), some (.inl a2)] [] g μ (fun r g' μ' => (g'.1 = g.1 ∧ g'.2.1 = g.2.1) ∧ Wp E 97 7 ls (mPush r st) g' μ' Q)) := Wp_cS k97_4 m6_69 (by decide) (as := [.inl a0, .inl a1, .inl a2]) rfl rfl rfl ⟨Nat.le_of_ble_eq_true rfl, by decide⟩
theorem k97_7 : mCode 97 7 = some (.ifCond .eq 13, 3) := by decide +kernel
theorem x97_7 {E : ME} {ls : MLs} {st : List MV} {g : MG} {μ : MU} {Q : Option MV → MG → MU → Prop} {a : Int} : Wp E 97 7 ls (.inl a :: st) g μ Q = ((a = 0 → Wp E 97 20 ls st g μ Q) ∧ (¬ a = 0 → Wp E 97 10 ls st g μ Q)) := Wp_if_eq k97_7 (by decide)
theorem k97_10 : mCode 97 10 = some (.iload_n 3, 1) := by decide +kernel
theorem x97_10 {E : ME} {ls : MLs} {st : List MV} {g : MG} {μ : MU} {Q : Option MV → MG → MU → Prop} {l0 l1 l2 : Option MV} {v : Int} : Wp E 97 10 (l0 :: l1 :: l2 :: some (.inl v) :: ls) st g μ Q = Wp E 97 11 (l0 :: l1 :: l2 :: some (.inl v) :: ls) (.inl v :: st) g μ Q := Wp_nx k97_10 rfl
theorem k97_11 : mCode 97 11 = some (.iconst 0, 1) := by decide +kernel
theorem x97_11 {E : ME} {ls : MLs} {st : List MV} {g : MG} {μ : MU} {Q : Option MV → MG → MU → Prop} : Wp E 97 11 ls st g μ Q = Wp E 97 12 ls (.inl 0 :: st) g μ Q := Wp_nx k97_11 rfl
theorem k97_12 : mCode 97 12 = some (.bipush 100, 2) := by decide +kernel
theorem x97_12 {E : ME} {ls : MLs} {st : List MV} {g : MG} {μ : MU} {Q : Option MV → MG → MU → Prop} : Wp E 97 12 ls st g μ Q = Wp E 97 14 ls (.inl 100 :: st) g μ Q := Wp_nx k97_12 rfl
theorem k97_14 : mCode 97 14 = some (.invokestatic 69, 3) := by decide +kernel
theorem x97_14 {E : ME} {ls : MLs} {st : List MV} {g : MG} {μ : MU} {Q : Option MV → MG → MU → Prop} {a0 : Int} {a1 : Int} {a2 : Int} : Wp E 97 14 ls (.inl a2 :: .inl a1 :: .inl a0 :: st) g μ Q = (st.length ≤ 4 ∧ Wp E 77 0 [some (.inl a0), some (.inl a1), some (.inl a2)] [] g μ (fun r g' μ' => (g'.1 = g.1 ∧ g'.2.1 = g.2.1) ∧ Wp E 97 17 ls (mPush r st) g' μ' Q)) := Wp_cS k97_14 m6_69 (by decide) (as := [.inl a0, .inl a1, .inl a2]) rfl rfl rfl ⟨Nat.le_of_ble_eq_true rfl, by decide⟩
theorem k97_17 : mCode 97 17 = some (.ifCond .ne 6, 3) := by decide +kernel
theorem x97_17 {E : ME} {ls : MLs} {st : List MV} {g : MG} {μ : MU} {Q : Option MV → MG → MU → Prop} {a : Int} : Wp E 97 17 ls (.inl a :: st) g μ Q = ((¬ a = 0 → Wp E 97 23 ls st g μ Q) ∧ (a = 0 → Wp E 97 20 ls st g μ Q)) := Wp_if_ne k97_17 (by decide)
theorem k97_20 : mCode 97 20 = some (.bipush (-2), 2) := by decide +kernel
theorem x97_20 {E : ME} {ls : MLs} {st : List MV} {g : MG} {μ : MU} {Q : Option MV → MG → MU → Prop} : Wp E 97 20 ls st g μ Q = Wp E 97 22 ls (.inl (-2) :: st) g μ Q := Wp_nx k97_20 rfl
theorem k97_22 : mCode 97 22 = some (.ireturn, 1) := by decide +kernel
theorem x97_22 {E : ME} {ls : MLs} {g : MG} {μ : MU} {Q : Option MV → MG → MU → Prop} {v : Int} : Wp E 97 22 ls [.inl v] g μ Q = Q (some (.inl v)) g μ := Wp_retI k97_22 (by decide)
theorem k97_23 : mCode 97 23 = some (.iload_n 2, 1) := by decide +kernel
theorem x97_23 {E : ME} {ls : MLs} {st : List MV} {g : MG} {μ : MU} {Q : Option MV → MG → MU → Prop} {l0 l1 : Option MV} {v : Int} : Wp E 97 23 (l0 :: l1 :: some (.inl v) :: ls) st g μ Q = Wp E 97 24 (l0 :: l1 :: some (.inl v) :: ls) (.inl v :: st) g μ Q := Wp_nx k97_23 rfl
theorem k97_24 : mCode 97 24 = some (.invokestatic 124, 3) := by decide +kernel
theorem x97_24 {E : ME} {ls : MLs} {st : List MV} {g : MG} {μ : MU} {Q : Option MV → MG → MU → Prop} {a0 : Int} : Wp E 97 24 ls (.inl a0 :: st) g μ Q = (st.length ≤ 4 ∧ Wp E 82 0 [some (.inl a0)] [] g μ (fun r g' μ' => (g'.1 = g.1 ∧ g'.2.1 = g.2.1) ∧ Wp E 97 27 ls (mPush r st) g' μ' Q)) := Wp_cS k97_24 m6_124 (by decide) (as := [.inl a0]) rfl rfl rfl ⟨Nat.le_of_ble_eq_true rfl, by decide⟩
theorem k97_27 : mCode 97 27 = some (.ifCond .ne 7, 3) := by decide +kernel
theorem x97_27 {E : ME} {ls : MLs} {st : List MV} {g : MG} {μ : MU} {Q : Option MV → MG → MU → Prop} {a : Int} : Wp E 97 27 ls (.inl a :: st) g μ Q = ((¬ a = 0 → Wp E 97 34 ls st g μ Q) ∧ (a = 0 → Wp E 97 30 ls st g μ Q)) := Wp_if_ne k97_27 (by decide)
theorem k97_30 : mCode 97 30 = some (.iconst (-1), 1) := by decide +kernel
theorem x97_30 {E : ME} {ls : MLs} {st : List MV} {g : MG} {μ : MU} {Q : Option MV → MG → MU → Prop} : Wp E 97 30 ls st g μ Q = Wp E 97 31 ls (.inl (-1) :: st) g μ Q := Wp_nx k97_30 rfl
theorem k97_31 : mCode 97 31 = some (.goto 19, 3) := by decide +kernel
theorem x97_31 {E : ME} {ls : MLs} {st : List MV} {g : MG} {μ : MU} {Q : Option MV → MG → MU → Prop} : Wp E 97 31 ls st g μ Q = Wp E 97 50 ls st g μ Q := Wp_goto k97_31 (by decide)
theorem k97_34 : mCode 97 34 = some (.aload_n 0, 1) := by decide +kernel
theorem x97_34 {E : ME} {ls : MLs} {st : List MV} {g : MG} {μ : MU} {Q : Option MV → MG → MU → Prop} {v : Nat ⊕ Nat} : Wp E 97 34 (some (.inr (.inr v)) :: ls) st g μ Q = Wp E 97 35 (some (.inr (.inr v)) :: ls) (.inr (.inr v) :: st) g μ Q := Wp_nx k97_34 rfl
theorem k97_35 : mCode 97 35 = some (.getfield 7, 3) := by decide +kernel
theorem x97_35 {E : ME} {ls : MLs} {st : List MV} {g : MG} {μ : MU} {Q : Option MV → MG → MU → Prop} {a : Nat} : Wp E 97 35 ls (.inr (.inr (.inl a)) :: st) g μ Q = ((mKd g a).1 = 6 ∧ Wp E 97 38 ls (mRv (mRf g a 1) :: st) g μ Q) := Wp_getR k97_35 f6_7 (by decide) (by decide)
theorem k97_38 : mCode 97 38 = some (.iconst 5, 1) := by decide +kernel
theorem x97_38 {E : ME} {ls : MLs} {st : List MV} {g : MG} {μ : MU} {Q : Option MV → MG → MU → Prop} : Wp E 97 38 ls st g μ Q = Wp E 97 39 ls (.inl 5 :: st) g μ Q := Wp_nx k97_38 rfl
theorem k97_39 : mCode 97 39 = some (.iaload, 1) := by decide +kernel
theorem x97_39 {E : ME} {ls : MLs} {st : List MV} {g : MG} {μ : MU} {Q : Option MV → MG → MU → Prop} {a : Nat} {j : Int} : Wp E 97 39 ls (.inl j :: .inr (.inr (.inl a)) :: st) g μ Q = (((mKd g a).1 = 10 ∧ 0 ≤ j ∧ j < (mKd g a).2) ∧ Wp E 97 40 ls (.inl (μ a j.toNat) :: st) g μ Q) := Wp_ald k97_39 (fun _ => rfl)
theorem k97_40 : mCode 97 40 = some (.iconst 5, 1) := by decide +kernel
theorem x97_40 {E : ME} {ls : MLs} {st : List MV} {g : MG} {μ : MU} {Q : Option MV → MG → MU → Prop} : Wp E 97 40 ls st g μ Q = Wp E 97 41 ls (.inl 5 :: st) g μ Q := Wp_nx k97_40 rfl
theorem k97_41 : mCode 97 41 = some (.if_icmp .ne 8, 3) := by decide +kernel
theorem x97_41 {E : ME} {ls : MLs} {st : List MV} {g : MG} {μ : MU} {Q : Option MV → MG → MU → Prop} {a b : Int} : Wp E 97 41 ls (.inl b :: .inl a :: st) g μ Q = ((¬ a = b → Wp E 97 49 ls st g μ Q) ∧ (a = b → Wp E 97 44 ls st g μ Q)) := Wp_cmp_ne k97_41 (by decide)
theorem k97_44 : mCode 97 44 = some (.bipush (-4), 2) := by decide +kernel
theorem x97_44 {E : ME} {ls : MLs} {st : List MV} {g : MG} {μ : MU} {Q : Option MV → MG → MU → Prop} : Wp E 97 44 ls st g μ Q = Wp E 97 46 ls (.inl (-4) :: st) g μ Q := Wp_nx k97_44 rfl
theorem k97_46 : mCode 97 46 = some (.goto 4, 3) := by decide +kernel
theorem x97_46 {E : ME} {ls : MLs} {st : List MV} {g : MG} {μ : MU} {Q : Option MV → MG → MU → Prop} : Wp E 97 46 ls st g μ Q = Wp E 97 50 ls st g μ Q := Wp_goto k97_46 (by decide)
theorem k97_49 : mCode 97 49 = some (.iconst 0, 1) := by decide +kernel
theorem x97_49 {E : ME} {ls : MLs} {st : List MV} {g : MG} {μ : MU} {Q : Option MV → MG → MU → Prop} : Wp E 97 49 ls st g μ Q = Wp E 97 50 ls (.inl 0 :: st) g μ Q := Wp_nx k97_49 rfl
theorem k97_50 : mCode 97 50 = some (.ireturn, 1) := by decide +kernel
theorem x97_50 {E : ME} {ls : MLs} {g : MG} {μ : MU} {Q : Option MV → MG → MU → Prop} {v : Int} : Wp E 97 50 ls [.inl v] g μ Q = Q (some (.inl v)) g μ := Wp_retI k97_50 (by decide)
theorem k98_0 : mCode 98 0 = some (.bipush 23, 2) := by decide +kernel
theorem x98_0 {E : ME} {ls : MLs} {st : List MV} {g : MG} {μ : MU} {Q : Option MV → MG → MU → Prop} : Wp E 98 0 ls st g μ Q = Wp E 98 2 ls (.inl 23 :: st) g μ Q := Wp_nx k98_0 rfl
theorem k98_2 : mCode 98 2 = some (.bipush 9, 2) := by decide +kernel
theorem x98_2 {E : ME} {ls : MLs} {st : List MV} {g : MG} {μ : MU} {Q : Option MV → MG → MU → Prop} : Wp E 98 2 ls st g μ Q = Wp E 98 4 ls (.inl 9 :: st) g μ Q := Wp_nx k98_2 rfl
theorem k98_4 : mCode 98 4 = some (.aload_n 0, 1) := by decide +kernel
theorem x98_4 {E : ME} {ls : MLs} {st : List MV} {g : MG} {μ : MU} {Q : Option MV → MG → MU → Prop} {v : Nat ⊕ Nat} : Wp E 98 4 (some (.inr (.inr v)) :: ls) st g μ Q = Wp E 98 5 (some (.inr (.inr v)) :: ls) (.inr (.inr v) :: st) g μ Q := Wp_nx k98_4 rfl
theorem k98_5 : mCode 98 5 = some (.getfield 7, 3) := by decide +kernel
theorem x98_5 {E : ME} {ls : MLs} {st : List MV} {g : MG} {μ : MU} {Q : Option MV → MG → MU → Prop} {a : Nat} : Wp E 98 5 ls (.inr (.inr (.inl a)) :: st) g μ Q = ((mKd g a).1 = 6 ∧ Wp E 98 8 ls (mRv (mRf g a 1) :: st) g μ Q) := Wp_getR k98_5 f6_7 (by decide) (by decide)
theorem k98_8 : mCode 98 8 = some (.iconst 5, 1) := by decide +kernel
theorem x98_8 {E : ME} {ls : MLs} {st : List MV} {g : MG} {μ : MU} {Q : Option MV → MG → MU → Prop} : Wp E 98 8 ls st g μ Q = Wp E 98 9 ls (.inl 5 :: st) g μ Q := Wp_nx k98_8 rfl
theorem k98_9 : mCode 98 9 = some (.iaload, 1) := by decide +kernel
theorem x98_9 {E : ME} {ls : MLs} {st : List MV} {g : MG} {μ : MU} {Q : Option MV → MG → MU → Prop} {a : Nat} {j : Int} : Wp E 98 9 ls (.inl j :: .inr (.inr (.inl a)) :: st) g μ Q = (((mKd g a).1 = 10 ∧ 0 ≤ j ∧ j < (mKd g a).2) ∧ Wp E 98 10 ls (.inl (μ a j.toNat) :: st) g μ Q) := Wp_ald k98_9 (fun _ => rfl)
theorem k98_10 : mCode 98 10 = some (.imul, 1) := by decide +kernel
theorem x98_10 {E : ME} {ls : MLs} {st : List MV} {g : MG} {μ : MU} {Q : Option MV → MG → MU → Prop} {a b : Int} : Wp E 98 10 ls (.inl b :: .inl a :: st) g μ Q = Wp E 98 11 ls (.inl (mWr (a * b)) :: st) g μ Q := Wp_nx k98_10 rfl
theorem k98_11 : mCode 98 11 = some (.iadd, 1) := by decide +kernel
theorem x98_11 {E : ME} {ls : MLs} {st : List MV} {g : MG} {μ : MU} {Q : Option MV → MG → MU → Prop} {a b : Int} : Wp E 98 11 ls (.inl b :: .inl a :: st) g μ Q = Wp E 98 12 ls (.inl (mWr (a + b)) :: st) g μ Q := Wp_nx k98_11 rfl
theorem k98_12 : mCode 98 12 = some (.istore 4, 2) := by decide +kernel
theorem x98_12 {E : ME} {ls : MLs} {st : List MV} {g : MG} {μ : MU} {Q : Option MV → MG → MU → Prop} {l0 l1 l2 l3 : Option MV} {lk : Option MV} {v : Int} : Wp E 98 12 (l0 :: l1 :: l2 :: l3 :: lk :: ls) (.inl v :: st) g μ Q = ((mNl (some l3) = true ∧ mNl (some lk) = true) ∧ Wp E 98 14 (l0 :: l1 :: l2 :: l3 :: some (.inl v) :: ls) st g μ Q) := Wp_sti k98_12 (fun _ => rfl) rfl rfl rfl
theorem k98_14 : mCode 98 14 = some (.aload_n 0, 1) := by decide +kernel
theorem x98_14 {E : ME} {ls : MLs} {st : List MV} {g : MG} {μ : MU} {Q : Option MV → MG → MU → Prop} {v : Nat ⊕ Nat} : Wp E 98 14 (some (.inr (.inr v)) :: ls) st g μ Q = Wp E 98 15 (some (.inr (.inr v)) :: ls) (.inr (.inr v) :: st) g μ Q := Wp_nx k98_14 rfl
theorem k98_15 : mCode 98 15 = some (.getfield 7, 3) := by decide +kernel
theorem x98_15 {E : ME} {ls : MLs} {st : List MV} {g : MG} {μ : MU} {Q : Option MV → MG → MU → Prop} {a : Nat} : Wp E 98 15 ls (.inr (.inr (.inl a)) :: st) g μ Q = ((mKd g a).1 = 6 ∧ Wp E 98 18 ls (mRv (mRf g a 1) :: st) g μ Q) := Wp_getR k98_15 f6_7 (by decide) (by decide)
theorem k98_18 : mCode 98 18 = some (.iload 4, 2) := by decide +kernel
theorem x98_18 {E : ME} {ls : MLs} {st : List MV} {g : MG} {μ : MU} {Q : Option MV → MG → MU → Prop} {l0 l1 l2 l3 : Option MV} {v : Int} : Wp E 98 18 (l0 :: l1 :: l2 :: l3 :: some (.inl v) :: ls) st g μ Q = Wp E 98 20 (l0 :: l1 :: l2 :: l3 :: some (.inl v) :: ls) (.inl v :: st) g μ Q := Wp_nx k98_18 rfl
theorem k98_20 : mCode 98 20 = some (.iconst 0, 1) := by decide +kernel
theorem x98_20 {E : ME} {ls : MLs} {st : List MV} {g : MG} {μ : MU} {Q : Option MV → MG → MU → Prop} : Wp E 98 20 ls st g μ Q = Wp E 98 21 ls (.inl 0 :: st) g μ Q := Wp_nx k98_20 rfl
theorem k98_21 : mCode 98 21 = some (.iadd, 1) := by decide +kernel
theorem x98_21 {E : ME} {ls : MLs} {st : List MV} {g : MG} {μ : MU} {Q : Option MV → MG → MU → Prop} {a b : Int} : Wp E 98 21 ls (.inl b :: .inl a :: st) g μ Q = Wp E 98 22 ls (.inl (mWr (a + b)) :: st) g μ Q := Wp_nx k98_21 rfl
theorem k98_22 : mCode 98 22 = some (.iload_n 1, 1) := by decide +kernel
theorem x98_22 {E : ME} {ls : MLs} {st : List MV} {g : MG} {μ : MU} {Q : Option MV → MG → MU → Prop} {l0 : Option MV} {v : Int} : Wp E 98 22 (l0 :: some (.inl v) :: ls) st g μ Q = Wp E 98 23 (l0 :: some (.inl v) :: ls) (.inl v :: st) g μ Q := Wp_nx k98_22 rfl
theorem k98_23 : mCode 98 23 = some (.iastore, 1) := by decide +kernel
theorem x98_23 {E : ME} {ls : MLs} {st : List MV} {g : MG} {μ : MU} {Q : Option MV → MG → MU → Prop} {a : Nat} {j v : Int} : Wp E 98 23 ls (.inl v :: .inl j :: .inr (.inr (.inl a)) :: st) g μ Q = (((mKd g a).1 = 10 ∧ 0 ≤ j ∧ j < (mKd g a).2) ∧ Wp E 98 24 ls st g (mUp μ a j.toNat v) Q) := Wp_iast k98_23
theorem k98_24 : mCode 98 24 = some (.aload_n 0, 1) := by decide +kernel
theorem x98_24 {E : ME} {ls : MLs} {st : List MV} {g : MG} {μ : MU} {Q : Option MV → MG → MU → Prop} {v : Nat ⊕ Nat} : Wp E 98 24 (some (.inr (.inr v)) :: ls) st g μ Q = Wp E 98 25 (some (.inr (.inr v)) :: ls) (.inr (.inr v) :: st) g μ Q := Wp_nx k98_24 rfl
theorem k98_25 : mCode 98 25 = some (.getfield 7, 3) := by decide +kernel
theorem x98_25 {E : ME} {ls : MLs} {st : List MV} {g : MG} {μ : MU} {Q : Option MV → MG → MU → Prop} {a : Nat} : Wp E 98 25 ls (.inr (.inr (.inl a)) :: st) g μ Q = ((mKd g a).1 = 6 ∧ Wp E 98 28 ls (mRv (mRf g a 1) :: st) g μ Q) := Wp_getR k98_25 f6_7 (by decide) (by decide)
theorem k98_28 : mCode 98 28 = some (.iload 4, 2) := by decide +kernel
theorem x98_28 {E : ME} {ls : MLs} {st : List MV} {g : MG} {μ : MU} {Q : Option MV → MG → MU → Prop} {l0 l1 l2 l3 : Option MV} {v : Int} : Wp E 98 28 (l0 :: l1 :: l2 :: l3 :: some (.inl v) :: ls) st g μ Q = Wp E 98 30 (l0 :: l1 :: l2 :: l3 :: some (.inl v) :: ls) (.inl v :: st) g μ Q := Wp_nx k98_28 rfl
theorem k98_30 : mCode 98 30 = some (.iconst 1, 1) := by decide +kernel
theorem x98_30 {E : ME} {ls : MLs} {st : List MV} {g : MG} {μ : MU} {Q : Option MV → MG → MU → Prop} : Wp E 98 30 ls st g μ Q = Wp E 98 31 ls (.inl 1 :: st) g μ Q := Wp_nx k98_30 rfl
theorem k98_31 : mCode 98 31 = some (.iadd, 1) := by decide +kernel
theorem x98_31 {E : ME} {ls : MLs} {st : List MV} {g : MG} {μ : MU} {Q : Option MV → MG → MU → Prop} {a b : Int} : Wp E 98 31 ls (.inl b :: .inl a :: st) g μ Q = Wp E 98 32 ls (.inl (mWr (a + b)) :: st) g μ Q := Wp_nx k98_31 rfl
theorem k98_32 : mCode 98 32 = some (.iload_n 2, 1) := by decide +kernel
theorem x98_32 {E : ME} {ls : MLs} {st : List MV} {g : MG} {μ : MU} {Q : Option MV → MG → MU → Prop} {l0 l1 : Option MV} {v : Int} : Wp E 98 32 (l0 :: l1 :: some (.inl v) :: ls) st g μ Q = Wp E 98 33 (l0 :: l1 :: some (.inl v) :: ls) (.inl v :: st) g μ Q := Wp_nx k98_32 rfl
theorem k98_33 : mCode 98 33 = some (.iastore, 1) := by decide +kernel
theorem x98_33 {E : ME} {ls : MLs} {st : List MV} {g : MG} {μ : MU} {Q : Option MV → MG → MU → Prop} {a : Nat} {j v : Int} : Wp E 98 33 ls (.inl v :: .inl j :: .inr (.inr (.inl a)) :: st) g μ Q = (((mKd g a).1 = 10 ∧ 0 ≤ j ∧ j < (mKd g a).2) ∧ Wp E 98 34 ls st g (mUp μ a j.toNat v) Q) := Wp_iast k98_33
theorem k98_34 : mCode 98 34 = some (.aload_n 0, 1) := by decide +kernel
theorem x98_34 {E : ME} {ls : MLs} {st : List MV} {g : MG} {μ : MU} {Q : Option MV → MG → MU → Prop} {v : Nat ⊕ Nat} : Wp E 98 34 (some (.inr (.inr v)) :: ls) st g μ Q = Wp E 98 35 (some (.inr (.inr v)) :: ls) (.inr (.inr v) :: st) g μ Q := Wp_nx k98_34 rfl
theorem k98_35 : mCode 98 35 = some (.getfield 7, 3) := by decide +kernel
theorem x98_35 {E : ME} {ls : MLs} {st : List MV} {g : MG} {μ : MU} {Q : Option MV → MG → MU → Prop} {a : Nat} : Wp E 98 35 ls (.inr (.inr (.inl a)) :: st) g μ Q = ((mKd g a).1 = 6 ∧ Wp E 98 38 ls (mRv (mRf g a 1) :: st) g μ Q) := Wp_getR k98_35 f6_7 (by decide) (by decide)
theorem k98_38 : mCode 98 38 = some (.iload 4, 2) := by decide +kernel
theorem x98_38 {E : ME} {ls : MLs} {st : List MV} {g : MG} {μ : MU} {Q : Option MV → MG → MU → Prop} {l0 l1 l2 l3 : Option MV} {v : Int} : Wp E 98 38 (l0 :: l1 :: l2 :: l3 :: some (.inl v) :: ls) st g μ Q = Wp E 98 40 (l0 :: l1 :: l2 :: l3 :: some (.inl v) :: ls) (.inl v :: st) g μ Q := Wp_nx k98_38 rfl
theorem k98_40 : mCode 98 40 = some (.iconst 2, 1) := by decide +kernel
theorem x98_40 {E : ME} {ls : MLs} {st : List MV} {g : MG} {μ : MU} {Q : Option MV → MG → MU → Prop} : Wp E 98 40 ls st g μ Q = Wp E 98 41 ls (.inl 2 :: st) g μ Q := Wp_nx k98_40 rfl
theorem k98_41 : mCode 98 41 = some (.iadd, 1) := by decide +kernel
theorem x98_41 {E : ME} {ls : MLs} {st : List MV} {g : MG} {μ : MU} {Q : Option MV → MG → MU → Prop} {a b : Int} : Wp E 98 41 ls (.inl b :: .inl a :: st) g μ Q = Wp E 98 42 ls (.inl (mWr (a + b)) :: st) g μ Q := Wp_nx k98_41 rfl
theorem k98_42 : mCode 98 42 = some (.iload_n 3, 1) := by decide +kernel
theorem x98_42 {E : ME} {ls : MLs} {st : List MV} {g : MG} {μ : MU} {Q : Option MV → MG → MU → Prop} {l0 l1 l2 : Option MV} {v : Int} : Wp E 98 42 (l0 :: l1 :: l2 :: some (.inl v) :: ls) st g μ Q = Wp E 98 43 (l0 :: l1 :: l2 :: some (.inl v) :: ls) (.inl v :: st) g μ Q := Wp_nx k98_42 rfl
theorem k98_43 : mCode 98 43 = some (.iastore, 1) := by decide +kernel
theorem x98_43 {E : ME} {ls : MLs} {st : List MV} {g : MG} {μ : MU} {Q : Option MV → MG → MU → Prop} {a : Nat} {j v : Int} : Wp E 98 43 ls (.inl v :: .inl j :: .inr (.inr (.inl a)) :: st) g μ Q = (((mKd g a).1 = 10 ∧ 0 ≤ j ∧ j < (mKd g a).2) ∧ Wp E 98 44 ls st g (mUp μ a j.toNat v) Q) := Wp_iast k98_43
theorem k98_44 : mCode 98 44 = some (.iconst 0, 1) := by decide +kernel
theorem x98_44 {E : ME} {ls : MLs} {st : List MV} {g : MG} {μ : MU} {Q : Option MV → MG → MU → Prop} : Wp E 98 44 ls st g μ Q = Wp E 98 45 ls (.inl 0 :: st) g μ Q := Wp_nx k98_44 rfl
theorem k98_45 : mCode 98 45 = some (.istore 5, 2) := by decide +kernel
theorem x98_45 {E : ME} {ls : MLs} {st : List MV} {g : MG} {μ : MU} {Q : Option MV → MG → MU → Prop} {l0 l1 l2 l3 l4 : Option MV} {lk : Option MV} {v : Int} : Wp E 98 45 (l0 :: l1 :: l2 :: l3 :: l4 :: lk :: ls) (.inl v :: st) g μ Q = ((mNl (some l4) = true ∧ mNl (some lk) = true) ∧ Wp E 98 47 (l0 :: l1 :: l2 :: l3 :: l4 :: some (.inl v) :: ls) st g μ Q) := Wp_sti k98_45 (fun _ => rfl) rfl rfl rfl
theorem k98_47 : mCode 98 47 = some (.iload 5, 2) := by decide +kernel
theorem x98_47 {E : ME} {ls : MLs} {st : List MV} {g : MG} {μ : MU} {Q : Option MV → MG → MU → Prop} {l0 l1 l2 l3 l4 : Option MV} {v : Int} : Wp E 98 47 (l0 :: l1 :: l2 :: l3 :: l4 :: some (.inl v) :: ls) st g μ Q = Wp E 98 49 (l0 :: l1 :: l2 :: l3 :: l4 :: some (.inl v) :: ls) (.inl v :: st) g μ Q := Wp_nx k98_47 rfl
theorem k98_49 : mCode 98 49 = some (.bipush 6, 2) := by decide +kernel
theorem x98_49 {E : ME} {ls : MLs} {st : List MV} {g : MG} {μ : MU} {Q : Option MV → MG → MU → Prop} : Wp E 98 49 ls st g μ Q = Wp E 98 51 ls (.inl 6 :: st) g μ Q := Wp_nx k98_49 rfl
theorem k98_51 : mCode 98 51 = some (.if_icmp .ge 22, 3) := by decide +kernel
theorem x98_51 {E : ME} {ls : MLs} {st : List MV} {g : MG} {μ : MU} {Q : Option MV → MG → MU → Prop} {a b : Int} : Wp E 98 51 ls (.inl b :: .inl a :: st) g μ Q = ((b ≤ a → Wp E 98 73 ls st g μ Q) ∧ (a < b → Wp E 98 54 ls st g μ Q)) := Wp_cmp_ge k98_51 (by decide)
theorem k98_54 : mCode 98 54 = some (.aload_n 0, 1) := by decide +kernel
theorem x98_54 {E : ME} {ls : MLs} {st : List MV} {g : MG} {μ : MU} {Q : Option MV → MG → MU → Prop} {v : Nat ⊕ Nat} : Wp E 98 54 (some (.inr (.inr v)) :: ls) st g μ Q = Wp E 98 55 (some (.inr (.inr v)) :: ls) (.inr (.inr v) :: st) g μ Q := Wp_nx k98_54 rfl
theorem k98_55 : mCode 98 55 = some (.getfield 7, 3) := by decide +kernel
theorem x98_55 {E : ME} {ls : MLs} {st : List MV} {g : MG} {μ : MU} {Q : Option MV → MG → MU → Prop} {a : Nat} : Wp E 98 55 ls (.inr (.inr (.inl a)) :: st) g μ Q = ((mKd g a).1 = 6 ∧ Wp E 98 58 ls (mRv (mRf g a 1) :: st) g μ Q) := Wp_getR k98_55 f6_7 (by decide) (by decide)
theorem k98_58 : mCode 98 58 = some (.iload 4, 2) := by decide +kernel
theorem x98_58 {E : ME} {ls : MLs} {st : List MV} {g : MG} {μ : MU} {Q : Option MV → MG → MU → Prop} {l0 l1 l2 l3 : Option MV} {v : Int} : Wp E 98 58 (l0 :: l1 :: l2 :: l3 :: some (.inl v) :: ls) st g μ Q = Wp E 98 60 (l0 :: l1 :: l2 :: l3 :: some (.inl v) :: ls) (.inl v :: st) g μ Q := Wp_nx k98_58 rfl
theorem k98_60 : mCode 98 60 = some (.iconst 3, 1) := by decide +kernel
theorem x98_60 {E : ME} {ls : MLs} {st : List MV} {g : MG} {μ : MU} {Q : Option MV → MG → MU → Prop} : Wp E 98 60 ls st g μ Q = Wp E 98 61 ls (.inl 3 :: st) g μ Q := Wp_nx k98_60 rfl
theorem k98_61 : mCode 98 61 = some (.iadd, 1) := by decide +kernel
theorem x98_61 {E : ME} {ls : MLs} {st : List MV} {g : MG} {μ : MU} {Q : Option MV → MG → MU → Prop} {a b : Int} : Wp E 98 61 ls (.inl b :: .inl a :: st) g μ Q = Wp E 98 62 ls (.inl (mWr (a + b)) :: st) g μ Q := Wp_nx k98_61 rfl
theorem k98_62 : mCode 98 62 = some (.iload 5, 2) := by decide +kernel
theorem x98_62 {E : ME} {ls : MLs} {st : List MV} {g : MG} {μ : MU} {Q : Option MV → MG → MU → Prop} {l0 l1 l2 l3 l4 : Option MV} {v : Int} : Wp E 98 62 (l0 :: l1 :: l2 :: l3 :: l4 :: some (.inl v) :: ls) st g μ Q = Wp E 98 64 (l0 :: l1 :: l2 :: l3 :: l4 :: some (.inl v) :: ls) (.inl v :: st) g μ Q := Wp_nx k98_62 rfl
theorem k98_64 : mCode 98 64 = some (.iadd, 1) := by decide +kernel
theorem x98_64 {E : ME} {ls : MLs} {st : List MV} {g : MG} {μ : MU} {Q : Option MV → MG → MU → Prop} {a b : Int} : Wp E 98 64 ls (.inl b :: .inl a :: st) g μ Q = Wp E 98 65 ls (.inl (mWr (a + b)) :: st) g μ Q := Wp_nx k98_64 rfl
theorem k98_65 : mCode 98 65 = some (.iconst 0, 1) := by decide +kernel
theorem x98_65 {E : ME} {ls : MLs} {st : List MV} {g : MG} {μ : MU} {Q : Option MV → MG → MU → Prop} : Wp E 98 65 ls st g μ Q = Wp E 98 66 ls (.inl 0 :: st) g μ Q := Wp_nx k98_65 rfl
theorem k98_66 : mCode 98 66 = some (.iastore, 1) := by decide +kernel
theorem x98_66 {E : ME} {ls : MLs} {st : List MV} {g : MG} {μ : MU} {Q : Option MV → MG → MU → Prop} {a : Nat} {j v : Int} : Wp E 98 66 ls (.inl v :: .inl j :: .inr (.inr (.inl a)) :: st) g μ Q = (((mKd g a).1 = 10 ∧ 0 ≤ j ∧ j < (mKd g a).2) ∧ Wp E 98 67 ls st g (mUp μ a j.toNat v) Q) := Wp_iast k98_66
theorem k98_67 : mCode 98 67 = some (.iinc 5 1, 3) := by decide +kernel
theorem x98_67 {E : ME} {ls : MLs} {st : List MV} {g : MG} {μ : MU} {Q : Option MV → MG → MU → Prop} {l0 l1 l2 l3 l4 : Option MV} {v : Int} : Wp E 98 67 (l0 :: l1 :: l2 :: l3 :: l4 :: some (.inl v) :: ls) st g μ Q = (mNl (some l4) = true ∧ Wp E 98 70 (l0 :: l1 :: l2 :: l3 :: l4 :: some (.inl (mWr (v + 1))) :: ls) st g μ Q) := Wp_inc k98_67 rfl rfl rfl
theorem k98_70 : mCode 98 70 = some (.goto (-23), 3) := by decide +kernel
theorem x98_70 {E : ME} {ls : MLs} {st : List MV} {g : MG} {μ : MU} {Q : Option MV → MG → MU → Prop} : Wp E 98 70 ls st g μ Q = Wp E 98 47 ls st g μ Q := Wp_goto k98_70 (by decide)
theorem k98_73 : mCode 98 73 = some (.aload_n 0, 1) := by decide +kernel
theorem x98_73 {E : ME} {ls : MLs} {st : List MV} {g : MG} {μ : MU} {Q : Option MV → MG → MU → Prop} {v : Nat ⊕ Nat} : Wp E 98 73 (some (.inr (.inr v)) :: ls) st g μ Q = Wp E 98 74 (some (.inr (.inr v)) :: ls) (.inr (.inr v) :: st) g μ Q := Wp_nx k98_73 rfl
theorem k98_74 : mCode 98 74 = some (.getfield 7, 3) := by decide +kernel
theorem x98_74 {E : ME} {ls : MLs} {st : List MV} {g : MG} {μ : MU} {Q : Option MV → MG → MU → Prop} {a : Nat} : Wp E 98 74 ls (.inr (.inr (.inl a)) :: st) g μ Q = ((mKd g a).1 = 6 ∧ Wp E 98 77 ls (mRv (mRf g a 1) :: st) g μ Q) := Wp_getR k98_74 f6_7 (by decide) (by decide)
theorem k98_77 : mCode 98 77 = some (.iconst 5, 1) := by decide +kernel
theorem x98_77 {E : ME} {ls : MLs} {st : List MV} {g : MG} {μ : MU} {Q : Option MV → MG → MU → Prop} : Wp E 98 77 ls st g μ Q = Wp E 98 78 ls (.inl 5 :: st) g μ Q := Wp_nx k98_77 rfl
theorem k98_78 : mCode 98 78 = some (.dup2, 1) := by decide +kernel
theorem x98_78 {E : ME} {ls : MLs} {st : List MV} {g : MG} {μ : MU} {Q : Option MV → MG → MU → Prop} {v w : MV} : Wp E 98 78 ls (v :: w :: st) g μ Q = ((mC1 v = true ∧ mC1 w = true) ∧ Wp E 98 79 ls (v :: w :: v :: w :: st) g μ Q) := Wp_dup2 k98_78
theorem k98_79 : mCode 98 79 = some (.iaload, 1) := by decide +kernel
theorem x98_79 {E : ME} {ls : MLs} {st : List MV} {g : MG} {μ : MU} {Q : Option MV → MG → MU → Prop} {a : Nat} {j : Int} : Wp E 98 79 ls (.inl j :: .inr (.inr (.inl a)) :: st) g μ Q = (((mKd g a).1 = 10 ∧ 0 ≤ j ∧ j < (mKd g a).2) ∧ Wp E 98 80 ls (.inl (μ a j.toNat) :: st) g μ Q) := Wp_ald k98_79 (fun _ => rfl)
theorem k98_80 : mCode 98 80 = some (.iconst 1, 1) := by decide +kernel
theorem x98_80 {E : ME} {ls : MLs} {st : List MV} {g : MG} {μ : MU} {Q : Option MV → MG → MU → Prop} : Wp E 98 80 ls st g μ Q = Wp E 98 81 ls (.inl 1 :: st) g μ Q := Wp_nx k98_80 rfl
theorem k98_81 : mCode 98 81 = some (.iadd, 1) := by decide +kernel
theorem x98_81 {E : ME} {ls : MLs} {st : List MV} {g : MG} {μ : MU} {Q : Option MV → MG → MU → Prop} {a b : Int} : Wp E 98 81 ls (.inl b :: .inl a :: st) g μ Q = Wp E 98 82 ls (.inl (mWr (a + b)) :: st) g μ Q := Wp_nx k98_81 rfl
theorem k98_82 : mCode 98 82 = some (.iastore, 1) := by decide +kernel
theorem x98_82 {E : ME} {ls : MLs} {st : List MV} {g : MG} {μ : MU} {Q : Option MV → MG → MU → Prop} {a : Nat} {j v : Int} : Wp E 98 82 ls (.inl v :: .inl j :: .inr (.inr (.inl a)) :: st) g μ Q = (((mKd g a).1 = 10 ∧ 0 ≤ j ∧ j < (mKd g a).2) ∧ Wp E 98 83 ls st g (mUp μ a j.toNat v) Q) := Wp_iast k98_82
theorem k98_83 : mCode 98 83 = some (.aload_n 0, 1) := by decide +kernel
theorem x98_83 {E : ME} {ls : MLs} {st : List MV} {g : MG} {μ : MU} {Q : Option MV → MG → MU → Prop} {v : Nat ⊕ Nat} : Wp E 98 83 (some (.inr (.inr v)) :: ls) st g μ Q = Wp E 98 84 (some (.inr (.inr v)) :: ls) (.inr (.inr v) :: st) g μ Q := Wp_nx k98_83 rfl
theorem k98_84 : mCode 98 84 = some (.getfield 7, 3) := by decide +kernel
theorem x98_84 {E : ME} {ls : MLs} {st : List MV} {g : MG} {μ : MU} {Q : Option MV → MG → MU → Prop} {a : Nat} : Wp E 98 84 ls (.inr (.inr (.inl a)) :: st) g μ Q = ((mKd g a).1 = 6 ∧ Wp E 98 87 ls (mRv (mRf g a 1) :: st) g μ Q) := Wp_getR k98_84 f6_7 (by decide) (by decide)
theorem k98_87 : mCode 98 87 = some (.iconst 5, 1) := by decide +kernel
theorem x98_87 {E : ME} {ls : MLs} {st : List MV} {g : MG} {μ : MU} {Q : Option MV → MG → MU → Prop} : Wp E 98 87 ls st g μ Q = Wp E 98 88 ls (.inl 5 :: st) g μ Q := Wp_nx k98_87 rfl
theorem k98_88 : mCode 98 88 = some (.iaload, 1) := by decide +kernel
theorem x98_88 {E : ME} {ls : MLs} {st : List MV} {g : MG} {μ : MU} {Q : Option MV → MG → MU → Prop} {a : Nat} {j : Int} : Wp E 98 88 ls (.inl j :: .inr (.inr (.inl a)) :: st) g μ Q = (((mKd g a).1 = 10 ∧ 0 ≤ j ∧ j < (mKd g a).2) ∧ Wp E 98 89 ls (.inl (μ a j.toNat) :: st) g μ Q) := Wp_ald k98_88 (fun _ => rfl)
theorem k98_89 : mCode 98 89 = some (.iconst 1, 1) := by decide +kernel
theorem x98_89 {E : ME} {ls : MLs} {st : List MV} {g : MG} {μ : MU} {Q : Option MV → MG → MU → Prop} : Wp E 98 89 ls st g μ Q = Wp E 98 90 ls (.inl 1 :: st) g μ Q := Wp_nx k98_89 rfl
theorem k98_90 : mCode 98 90 = some (.isub, 1) := by decide +kernel
theorem x98_90 {E : ME} {ls : MLs} {st : List MV} {g : MG} {μ : MU} {Q : Option MV → MG → MU → Prop} {a b : Int} : Wp E 98 90 ls (.inl b :: .inl a :: st) g μ Q = Wp E 98 91 ls (.inl (mWr (a - b)) :: st) g μ Q := Wp_nx k98_90 rfl
theorem k98_91 : mCode 98 91 = some (.ireturn, 1) := by decide +kernel
theorem x98_91 {E : ME} {ls : MLs} {g : MG} {μ : MU} {Q : Option MV → MG → MU → Prop} {v : Int} : Wp E 98 91 ls [.inl v] g μ Q = Q (some (.inl v)) g μ := Wp_retI k98_91 (by decide)
theorem k99_0 : mCode 99 0 = some (.aload_n 0, 1) := by decide +kernel
theorem x99_0 {E : ME} {ls : MLs} {st : List MV} {g : MG} {μ : MU} {Q : Option MV → MG → MU → Prop} {v : Nat ⊕ Nat} : Wp E 99 0 (some (.inr (.inr v)) :: ls) st g μ Q = Wp E 99 1 (some (.inr (.inr v)) :: ls) (.inr (.inr v) :: st) g μ Q := Wp_nx k99_0 rfl
theorem k99_1 : mCode 99 1 = some (.iconst 0, 1) := by decide +kernel
theorem x99_1 {E : ME} {ls : MLs} {st : List MV} {g : MG} {μ : MU} {Q : Option MV → MG → MU → Prop} : Wp E 99 1 ls st g μ Q = Wp E 99 2 ls (.inl 0 :: st) g μ Q := Wp_nx k99_1 rfl
theorem k99_2 : mCode 99 2 = some (.putfield 65, 3) := by decide +kernel
theorem x99_2 {E : ME} {ls : MLs} {st : List MV} {g : MG} {μ : MU} {Q : Option MV → MG → MU → Prop} {a : Nat} {v : Int} : Wp E 99 2 ls (.inl v :: .inr (.inr (.inl a)) :: st) g μ Q = ((mKd g a).1 = 6 ∧ Wp E 99 5 ls st g (mUp μ a 0 v) Q) := Wp_putI0 k99_2 f6_65 (by decide) (by decide)
theorem k99_5 : mCode 99 5 = some (.aload_n 0, 1) := by decide +kernel
theorem x99_5 {E : ME} {ls : MLs} {st : List MV} {g : MG} {μ : MU} {Q : Option MV → MG → MU → Prop} {v : Nat ⊕ Nat} : Wp E 99 5 (some (.inr (.inr v)) :: ls) st g μ Q = Wp E 99 6 (some (.inr (.inr v)) :: ls) (.inr (.inr v) :: st) g μ Q := Wp_nx k99_5 rfl
theorem k99_6 : mCode 99 6 = some (.iload_n 1, 1) := by decide +kernel
theorem x99_6 {E : ME} {ls : MLs} {st : List MV} {g : MG} {μ : MU} {Q : Option MV → MG → MU → Prop} {l0 : Option MV} {v : Int} : Wp E 99 6 (l0 :: some (.inl v) :: ls) st g μ Q = Wp E 99 7 (l0 :: some (.inl v) :: ls) (.inl v :: st) g μ Q := Wp_nx k99_6 rfl
theorem k99_7 : mCode 99 7 = some (.iload_n 2, 1) := by decide +kernel
theorem x99_7 {E : ME} {ls : MLs} {st : List MV} {g : MG} {μ : MU} {Q : Option MV → MG → MU → Prop} {l0 l1 : Option MV} {v : Int} : Wp E 99 7 (l0 :: l1 :: some (.inl v) :: ls) st g μ Q = Wp E 99 8 (l0 :: l1 :: some (.inl v) :: ls) (.inl v :: st) g μ Q := Wp_nx k99_7 rfl
theorem k99_8 : mCode 99 8 = some (.iload_n 3, 1) := by decide +kernel
theorem x99_8 {E : ME} {ls : MLs} {st : List MV} {g : MG} {μ : MU} {Q : Option MV → MG → MU → Prop} {l0 l1 l2 : Option MV} {v : Int} : Wp E 99 8 (l0 :: l1 :: l2 :: some (.inl v) :: ls) st g μ Q = Wp E 99 9 (l0 :: l1 :: l2 :: some (.inl v) :: ls) (.inl v :: st) g μ Q := Wp_nx k99_8 rfl
theorem k99_9 : mCode 99 9 = some (.invokevirtual 127, 3) := by decide +kernel
theorem x99_9 {E : ME} {ls : MLs} {st : List MV} {g : MG} {μ : MU} {Q : Option MV → MG → MU → Prop} {r : Nat} {a0 : Int} {a1 : Int} {a2 : Int} : Wp E 99 9 ls (.inl a2 :: .inl a1 :: .inl a0 :: .inr (.inr (.inl r)) :: st) g μ Q = ((st.length ≤ 4 ∧ ((mKd g r).1 == 6) = true) ∧ Wp E 97 0 [some (.inr (.inr (.inl r))), some (.inl a0), some (.inl a1), some (.inl a2)] [] g μ (fun r g' μ' => (g'.1 = g.1 ∧ g'.2.1 = g.2.1) ∧ Wp E 99 12 ls (mPush r st) g' μ' Q)) := Wp_cV k99_9 m6_127 (by decide) (as := [.inr (.inr (.inl r)), .inl a0, .inl a1, .inl a2]) rfl rfl rfl ⟨Nat.le_of_ble_eq_true rfl, by decide⟩
theorem k99_12 : mCode 99 12 = some (.istore 4, 2) := by decide +kernel
theorem x99_12 {E : ME} {ls : MLs} {st : List MV} {g : MG} {μ : MU} {Q : Option MV → MG → MU → Prop} {l0 l1 l2 l3 : Option MV} {lk : Option MV} {v : Int} : Wp E 99 12 (l0 :: l1 :: l2 :: l3 :: lk :: ls) (.inl v :: st) g μ Q = ((mNl (some l3) = true ∧ mNl (some lk) = true) ∧ Wp E 99 14 (l0 :: l1 :: l2 :: l3 :: some (.inl v) :: ls) st g μ Q) := Wp_sti k99_12 (fun _ => rfl) rfl rfl rfl
theorem k99_14 : mCode 99 14 = some (.iload 4, 2) := by decide +kernel
theorem x99_14 {E : ME} {ls : MLs} {st : List MV} {g : MG} {μ : MU} {Q : Option MV → MG → MU → Prop} {l0 l1 l2 l3 : Option MV} {v : Int} : Wp E 99 14 (l0 :: l1 :: l2 :: l3 :: some (.inl v) :: ls) st g μ Q = Wp E 99 16 (l0 :: l1 :: l2 :: l3 :: some (.inl v) :: ls) (.inl v :: st) g μ Q := Wp_nx k99_14 rfl
theorem k99_16 : mCode 99 16 = some (.ifCond .eq 6, 3) := by decide +kernel
theorem x99_16 {E : ME} {ls : MLs} {st : List MV} {g : MG} {μ : MU} {Q : Option MV → MG → MU → Prop} {a : Int} : Wp E 99 16 ls (.inl a :: st) g μ Q = ((a = 0 → Wp E 99 22 ls st g μ Q) ∧ (¬ a = 0 → Wp E 99 19 ls st g μ Q)) := Wp_if_eq k99_16 (by decide)
theorem k99_19 : mCode 99 19 = some (.iload 4, 2) := by decide +kernel
theorem x99_19 {E : ME} {ls : MLs} {st : List MV} {g : MG} {μ : MU} {Q : Option MV → MG → MU → Prop} {l0 l1 l2 l3 : Option MV} {v : Int} : Wp E 99 19 (l0 :: l1 :: l2 :: l3 :: some (.inl v) :: ls) st g μ Q = Wp E 99 21 (l0 :: l1 :: l2 :: l3 :: some (.inl v) :: ls) (.inl v :: st) g μ Q := Wp_nx k99_19 rfl
theorem k99_21 : mCode 99 21 = some (.ireturn, 1) := by decide +kernel
theorem x99_21 {E : ME} {ls : MLs} {g : MG} {μ : MU} {Q : Option MV → MG → MU → Prop} {v : Int} : Wp E 99 21 ls [.inl v] g μ Q = Q (some (.inl v)) g μ := Wp_retI k99_21 (by decide)
theorem k99_22 : mCode 99 22 = some (.aload_n 0, 1) := by decide +kernel
theorem x99_22 {E : ME} {ls : MLs} {st : List MV} {g : MG} {μ : MU} {Q : Option MV → MG → MU → Prop} {v : Nat ⊕ Nat} : Wp E 99 22 (some (.inr (.inr v)) :: ls) st g μ Q = Wp E 99 23 (some (.inr (.inr v)) :: ls) (.inr (.inr v) :: st) g μ Q := Wp_nx k99_22 rfl
theorem k99_23 : mCode 99 23 = some (.invokevirtual 121, 3) := by decide +kernel
theorem x99_23 {E : ME} {ls : MLs} {st : List MV} {g : MG} {μ : MU} {Q : Option MV → MG → MU → Prop} {r : Nat} : Wp E 99 23 ls (.inr (.inr (.inl r)) :: st) g μ Q = ((st.length ≤ 4 ∧ ((mKd g r).1 == 6) = true) ∧ Wp E 84 0 [some (.inr (.inr (.inl r))), none] [] g μ (fun r g' μ' => (g'.1 = g.1 ∧ g'.2.1 = g.2.1) ∧ Wp E 99 26 ls (mPush r st) g' μ' Q)) := Wp_cV k99_23 m6_121 (by decide) (as := [.inr (.inr (.inl r))]) rfl rfl rfl ⟨Nat.le_of_ble_eq_true rfl, by decide⟩
theorem k99_26 : mCode 99 26 = some (.aload_n 0, 1) := by decide +kernel
theorem x99_26 {E : ME} {ls : MLs} {st : List MV} {g : MG} {μ : MU} {Q : Option MV → MG → MU → Prop} {v : Nat ⊕ Nat} : Wp E 99 26 (some (.inr (.inr v)) :: ls) st g μ Q = Wp E 99 27 (some (.inr (.inr v)) :: ls) (.inr (.inr v) :: st) g μ Q := Wp_nx k99_26 rfl
theorem k99_27 : mCode 99 27 = some (.iload_n 1, 1) := by decide +kernel
theorem x99_27 {E : ME} {ls : MLs} {st : List MV} {g : MG} {μ : MU} {Q : Option MV → MG → MU → Prop} {l0 : Option MV} {v : Int} : Wp E 99 27 (l0 :: some (.inl v) :: ls) st g μ Q = Wp E 99 28 (l0 :: some (.inl v) :: ls) (.inl v :: st) g μ Q := Wp_nx k99_27 rfl
theorem k99_28 : mCode 99 28 = some (.iload_n 2, 1) := by decide +kernel
theorem x99_28 {E : ME} {ls : MLs} {st : List MV} {g : MG} {μ : MU} {Q : Option MV → MG → MU → Prop} {l0 l1 : Option MV} {v : Int} : Wp E 99 28 (l0 :: l1 :: some (.inl v) :: ls) st g μ Q = Wp E 99 29 (l0 :: l1 :: some (.inl v) :: ls) (.inl v :: st) g μ Q := Wp_nx k99_28 rfl
theorem k99_29 : mCode 99 29 = some (.iload_n 3, 1) := by decide +kernel
theorem x99_29 {E : ME} {ls : MLs} {st : List MV} {g : MG} {μ : MU} {Q : Option MV → MG → MU → Prop} {l0 l1 l2 : Option MV} {v : Int} : Wp E 99 29 (l0 :: l1 :: l2 :: some (.inl v) :: ls) st g μ Q = Wp E 99 30 (l0 :: l1 :: l2 :: some (.inl v) :: ls) (.inl v :: st) g μ Q := Wp_nx k99_29 rfl
theorem k99_30 : mCode 99 30 = some (.invokevirtual 130, 3) := by decide +kernel
theorem x99_30 {E : ME} {ls : MLs} {st : List MV} {g : MG} {μ : MU} {Q : Option MV → MG → MU → Prop} {r : Nat} {a0 : Int} {a1 : Int} {a2 : Int} : Wp E 99 30 ls (.inl a2 :: .inl a1 :: .inl a0 :: .inr (.inr (.inl r)) :: st) g μ Q = ((st.length ≤ 4 ∧ ((mKd g r).1 == 6) = true) ∧ Wp E 98 0 [some (.inr (.inr (.inl r))), some (.inl a0), some (.inl a1), some (.inl a2), none, none] [] g μ (fun r g' μ' => (g'.1 = g.1 ∧ g'.2.1 = g.2.1) ∧ Wp E 99 33 ls (mPush r st) g' μ' Q)) := Wp_cV k99_30 m6_130 (by decide) (as := [.inr (.inr (.inl r)), .inl a0, .inl a1, .inl a2]) rfl rfl rfl ⟨Nat.le_of_ble_eq_true rfl, by decide⟩
theorem k99_33 : mCode 99 33 = some (.ireturn, 1) := by decide +kernel
theorem x99_33 {E : ME} {ls : MLs} {g : MG} {μ : MU} {Q : Option MV → MG → MU → Prop} {v : Int} : Wp E 99 33 ls [.inl v] g μ Q = Q (some (.inl v)) g μ := Wp_retI k99_33 (by decide)
theorem k100_0 : mCode 100 0 = some (.iload_n 0, 1) := by decide +kernel
theorem x100_0 {E : ME} {ls : MLs} {st : List MV} {g : MG} {μ : MU} {Q : Option MV → MG → MU → Prop} {v : Int} : Wp E 100 0 (some (.inl v) :: ls) st g μ Q = Wp E 100 1 (some (.inl v) :: ls) (.inl v :: st) g μ Q := Wp_nx k100_0 rfl
theorem k100_1 : mCode 100 1 = some (.invokestatic 124, 3) := by decide +kernel
theorem x100_1 {E : ME} {ls : MLs} {st : List MV} {g : MG} {μ : MU} {Q : Option MV → MG → MU → Prop} {a0 : Int} : Wp E 100 1 ls (.inl a0 :: st) g μ Q = (st.length ≤ 4 ∧ Wp E 82 0 [some (.inl a0)] [] g μ (fun r g' μ' => (g'.1 = g.1 ∧ g'.2.1 = g.2.1) ∧ Wp E 100 4 ls (mPush r st) g' μ' Q)) := Wp_cS k100_1 m6_124 (by decide) (as := [.inl a0]) rfl rfl rfl ⟨Nat.le_of_ble_eq_true rfl, by decide⟩
theorem k100_4 : mCode 100 4 = some (.ifCond .eq 10, 3) := by decide +kernel
theorem x100_4 {E : ME} {ls : MLs} {st : List MV} {g : MG} {μ : MU} {Q : Option MV → MG → MU → Prop} {a : Int} : Wp E 100 4 ls (.inl a :: st) g μ Q = ((a = 0 → Wp E 100 14 ls st g μ Q) ∧ (¬ a = 0 → Wp E 100 7 ls st g μ Q)) := Wp_if_eq k100_4 (by decide)
theorem k100_7 : mCode 100 7 = some (.iload_n 1, 1) := by decide +kernel
theorem x100_7 {E : ME} {ls : MLs} {st : List MV} {g : MG} {μ : MU} {Q : Option MV → MG → MU → Prop} {l0 : Option MV} {v : Int} : Wp E 100 7 (l0 :: some (.inl v) :: ls) st g μ Q = Wp E 100 8 (l0 :: some (.inl v) :: ls) (.inl v :: st) g μ Q := Wp_nx k100_7 rfl
theorem k100_8 : mCode 100 8 = some (.invokestatic 124, 3) := by decide +kernel
theorem x100_8 {E : ME} {ls : MLs} {st : List MV} {g : MG} {μ : MU} {Q : Option MV → MG → MU → Prop} {a0 : Int} : Wp E 100 8 ls (.inl a0 :: st) g μ Q = (st.length ≤ 4 ∧ Wp E 82 0 [some (.inl a0)] [] g μ (fun r g' μ' => (g'.1 = g.1 ∧ g'.2.1 = g.2.1) ∧ Wp E 100 11 ls (mPush r st) g' μ' Q)) := Wp_cS k100_8 m6_124 (by decide) (as := [.inl a0]) rfl rfl rfl ⟨Nat.le_of_ble_eq_true rfl, by decide⟩
theorem k100_11 : mCode 100 11 = some (.ifCond .ne 5, 3) := by decide +kernel
theorem x100_11 {E : ME} {ls : MLs} {st : List MV} {g : MG} {μ : MU} {Q : Option MV → MG → MU → Prop} {a : Int} : Wp E 100 11 ls (.inl a :: st) g μ Q = ((¬ a = 0 → Wp E 100 16 ls st g μ Q) ∧ (a = 0 → Wp E 100 14 ls st g μ Q)) := Wp_if_ne k100_11 (by decide)
theorem k100_14 : mCode 100 14 = some (.iconst (-1), 1) := by decide +kernel
theorem x100_14 {E : ME} {ls : MLs} {st : List MV} {g : MG} {μ : MU} {Q : Option MV → MG → MU → Prop} : Wp E 100 14 ls st g μ Q = Wp E 100 15 ls (.inl (-1) :: st) g μ Q := Wp_nx k100_14 rfl
theorem k100_15 : mCode 100 15 = some (.ireturn, 1) := by decide +kernel
theorem x100_15 {E : ME} {ls : MLs} {g : MG} {μ : MU} {Q : Option MV → MG → MU → Prop} {v : Int} : Wp E 100 15 ls [.inl v] g μ Q = Q (some (.inl v)) g μ := Wp_retI k100_15 (by decide)
theorem k100_16 : mCode 100 16 = some (.iload_n 0, 1) := by decide +kernel
theorem x100_16 {E : ME} {ls : MLs} {st : List MV} {g : MG} {μ : MU} {Q : Option MV → MG → MU → Prop} {v : Int} : Wp E 100 16 (some (.inl v) :: ls) st g μ Q = Wp E 100 17 (some (.inl v) :: ls) (.inl v :: st) g μ Q := Wp_nx k100_16 rfl
theorem k100_17 : mCode 100 17 = some (.iload_n 1, 1) := by decide +kernel
theorem x100_17 {E : ME} {ls : MLs} {st : List MV} {g : MG} {μ : MU} {Q : Option MV → MG → MU → Prop} {l0 : Option MV} {v : Int} : Wp E 100 17 (l0 :: some (.inl v) :: ls) st g μ Q = Wp E 100 18 (l0 :: some (.inl v) :: ls) (.inl v :: st) g μ Q := Wp_nx k100_17 rfl
theorem k100_18 : mCode 100 18 = some (.if_icmp .eq 17, 3) := by decide +kernel
theorem x100_18 {E : ME} {ls : MLs} {st : List MV} {g : MG} {μ : MU} {Q : Option MV → MG → MU → Prop} {a b : Int} : Wp E 100 18 ls (.inl b :: .inl a :: st) g μ Q = ((a = b → Wp E 100 35 ls st g μ Q) ∧ (¬ a = b → Wp E 100 21 ls st g μ Q)) := Wp_cmp_eq k100_18 (by decide)
theorem k100_21 : mCode 100 21 = some (.iload_n 2, 1) := by decide +kernel
theorem x100_21 {E : ME} {ls : MLs} {st : List MV} {g : MG} {μ : MU} {Q : Option MV → MG → MU → Prop} {l0 l1 : Option MV} {v : Int} : Wp E 100 21 (l0 :: l1 :: some (.inl v) :: ls) st g μ Q = Wp E 100 22 (l0 :: l1 :: some (.inl v) :: ls) (.inl v :: st) g μ Q := Wp_nx k100_21 rfl
theorem k100_22 : mCode 100 22 = some (.iconst 1, 1) := by decide +kernel
theorem x100_22 {E : ME} {ls : MLs} {st : List MV} {g : MG} {μ : MU} {Q : Option MV → MG → MU → Prop} : Wp E 100 22 ls st g μ Q = Wp E 100 23 ls (.inl 1 :: st) g μ Q := Wp_nx k100_22 rfl
theorem k100_23 : mCode 100 23 = some (.bipush 99, 2) := by decide +kernel
theorem x100_23 {E : ME} {ls : MLs} {st : List MV} {g : MG} {μ : MU} {Q : Option MV → MG → MU → Prop} : Wp E 100 23 ls st g μ Q = Wp E 100 25 ls (.inl 99 :: st) g μ Q := Wp_nx k100_23 rfl
theorem k100_25 : mCode 100 25 = some (.invokestatic 69, 3) := by decide +kernel
theorem x100_25 {E : ME} {ls : MLs} {st : List MV} {g : MG} {μ : MU} {Q : Option MV → MG → MU → Prop} {a0 : Int} {a1 : Int} {a2 : Int} : Wp E 100 25 ls (.inl a2 :: .inl a1 :: .inl a0 :: st) g μ Q = (st.length ≤ 4 ∧ Wp E 77 0 [some (.inl a0), some (.inl a1), some (.inl a2)] [] g μ (fun r g' μ' => (g'.1 = g.1 ∧ g'.2.1 = g.2.1) ∧ Wp E 100 28 ls (mPush r st) g' μ' Q)) := Wp_cS k100_25 m6_69 (by decide) (as := [.inl a0, .inl a1, .inl a2]) rfl rfl rfl ⟨Nat.le_of_ble_eq_true rfl, by decide⟩
theorem k100_28 : mCode 100 28 = some (.ifCond .eq 7, 3) := by decide +kernel
theorem x100_28 {E : ME} {ls : MLs} {st : List MV} {g : MG} {μ : MU} {Q : Option MV → MG → MU → Prop} {a : Int} : Wp E 100 28 ls (.inl a :: st) g μ Q = ((a = 0 → Wp E 100 35 ls st g μ Q) ∧ (¬ a = 0 → Wp E 100 31 ls st g μ Q)) := Wp_if_eq k100_28 (by decide)
theorem k100_31 : mCode 100 31 = some (.iconst 0, 1) := by decide +kernel
theorem x100_31 {E : ME} {ls : MLs} {st : List MV} {g : MG} {μ : MU} {Q : Option MV → MG → MU → Prop} : Wp E 100 31 ls st g μ Q = Wp E 100 32 ls (.inl 0 :: st) g μ Q := Wp_nx k100_31 rfl
theorem k100_32 : mCode 100 32 = some (.goto 5, 3) := by decide +kernel
theorem x100_32 {E : ME} {ls : MLs} {st : List MV} {g : MG} {μ : MU} {Q : Option MV → MG → MU → Prop} : Wp E 100 32 ls st g μ Q = Wp E 100 37 ls st g μ Q := Wp_goto k100_32 (by decide)
theorem k100_35 : mCode 100 35 = some (.bipush (-2), 2) := by decide +kernel
theorem x100_35 {E : ME} {ls : MLs} {st : List MV} {g : MG} {μ : MU} {Q : Option MV → MG → MU → Prop} : Wp E 100 35 ls st g μ Q = Wp E 100 37 ls (.inl (-2) :: st) g μ Q := Wp_nx k100_35 rfl
theorem k100_37 : mCode 100 37 = some (.ireturn, 1) := by decide +kernel
theorem x100_37 {E : ME} {ls : MLs} {g : MG} {μ : MU} {Q : Option MV → MG → MU → Prop} {v : Int} : Wp E 100 37 ls [.inl v] g μ Q = Q (some (.inl v)) g μ := Wp_retI k100_37 (by decide)
theorem k101_0 : mCode 101 0 = some (.aload_n 0, 1) := by decide +kernel
theorem x101_0 {E : ME} {ls : MLs} {st : List MV} {g : MG} {μ : MU} {Q : Option MV → MG → MU → Prop} {v : Nat ⊕ Nat} : Wp E 101 0 (some (.inr (.inr v)) :: ls) st g μ Q = Wp E 101 1 (some (.inr (.inr v)) :: ls) (.inr (.inr v) :: st) g μ Q := Wp_nx k101_0 rfl
theorem k101_1 : mCode 101 1 = some (.getfield 7, 3) := by decide +kernel
theorem x101_1 {E : ME} {ls : MLs} {st : List MV} {g : MG} {μ : MU} {Q : Option MV → MG → MU → Prop} {a : Nat} : Wp E 101 1 ls (.inr (.inr (.inl a)) :: st) g μ Q = ((mKd g a).1 = 6 ∧ Wp E 101 4 ls (mRv (mRf g a 1) :: st) g μ Q) := Wp_getR k101_1 f6_7 (by decide) (by decide)
theorem k101_4 : mCode 101 4 = some (.bipush 7, 2) := by decide +kernel
theorem x101_4 {E : ME} {ls : MLs} {st : List MV} {g : MG} {μ : MU} {Q : Option MV → MG → MU → Prop} : Wp E 101 4 ls st g μ Q = Wp E 101 6 ls (.inl 7 :: st) g μ Q := Wp_nx k101_4 rfl
theorem k101_6 : mCode 101 6 = some (.iconst 4, 1) := by decide +kernel
theorem x101_6 {E : ME} {ls : MLs} {st : List MV} {g : MG} {μ : MU} {Q : Option MV → MG → MU → Prop} : Wp E 101 6 ls st g μ Q = Wp E 101 7 ls (.inl 4 :: st) g μ Q := Wp_nx k101_6 rfl
theorem k101_7 : mCode 101 7 = some (.iload_n 1, 1) := by decide +kernel
theorem x101_7 {E : ME} {ls : MLs} {st : List MV} {g : MG} {μ : MU} {Q : Option MV → MG → MU → Prop} {l0 : Option MV} {v : Int} : Wp E 101 7 (l0 :: some (.inl v) :: ls) st g μ Q = Wp E 101 8 (l0 :: some (.inl v) :: ls) (.inl v :: st) g μ Q := Wp_nx k101_7 rfl
theorem k101_8 : mCode 101 8 = some (.imul, 1) := by decide +kernel
theorem x101_8 {E : ME} {ls : MLs} {st : List MV} {g : MG} {μ : MU} {Q : Option MV → MG → MU → Prop} {a b : Int} : Wp E 101 8 ls (.inl b :: .inl a :: st) g μ Q = Wp E 101 9 ls (.inl (mWr (a * b)) :: st) g μ Q := Wp_nx k101_8 rfl
theorem k101_9 : mCode 101 9 = some (.iadd, 1) := by decide +kernel
theorem x101_9 {E : ME} {ls : MLs} {st : List MV} {g : MG} {μ : MU} {Q : Option MV → MG → MU → Prop} {a b : Int} : Wp E 101 9 ls (.inl b :: .inl a :: st) g μ Q = Wp E 101 10 ls (.inl (mWr (a + b)) :: st) g μ Q := Wp_nx k101_9 rfl
theorem k101_10 : mCode 101 10 = some (.iload_n 2, 1) := by decide +kernel
theorem x101_10 {E : ME} {ls : MLs} {st : List MV} {g : MG} {μ : MU} {Q : Option MV → MG → MU → Prop} {l0 l1 : Option MV} {v : Int} : Wp E 101 10 (l0 :: l1 :: some (.inl v) :: ls) st g μ Q = Wp E 101 11 (l0 :: l1 :: some (.inl v) :: ls) (.inl v :: st) g μ Q := Wp_nx k101_10 rfl
theorem k101_11 : mCode 101 11 = some (.iadd, 1) := by decide +kernel
theorem x101_11 {E : ME} {ls : MLs} {st : List MV} {g : MG} {μ : MU} {Q : Option MV → MG → MU → Prop} {a b : Int} : Wp E 101 11 ls (.inl b :: .inl a :: st) g μ Q = Wp E 101 12 ls (.inl (mWr (a + b)) :: st) g μ Q := Wp_nx k101_11 rfl
theorem k101_12 : mCode 101 12 = some (.iaload, 1) := by decide +kernel
theorem x101_12 {E : ME} {ls : MLs} {st : List MV} {g : MG} {μ : MU} {Q : Option MV → MG → MU → Prop} {a : Nat} {j : Int} : Wp E 101 12 ls (.inl j :: .inr (.inr (.inl a)) :: st) g μ Q = (((mKd g a).1 = 10 ∧ 0 ≤ j ∧ j < (mKd g a).2) ∧ Wp E 101 13 ls (.inl (μ a j.toNat) :: st) g μ Q) := Wp_ald k101_12 (fun _ => rfl)
theorem k101_13 : mCode 101 13 = some (.istore 4, 2) := by decide +kernel
theorem x101_13 {E : ME} {ls : MLs} {st : List MV} {g : MG} {μ : MU} {Q : Option MV → MG → MU → Prop} {l0 l1 l2 l3 : Option MV} {lk : Option MV} {v : Int} : Wp E 101 13 (l0 :: l1 :: l2 :: l3 :: lk :: ls) (.inl v :: st) g μ Q = ((mNl (some l3) = true ∧ mNl (some lk) = true) ∧ Wp E 101 15 (l0 :: l1 :: l2 :: l3 :: some (.inl v) :: ls) st g μ Q) := Wp_sti k101_13 (fun _ => rfl) rfl rfl rfl
theorem k101_15 : mCode 101 15 = some (.aload_n 0, 1) := by decide +kernel
theorem x101_15 {E : ME} {ls : MLs} {st : List MV} {g : MG} {μ : MU} {Q : Option MV → MG → MU → Prop} {v : Nat ⊕ Nat} : Wp E 101 15 (some (.inr (.inr v)) :: ls) st g μ Q = Wp E 101 16 (some (.inr (.inr v)) :: ls) (.inr (.inr v) :: st) g μ Q := Wp_nx k101_15 rfl
theorem k101_16 : mCode 101 16 = some (.getfield 7, 3) := by decide +kernel
theorem x101_16 {E : ME} {ls : MLs} {st : List MV} {g : MG} {μ : MU} {Q : Option MV → MG → MU → Prop} {a : Nat} : Wp E 101 16 ls (.inr (.inr (.inl a)) :: st) g μ Q = ((mKd g a).1 = 6 ∧ Wp E 101 19 ls (mRv (mRf g a 1) :: st) g μ Q) := Wp_getR k101_16 f6_7 (by decide) (by decide)
theorem k101_19 : mCode 101 19 = some (.bipush 7, 2) := by decide +kernel
theorem x101_19 {E : ME} {ls : MLs} {st : List MV} {g : MG} {μ : MU} {Q : Option MV → MG → MU → Prop} : Wp E 101 19 ls st g μ Q = Wp E 101 21 ls (.inl 7 :: st) g μ Q := Wp_nx k101_19 rfl
theorem k101_21 : mCode 101 21 = some (.iconst 4, 1) := by decide +kernel
theorem x101_21 {E : ME} {ls : MLs} {st : List MV} {g : MG} {μ : MU} {Q : Option MV → MG → MU → Prop} : Wp E 101 21 ls st g μ Q = Wp E 101 22 ls (.inl 4 :: st) g μ Q := Wp_nx k101_21 rfl
theorem k101_22 : mCode 101 22 = some (.iload_n 1, 1) := by decide +kernel
theorem x101_22 {E : ME} {ls : MLs} {st : List MV} {g : MG} {μ : MU} {Q : Option MV → MG → MU → Prop} {l0 : Option MV} {v : Int} : Wp E 101 22 (l0 :: some (.inl v) :: ls) st g μ Q = Wp E 101 23 (l0 :: some (.inl v) :: ls) (.inl v :: st) g μ Q := Wp_nx k101_22 rfl
theorem k101_23 : mCode 101 23 = some (.imul, 1) := by decide +kernel
theorem x101_23 {E : ME} {ls : MLs} {st : List MV} {g : MG} {μ : MU} {Q : Option MV → MG → MU → Prop} {a b : Int} : Wp E 101 23 ls (.inl b :: .inl a :: st) g μ Q = Wp E 101 24 ls (.inl (mWr (a * b)) :: st) g μ Q := Wp_nx k101_23 rfl
theorem k101_24 : mCode 101 24 = some (.iadd, 1) := by decide +kernel
theorem x101_24 {E : ME} {ls : MLs} {st : List MV} {g : MG} {μ : MU} {Q : Option MV → MG → MU → Prop} {a b : Int} : Wp E 101 24 ls (.inl b :: .inl a :: st) g μ Q = Wp E 101 25 ls (.inl (mWr (a + b)) :: st) g μ Q := Wp_nx k101_24 rfl
theorem k101_25 : mCode 101 25 = some (.iload_n 2, 1) := by decide +kernel
theorem x101_25 {E : ME} {ls : MLs} {st : List MV} {g : MG} {μ : MU} {Q : Option MV → MG → MU → Prop} {l0 l1 : Option MV} {v : Int} : Wp E 101 25 (l0 :: l1 :: some (.inl v) :: ls) st g μ Q = Wp E 101 26 (l0 :: l1 :: some (.inl v) :: ls) (.inl v :: st) g μ Q := Wp_nx k101_25 rfl
theorem k101_26 : mCode 101 26 = some (.iadd, 1) := by decide +kernel
theorem x101_26 {E : ME} {ls : MLs} {st : List MV} {g : MG} {μ : MU} {Q : Option MV → MG → MU → Prop} {a b : Int} : Wp E 101 26 ls (.inl b :: .inl a :: st) g μ Q = Wp E 101 27 ls (.inl (mWr (a + b)) :: st) g μ Q := Wp_nx k101_26 rfl
theorem k101_27 : mCode 101 27 = some (.iload_n 3, 1) := by decide +kernel
theorem x101_27 {E : ME} {ls : MLs} {st : List MV} {g : MG} {μ : MU} {Q : Option MV → MG → MU → Prop} {l0 l1 l2 : Option MV} {v : Int} : Wp E 101 27 (l0 :: l1 :: l2 :: some (.inl v) :: ls) st g μ Q = Wp E 101 28 (l0 :: l1 :: l2 :: some (.inl v) :: ls) (.inl v :: st) g μ Q := Wp_nx k101_27 rfl
theorem k101_28 : mCode 101 28 = some (.iastore, 1) := by decide +kernel
theorem x101_28 {E : ME} {ls : MLs} {st : List MV} {g : MG} {μ : MU} {Q : Option MV → MG → MU → Prop} {a : Nat} {j v : Int} : Wp E 101 28 ls (.inl v :: .inl j :: .inr (.inr (.inl a)) :: st) g μ Q = (((mKd g a).1 = 10 ∧ 0 ≤ j ∧ j < (mKd g a).2) ∧ Wp E 101 29 ls st g (mUp μ a j.toNat v) Q) := Wp_iast k101_28
theorem k101_29 : mCode 101 29 = some (.aload_n 0, 1) := by decide +kernel
theorem x101_29 {E : ME} {ls : MLs} {st : List MV} {g : MG} {μ : MU} {Q : Option MV → MG → MU → Prop} {v : Nat ⊕ Nat} : Wp E 101 29 (some (.inr (.inr v)) :: ls) st g μ Q = Wp E 101 30 (some (.inr (.inr v)) :: ls) (.inr (.inr v) :: st) g μ Q := Wp_nx k101_29 rfl
theorem k101_30 : mCode 101 30 = some (.getfield 7, 3) := by decide +kernel
theorem x101_30 {E : ME} {ls : MLs} {st : List MV} {g : MG} {μ : MU} {Q : Option MV → MG → MU → Prop} {a : Nat} : Wp E 101 30 ls (.inr (.inr (.inl a)) :: st) g μ Q = ((mKd g a).1 = 6 ∧ Wp E 101 33 ls (mRv (mRf g a 1) :: st) g μ Q) := Wp_getR k101_30 f6_7 (by decide) (by decide)
theorem k101_33 : mCode 101 33 = some (.bipush 7, 2) := by decide +kernel
theorem x101_33 {E : ME} {ls : MLs} {st : List MV} {g : MG} {μ : MU} {Q : Option MV → MG → MU → Prop} : Wp E 101 33 ls st g μ Q = Wp E 101 35 ls (.inl 7 :: st) g μ Q := Wp_nx k101_33 rfl
theorem k101_35 : mCode 101 35 = some (.iconst 4, 1) := by decide +kernel
theorem x101_35 {E : ME} {ls : MLs} {st : List MV} {g : MG} {μ : MU} {Q : Option MV → MG → MU → Prop} : Wp E 101 35 ls st g μ Q = Wp E 101 36 ls (.inl 4 :: st) g μ Q := Wp_nx k101_35 rfl
theorem k101_36 : mCode 101 36 = some (.iload_n 2, 1) := by decide +kernel
theorem x101_36 {E : ME} {ls : MLs} {st : List MV} {g : MG} {μ : MU} {Q : Option MV → MG → MU → Prop} {l0 l1 : Option MV} {v : Int} : Wp E 101 36 (l0 :: l1 :: some (.inl v) :: ls) st g μ Q = Wp E 101 37 (l0 :: l1 :: some (.inl v) :: ls) (.inl v :: st) g μ Q := Wp_nx k101_36 rfl
theorem k101_37 : mCode 101 37 = some (.imul, 1) := by decide +kernel
theorem x101_37 {E : ME} {ls : MLs} {st : List MV} {g : MG} {μ : MU} {Q : Option MV → MG → MU → Prop} {a b : Int} : Wp E 101 37 ls (.inl b :: .inl a :: st) g μ Q = Wp E 101 38 ls (.inl (mWr (a * b)) :: st) g μ Q := Wp_nx k101_37 rfl
theorem k101_38 : mCode 101 38 = some (.iadd, 1) := by decide +kernel
theorem x101_38 {E : ME} {ls : MLs} {st : List MV} {g : MG} {μ : MU} {Q : Option MV → MG → MU → Prop} {a b : Int} : Wp E 101 38 ls (.inl b :: .inl a :: st) g μ Q = Wp E 101 39 ls (.inl (mWr (a + b)) :: st) g μ Q := Wp_nx k101_38 rfl
theorem k101_39 : mCode 101 39 = some (.iload_n 1, 1) := by decide +kernel
theorem x101_39 {E : ME} {ls : MLs} {st : List MV} {g : MG} {μ : MU} {Q : Option MV → MG → MU → Prop} {l0 : Option MV} {v : Int} : Wp E 101 39 (l0 :: some (.inl v) :: ls) st g μ Q = Wp E 101 40 (l0 :: some (.inl v) :: ls) (.inl v :: st) g μ Q := Wp_nx k101_39 rfl
theorem k101_40 : mCode 101 40 = some (.iadd, 1) := by decide +kernel
theorem x101_40 {E : ME} {ls : MLs} {st : List MV} {g : MG} {μ : MU} {Q : Option MV → MG → MU → Prop} {a b : Int} : Wp E 101 40 ls (.inl b :: .inl a :: st) g μ Q = Wp E 101 41 ls (.inl (mWr (a + b)) :: st) g μ Q := Wp_nx k101_40 rfl
theorem k101_41 : mCode 101 41 = some (.iload_n 3, 1) := by decide +kernel
theorem x101_41 {E : ME} {ls : MLs} {st : List MV} {g : MG} {μ : MU} {Q : Option MV → MG → MU → Prop} {l0 l1 l2 : Option MV} {v : Int} : Wp E 101 41 (l0 :: l1 :: l2 :: some (.inl v) :: ls) st g μ Q = Wp E 101 42 (l0 :: l1 :: l2 :: some (.inl v) :: ls) (.inl v :: st) g μ Q := Wp_nx k101_41 rfl
theorem k101_42 : mCode 101 42 = some (.iastore, 1) := by decide +kernel
theorem x101_42 {E : ME} {ls : MLs} {st : List MV} {g : MG} {μ : MU} {Q : Option MV → MG → MU → Prop} {a : Nat} {j v : Int} : Wp E 101 42 ls (.inl v :: .inl j :: .inr (.inr (.inl a)) :: st) g μ Q = (((mKd g a).1 = 10 ∧ 0 ≤ j ∧ j < (mKd g a).2) ∧ Wp E 101 43 ls st g (mUp μ a j.toNat v) Q) := Wp_iast k101_42
theorem k101_43 : mCode 101 43 = some (.iload 4, 2) := by decide +kernel
theorem x101_43 {E : ME} {ls : MLs} {st : List MV} {g : MG} {μ : MU} {Q : Option MV → MG → MU → Prop} {l0 l1 l2 l3 : Option MV} {v : Int} : Wp E 101 43 (l0 :: l1 :: l2 :: l3 :: some (.inl v) :: ls) st g μ Q = Wp E 101 45 (l0 :: l1 :: l2 :: l3 :: some (.inl v) :: ls) (.inl v :: st) g μ Q := Wp_nx k101_43 rfl
theorem k101_45 : mCode 101 45 = some (.ireturn, 1) := by decide +kernel
theorem x101_45 {E : ME} {ls : MLs} {g : MG} {μ : MU} {Q : Option MV → MG → MU → Prop} {v : Int} : Wp E 101 45 ls [.inl v] g μ Q = Q (some (.inl v)) g μ := Wp_retI k101_45 (by decide)
theorem k102_0 : mCode 102 0 = some (.aload_n 0, 1) := by decide +kernel
theorem x102_0 {E : ME} {ls : MLs} {st : List MV} {g : MG} {μ : MU} {Q : Option MV → MG → MU → Prop} {v : Nat ⊕ Nat} : Wp E 102 0 (some (.inr (.inr v)) :: ls) st g μ Q = Wp E 102 1 (some (.inr (.inr v)) :: ls) (.inr (.inr v) :: st) g μ Q := Wp_nx k102_0 rfl
theorem k102_1 : mCode 102 1 = some (.iconst 0, 1) := by decide +kernel
theorem x102_1 {E : ME} {ls : MLs} {st : List MV} {g : MG} {μ : MU} {Q : Option MV → MG → MU → Prop} : Wp E 102 1 ls st g μ Q = Wp E 102 2 ls (.inl 0 :: st) g μ Q := Wp_nx k102_1 rfl
theorem k102_2 : mCode 102 2 = some (.putfield 65, 3) := by decide +kernel
theorem x102_2 {E : ME} {ls : MLs} {st : List MV} {g : MG} {μ : MU} {Q : Option MV → MG → MU → Prop} {a : Nat} {v : Int} : Wp E 102 2 ls (.inl v :: .inr (.inr (.inl a)) :: st) g μ Q = ((mKd g a).1 = 6 ∧ Wp E 102 5 ls st g (mUp μ a 0 v) Q) := Wp_putI0 k102_2 f6_65 (by decide) (by decide)
theorem k102_5 : mCode 102 5 = some (.iload_n 1, 1) := by decide +kernel
theorem x102_5 {E : ME} {ls : MLs} {st : List MV} {g : MG} {μ : MU} {Q : Option MV → MG → MU → Prop} {l0 : Option MV} {v : Int} : Wp E 102 5 (l0 :: some (.inl v) :: ls) st g μ Q = Wp E 102 6 (l0 :: some (.inl v) :: ls) (.inl v :: st) g μ Q := Wp_nx k102_5 rfl
theorem k102_6 : mCode 102 6 = some (.iload_n 2, 1) := by decide +kernel
theorem x102_6 {E : ME} {ls : MLs} {st : List MV} {g : MG} {μ : MU} {Q : Option MV → MG → MU → Prop} {l0 l1 : Option MV} {v : Int} : Wp E 102 6 (l0 :: l1 :: some (.inl v) :: ls) st g μ Q = Wp E 102 7 (l0 :: l1 :: some (.inl v) :: ls) (.inl v :: st) g μ Q := Wp_nx k102_6 rfl
theorem k102_7 : mCode 102 7 = some (.iload_n 3, 1) := by decide +kernel
theorem x102_7 {E : ME} {ls : MLs} {st : List MV} {g : MG} {μ : MU} {Q : Option MV → MG → MU → Prop} {l0 l1 l2 : Option MV} {v : Int} : Wp E 102 7 (l0 :: l1 :: l2 :: some (.inl v) :: ls) st g μ Q = Wp E 102 8 (l0 :: l1 :: l2 :: some (.inl v) :: ls) (.inl v :: st) g μ Q := Wp_nx k102_7 rfl
theorem k102_8 : mCode 102 8 = some (.invokestatic 133, 3) := by decide +kernel
theorem x102_8 {E : ME} {ls : MLs} {st : List MV} {g : MG} {μ : MU} {Q : Option MV → MG → MU → Prop} {a0 : Int} {a1 : Int} {a2 : Int} : Wp E 102 8 ls (.inl a2 :: .inl a1 :: .inl a0 :: st) g μ Q = (st.length ≤ 4 ∧ Wp E 100 0 [some (.inl a0), some (.inl a1), some (.inl a2)] [] g μ (fun r g' μ' => (g'.1 = g.1 ∧ g'.2.1 = g.2.1) ∧ Wp E 102 11 ls (mPush r st) g' μ' Q)) := Wp_cS k102_8 m6_133 (by decide) (as := [.inl a0, .inl a1, .inl a2]) rfl rfl rfl ⟨Nat.le_of_ble_eq_true rfl, by decide⟩
theorem k102_11 : mCode 102 11 = some (.istore 4, 2) := by decide +kernel
theorem x102_11 {E : ME} {ls : MLs} {st : List MV} {g : MG} {μ : MU} {Q : Option MV → MG → MU → Prop} {l0 l1 l2 l3 : Option MV} {lk : Option MV} {v : Int} : Wp E 102 11 (l0 :: l1 :: l2 :: l3 :: lk :: ls) (.inl v :: st) g μ Q = ((mNl (some l3) = true ∧ mNl (some lk) = true) ∧ Wp E 102 13 (l0 :: l1 :: l2 :: l3 :: some (.inl v) :: ls) st g μ Q) := Wp_sti k102_11 (fun _ => rfl) rfl rfl rfl
theorem k102_13 : mCode 102 13 = some (.iload 4, 2) := by decide +kernel
theorem x102_13 {E : ME} {ls : MLs} {st : List MV} {g : MG} {μ : MU} {Q : Option MV → MG → MU → Prop} {l0 l1 l2 l3 : Option MV} {v : Int} : Wp E 102 13 (l0 :: l1 :: l2 :: l3 :: some (.inl v) :: ls) st g μ Q = Wp E 102 15 (l0 :: l1 :: l2 :: l3 :: some (.inl v) :: ls) (.inl v :: st) g μ Q := Wp_nx k102_13 rfl
theorem k102_15 : mCode 102 15 = some (.ifCond .eq 6, 3) := by decide +kernel
theorem x102_15 {E : ME} {ls : MLs} {st : List MV} {g : MG} {μ : MU} {Q : Option MV → MG → MU → Prop} {a : Int} : Wp E 102 15 ls (.inl a :: st) g μ Q = ((a = 0 → Wp E 102 21 ls st g μ Q) ∧ (¬ a = 0 → Wp E 102 18 ls st g μ Q)) := Wp_if_eq k102_15 (by decide)
theorem k102_18 : mCode 102 18 = some (.iload 4, 2) := by decide +kernel
theorem x102_18 {E : ME} {ls : MLs} {st : List MV} {g : MG} {μ : MU} {Q : Option MV → MG → MU → Prop} {l0 l1 l2 l3 : Option MV} {v : Int} : Wp E 102 18 (l0 :: l1 :: l2 :: l3 :: some (.inl v) :: ls) st g μ Q = Wp E 102 20 (l0 :: l1 :: l2 :: l3 :: some (.inl v) :: ls) (.inl v :: st) g μ Q := Wp_nx k102_18 rfl
theorem k102_20 : mCode 102 20 = some (.ireturn, 1) := by decide +kernel
theorem x102_20 {E : ME} {ls : MLs} {g : MG} {μ : MU} {Q : Option MV → MG → MU → Prop} {v : Int} : Wp E 102 20 ls [.inl v] g μ Q = Q (some (.inl v)) g μ := Wp_retI k102_20 (by decide)
theorem k102_21 : mCode 102 21 = some (.aload_n 0, 1) := by decide +kernel
theorem x102_21 {E : ME} {ls : MLs} {st : List MV} {g : MG} {μ : MU} {Q : Option MV → MG → MU → Prop} {v : Nat ⊕ Nat} : Wp E 102 21 (some (.inr (.inr v)) :: ls) st g μ Q = Wp E 102 22 (some (.inr (.inr v)) :: ls) (.inr (.inr v) :: st) g μ Q := Wp_nx k102_21 rfl
theorem k102_22 : mCode 102 22 = some (.invokevirtual 121, 3) := by decide +kernel
theorem x102_22 {E : ME} {ls : MLs} {st : List MV} {g : MG} {μ : MU} {Q : Option MV → MG → MU → Prop} {r : Nat} : Wp E 102 22 ls (.inr (.inr (.inl r)) :: st) g μ Q = ((st.length ≤ 4 ∧ ((mKd g r).1 == 6) = true) ∧ Wp E 84 0 [some (.inr (.inr (.inl r))), none] [] g μ (fun r g' μ' => (g'.1 = g.1 ∧ g'.2.1 = g.2.1) ∧ Wp E 102 25 ls (mPush r st) g' μ' Q)) := Wp_cV k102_22 m6_121 (by decide) (as := [.inr (.inr (.inl r))]) rfl rfl rfl ⟨Nat.le_of_ble_eq_true rfl, by decide⟩
theorem k102_25 : mCode 102 25 = some (.aload_n 0, 1) := by decide +kernel
theorem x102_25 {E : ME} {ls : MLs} {st : List MV} {g : MG} {μ : MU} {Q : Option MV → MG → MU → Prop} {v : Nat ⊕ Nat} : Wp E 102 25 (some (.inr (.inr v)) :: ls) st g μ Q = Wp E 102 26 (some (.inr (.inr v)) :: ls) (.inr (.inr v) :: st) g μ Q := Wp_nx k102_25 rfl
theorem k102_26 : mCode 102 26 = some (.iload_n 1, 1) := by decide +kernel
theorem x102_26 {E : ME} {ls : MLs} {st : List MV} {g : MG} {μ : MU} {Q : Option MV → MG → MU → Prop} {l0 : Option MV} {v : Int} : Wp E 102 26 (l0 :: some (.inl v) :: ls) st g μ Q = Wp E 102 27 (l0 :: some (.inl v) :: ls) (.inl v :: st) g μ Q := Wp_nx k102_26 rfl
theorem k102_27 : mCode 102 27 = some (.iload_n 2, 1) := by decide +kernel
theorem x102_27 {E : ME} {ls : MLs} {st : List MV} {g : MG} {μ : MU} {Q : Option MV → MG → MU → Prop} {l0 l1 : Option MV} {v : Int} : Wp E 102 27 (l0 :: l1 :: some (.inl v) :: ls) st g μ Q = Wp E 102 28 (l0 :: l1 :: some (.inl v) :: ls) (.inl v :: st) g μ Q := Wp_nx k102_27 rfl
theorem k102_28 : mCode 102 28 = some (.iload_n 3, 1) := by decide +kernel
theorem x102_28 {E : ME} {ls : MLs} {st : List MV} {g : MG} {μ : MU} {Q : Option MV → MG → MU → Prop} {l0 l1 l2 : Option MV} {v : Int} : Wp E 102 28 (l0 :: l1 :: l2 :: some (.inl v) :: ls) st g μ Q = Wp E 102 29 (l0 :: l1 :: l2 :: some (.inl v) :: ls) (.inl v :: st) g μ Q := Wp_nx k102_28 rfl
theorem k102_29 : mCode 102 29 = some (.invokevirtual 136, 3) := by decide +kernel
theorem x102_29 {E : ME} {ls : MLs} {st : List MV} {g : MG} {μ : MU} {Q : Option MV → MG → MU → Prop} {r : Nat} {a0 : Int} {a1 : Int} {a2 : Int} : Wp E 102 29 ls (.inl a2 :: .inl a1 :: .inl a0 :: .inr (.inr (.inl r)) :: st) g μ Q = ((st.length ≤ 4 ∧ ((mKd g r).1 == 6) = true) ∧ Wp E 101 0 [some (.inr (.inr (.inl r))), some (.inl a0), some (.inl a1), some (.inl a2), none] [] g μ (fun r g' μ' => (g'.1 = g.1 ∧ g'.2.1 = g.2.1) ∧ Wp E 102 32 ls (mPush r st) g' μ' Q)) := Wp_cV k102_29 m6_136 (by decide) (as := [.inr (.inr (.inl r)), .inl a0, .inl a1, .inl a2]) rfl rfl rfl ⟨Nat.le_of_ble_eq_true rfl, by decide⟩
theorem k102_32 : mCode 102 32 = some (.ireturn, 1) := by decide +kernel
theorem x102_32 {E : ME} {ls : MLs} {g : MG} {μ : MU} {Q : Option MV → MG → MU → Prop} {v : Int} : Wp E 102 32 ls [.inl v] g μ Q = Q (some (.inl v)) g μ := Wp_retI k102_32 (by decide)
theorem k103_0 : mCode 103 0 = some (.aload_n 0, 1) := by decide +kernel
theorem x103_0 {E : ME} {ls : MLs} {st : List MV} {g : MG} {μ : MU} {Q : Option MV → MG → MU → Prop} {v : Nat ⊕ Nat} : Wp E 103 0 (some (.inr (.inr v)) :: ls) st g μ Q = Wp E 103 1 (some (.inr (.inr v)) :: ls) (.inr (.inr v) :: st) g μ Q := Wp_nx k103_0 rfl
theorem k103_1 : mCode 103 1 = some (.iload_n 1, 1) := by decide +kernel
theorem x103_1 {E : ME} {ls : MLs} {st : List MV} {g : MG} {μ : MU} {Q : Option MV → MG → MU → Prop} {l0 : Option MV} {v : Int} : Wp E 103 1 (l0 :: some (.inl v) :: ls) st g μ Q = Wp E 103 2 (l0 :: some (.inl v) :: ls) (.inl v :: st) g μ Q := Wp_nx k103_1 rfl
theorem k103_2 : mCode 103 2 = some (.invokevirtual 73, 3) := by decide +kernel
theorem x103_2 {E : ME} {ls : MLs} {st : List MV} {g : MG} {μ : MU} {Q : Option MV → MG → MU → Prop} {r : Nat} {a0 : Int} : Wp E 103 2 ls (.inl a0 :: .inr (.inr (.inl r)) :: st) g μ Q = ((st.length ≤ 4 ∧ ((mKd g r).1 == 6) = true) ∧ Wp E 80 0 [some (.inr (.inr (.inl r))), some (.inl a0)] [] g μ (fun r g' μ' => (g'.1 = g.1 ∧ g'.2.1 = g.2.1) ∧ Wp E 103 5 ls (mPush r st) g' μ' Q)) := Wp_cV k103_2 m6_73 (by decide) (as := [.inr (.inr (.inl r)), .inl a0]) rfl rfl rfl ⟨Nat.le_of_ble_eq_true rfl, by decide⟩
theorem k103_5 : mCode 103 5 = some (.ifCond .eq 10, 3) := by decide +kernel
theorem x103_5 {E : ME} {ls : MLs} {st : List MV} {g : MG} {μ : MU} {Q : Option MV → MG → MU → Prop} {a : Int} : Wp E 103 5 ls (.inl a :: st) g μ Q = ((a = 0 → Wp E 103 15 ls st g μ Q) ∧ (¬ a = 0 → Wp E 103 8 ls st g μ Q)) := Wp_if_eq k103_5 (by decide)
theorem k103_8 : mCode 103 8 = some (.iload_n 2, 1) := by decide +kernel
theorem x103_8 {E : ME} {ls : MLs} {st : List MV} {g : MG} {μ : MU} {Q : Option MV → MG → MU → Prop} {l0 l1 : Option MV} {v : Int} : Wp E 103 8 (l0 :: l1 :: some (.inl v) :: ls) st g μ Q = Wp E 103 9 (l0 :: l1 :: some (.inl v) :: ls) (.inl v :: st) g μ Q := Wp_nx k103_8 rfl
theorem k103_9 : mCode 103 9 = some (.invokestatic 124, 3) := by decide +kernel
theorem x103_9 {E : ME} {ls : MLs} {st : List MV} {g : MG} {μ : MU} {Q : Option MV → MG → MU → Prop} {a0 : Int} : Wp E 103 9 ls (.inl a0 :: st) g μ Q = (st.length ≤ 4 ∧ Wp E 82 0 [some (.inl a0)] [] g μ (fun r g' μ' => (g'.1 = g.1 ∧ g'.2.1 = g.2.1) ∧ Wp E 103 12 ls (mPush r st) g' μ' Q)) := Wp_cS k103_9 m6_124 (by decide) (as := [.inl a0]) rfl rfl rfl ⟨Nat.le_of_ble_eq_true rfl, by decide⟩
theorem k103_12 : mCode 103 12 = some (.ifCond .ne 5, 3) := by decide +kernel
theorem x103_12 {E : ME} {ls : MLs} {st : List MV} {g : MG} {μ : MU} {Q : Option MV → MG → MU → Prop} {a : Int} : Wp E 103 12 ls (.inl a :: st) g μ Q = ((¬ a = 0 → Wp E 103 17 ls st g μ Q) ∧ (a = 0 → Wp E 103 15 ls st g μ Q)) := Wp_if_ne k103_12 (by decide)
theorem k103_15 : mCode 103 15 = some (.iconst (-1), 1) := by decide +kernel
theorem x103_15 {E : ME} {ls : MLs} {st : List MV} {g : MG} {μ : MU} {Q : Option MV → MG → MU → Prop} : Wp E 103 15 ls st g μ Q = Wp E 103 16 ls (.inl (-1) :: st) g μ Q := Wp_nx k103_15 rfl
theorem k103_16 : mCode 103 16 = some (.ireturn, 1) := by decide +kernel
theorem x103_16 {E : ME} {ls : MLs} {g : MG} {μ : MU} {Q : Option MV → MG → MU → Prop} {v : Int} : Wp E 103 16 ls [.inl v] g μ Q = Q (some (.inl v)) g μ := Wp_retI k103_16 (by decide)
theorem k103_17 : mCode 103 17 = some (.iload_n 3, 1) := by decide +kernel
theorem x103_17 {E : ME} {ls : MLs} {st : List MV} {g : MG} {μ : MU} {Q : Option MV → MG → MU → Prop} {l0 l1 l2 : Option MV} {v : Int} : Wp E 103 17 (l0 :: l1 :: l2 :: some (.inl v) :: ls) st g μ Q = Wp E 103 18 (l0 :: l1 :: l2 :: some (.inl v) :: ls) (.inl v :: st) g μ Q := Wp_nx k103_17 rfl
theorem k103_18 : mCode 103 18 = some (.iconst 0, 1) := by decide +kernel
theorem x103_18 {E : ME} {ls : MLs} {st : List MV} {g : MG} {μ : MU} {Q : Option MV → MG → MU → Prop} : Wp E 103 18 ls st g μ Q = Wp E 103 19 ls (.inl 0 :: st) g μ Q := Wp_nx k103_18 rfl
theorem k103_19 : mCode 103 19 = some (.sipush 1439, 3) := by decide +kernel
theorem x103_19 {E : ME} {ls : MLs} {st : List MV} {g : MG} {μ : MU} {Q : Option MV → MG → MU → Prop} : Wp E 103 19 ls st g μ Q = Wp E 103 22 ls (.inl 1439 :: st) g μ Q := Wp_nx k103_19 rfl
theorem k103_22 : mCode 103 22 = some (.invokestatic 69, 3) := by decide +kernel
theorem x103_22 {E : ME} {ls : MLs} {st : List MV} {g : MG} {μ : MU} {Q : Option MV → MG → MU → Prop} {a0 : Int} {a1 : Int} {a2 : Int} : Wp E 103 22 ls (.inl a2 :: .inl a1 :: .inl a0 :: st) g μ Q = (st.length ≤ 4 ∧ Wp E 77 0 [some (.inl a0), some (.inl a1), some (.inl a2)] [] g μ (fun r g' μ' => (g'.1 = g.1 ∧ g'.2.1 = g.2.1) ∧ Wp E 103 25 ls (mPush r st) g' μ' Q)) := Wp_cS k103_22 m6_69 (by decide) (as := [.inl a0, .inl a1, .inl a2]) rfl rfl rfl ⟨Nat.le_of_ble_eq_true rfl, by decide⟩
theorem k103_25 : mCode 103 25 = some (.ifCond .eq 15, 3) := by decide +kernel
theorem x103_25 {E : ME} {ls : MLs} {st : List MV} {g : MG} {μ : MU} {Q : Option MV → MG → MU → Prop} {a : Int} : Wp E 103 25 ls (.inl a :: st) g μ Q = ((a = 0 → Wp E 103 40 ls st g μ Q) ∧ (¬ a = 0 → Wp E 103 28 ls st g μ Q)) := Wp_if_eq k103_25 (by decide)
theorem k103_28 : mCode 103 28 = some (.iload 4, 2) := by decide +kernel
theorem x103_28 {E : ME} {ls : MLs} {st : List MV} {g : MG} {μ : MU} {Q : Option MV → MG → MU → Prop} {l0 l1 l2 l3 : Option MV} {v : Int} : Wp E 103 28 (l0 :: l1 :: l2 :: l3 :: some (.inl v) :: ls) st g μ Q = Wp E 103 30 (l0 :: l1 :: l2 :: l3 :: some (.inl v) :: ls) (.inl v :: st) g μ Q := Wp_nx k103_28 rfl
theorem k103_30 : mCode 103 30 = some (.iconst 0, 1) := by decide +kernel
theorem x103_30 {E : ME} {ls : MLs} {st : List MV} {g : MG} {μ : MU} {Q : Option MV → MG → MU → Prop} : Wp E 103 30 ls st g μ Q = Wp E 103 31 ls (.inl 0 :: st) g μ Q := Wp_nx k103_30 rfl
theorem k103_31 : mCode 103 31 = some (.sipush 999, 3) := by decide +kernel
theorem x103_31 {E : ME} {ls : MLs} {st : List MV} {g : MG} {μ : MU} {Q : Option MV → MG → MU → Prop} : Wp E 103 31 ls st g μ Q = Wp E 103 34 ls (.inl 999 :: st) g μ Q := Wp_nx k103_31 rfl
theorem k103_34 : mCode 103 34 = some (.invokestatic 69, 3) := by decide +kernel
theorem x103_34 {E : ME} {ls : MLs} {st : List MV} {g : MG} {μ : MU} {Q : Option MV → MG → MU → Prop} {a0 : Int} {a1 : Int} {a2 : Int} : Wp E 103 34 ls (.inl a2 :: .inl a1 :: .inl a0 :: st) g μ Q = (st.length ≤ 4 ∧ Wp E 77 0 [some (.inl a0), some (.inl a1), some (.inl a2)] [] g μ (fun r g' μ' => (g'.1 = g.1 ∧ g'.2.1 = g.2.1) ∧ Wp E 103 37 ls (mPush r st) g' μ' Q)) := Wp_cS k103_34 m6_69 (by decide) (as := [.inl a0, .inl a1, .inl a2]) rfl rfl rfl ⟨Nat.le_of_ble_eq_true rfl, by decide⟩
theorem k103_37 : mCode 103 37 = some (.ifCond .ne 6, 3) := by decide +kernel
theorem x103_37 {E : ME} {ls : MLs} {st : List MV} {g : MG} {μ : MU} {Q : Option MV → MG → MU → Prop} {a : Int} : Wp E 103 37 ls (.inl a :: st) g μ Q = ((¬ a = 0 → Wp E 103 43 ls st g μ Q) ∧ (a = 0 → Wp E 103 40 ls st g μ Q)) := Wp_if_ne k103_37 (by decide)
theorem k103_40 : mCode 103 40 = some (.bipush (-2), 2) := by decide +kernel
theorem x103_40 {E : ME} {ls : MLs} {st : List MV} {g : MG} {μ : MU} {Q : Option MV → MG → MU → Prop} : Wp E 103 40 ls st g μ Q = Wp E 103 42 ls (.inl (-2) :: st) g μ Q := Wp_nx k103_40 rfl
theorem k103_42 : mCode 103 42 = some (.ireturn, 1) := by decide +kernel
theorem x103_42 {E : ME} {ls : MLs} {g : MG} {μ : MU} {Q : Option MV → MG → MU → Prop} {v : Int} : Wp E 103 42 ls [.inl v] g μ Q = Q (some (.inl v)) g μ := Wp_retI k103_42 (by decide)
theorem k103_43 : mCode 103 43 = some (.aload_n 0, 1) := by decide +kernel
theorem x103_43 {E : ME} {ls : MLs} {st : List MV} {g : MG} {μ : MU} {Q : Option MV → MG → MU → Prop} {v : Nat ⊕ Nat} : Wp E 103 43 (some (.inr (.inr v)) :: ls) st g μ Q = Wp E 103 44 (some (.inr (.inr v)) :: ls) (.inr (.inr v) :: st) g μ Q := Wp_nx k103_43 rfl
theorem k103_44 : mCode 103 44 = some (.getfield 7, 3) := by decide +kernel
theorem x103_44 {E : ME} {ls : MLs} {st : List MV} {g : MG} {μ : MU} {Q : Option MV → MG → MU → Prop} {a : Nat} : Wp E 103 44 ls (.inr (.inr (.inl a)) :: st) g μ Q = ((mKd g a).1 = 6 ∧ Wp E 103 47 ls (mRv (mRf g a 1) :: st) g μ Q) := Wp_getR k103_44 f6_7 (by decide) (by decide)
theorem k103_47 : mCode 103 47 = some (.bipush 6, 2) := by decide +kernel
theorem x103_47 {E : ME} {ls : MLs} {st : List MV} {g : MG} {μ : MU} {Q : Option MV → MG → MU → Prop} : Wp E 103 47 ls st g μ Q = Wp E 103 49 ls (.inl 6 :: st) g μ Q := Wp_nx k103_47 rfl
theorem k103_49 : mCode 103 49 = some (.iaload, 1) := by decide +kernel
theorem x103_49 {E : ME} {ls : MLs} {st : List MV} {g : MG} {μ : MU} {Q : Option MV → MG → MU → Prop} {a : Nat} {j : Int} : Wp E 103 49 ls (.inl j :: .inr (.inr (.inl a)) :: st) g μ Q = (((mKd g a).1 = 10 ∧ 0 ≤ j ∧ j < (mKd g a).2) ∧ Wp E 103 50 ls (.inl (μ a j.toNat) :: st) g μ Q) := Wp_ald k103_49 (fun _ => rfl)
theorem k103_50 : mCode 103 50 = some (.bipush 20, 2) := by decide +kernel
theorem x103_50 {E : ME} {ls : MLs} {st : List MV} {g : MG} {μ : MU} {Q : Option MV → MG → MU → Prop} : Wp E 103 50 ls st g μ Q = Wp E 103 52 ls (.inl 20 :: st) g μ Q := Wp_nx k103_50 rfl
theorem k103_52 : mCode 103 52 = some (.if_icmp .ne 8, 3) := by decide +kernel
theorem x103_52 {E : ME} {ls : MLs} {st : List MV} {g : MG} {μ : MU} {Q : Option MV → MG → MU → Prop} {a b : Int} : Wp E 103 52 ls (.inl b :: .inl a :: st) g μ Q = ((¬ a = b → Wp E 103 60 ls st g μ Q) ∧ (a = b → Wp E 103 55 ls st g μ Q)) := Wp_cmp_ne k103_52 (by decide)
theorem k103_55 : mCode 103 55 = some (.bipush (-4), 2) := by decide +kernel
theorem x103_55 {E : ME} {ls : MLs} {st : List MV} {g : MG} {μ : MU} {Q : Option MV → MG → MU → Prop} : Wp E 103 55 ls st g μ Q = Wp E 103 57 ls (.inl (-4) :: st) g μ Q := Wp_nx k103_55 rfl
theorem k103_57 : mCode 103 57 = some (.goto 4, 3) := by decide +kernel
theorem x103_57 {E : ME} {ls : MLs} {st : List MV} {g : MG} {μ : MU} {Q : Option MV → MG → MU → Prop} : Wp E 103 57 ls st g μ Q = Wp E 103 61 ls st g μ Q := Wp_goto k103_57 (by decide)
theorem k103_60 : mCode 103 60 = some (.iconst 0, 1) := by decide +kernel
theorem x103_60 {E : ME} {ls : MLs} {st : List MV} {g : MG} {μ : MU} {Q : Option MV → MG → MU → Prop} : Wp E 103 60 ls st g μ Q = Wp E 103 61 ls (.inl 0 :: st) g μ Q := Wp_nx k103_60 rfl
theorem k103_61 : mCode 103 61 = some (.ireturn, 1) := by decide +kernel
theorem x103_61 {E : ME} {ls : MLs} {g : MG} {μ : MU} {Q : Option MV → MG → MU → Prop} {v : Int} : Wp E 103 61 ls [.inl v] g μ Q = Q (some (.inl v)) g μ := Wp_retI k103_61 (by decide)
theorem k104_0 : mCode 104 0 = some (.bipush 68, 2) := by decide +kernel
theorem x104_0 {E : ME} {ls : MLs} {st : List MV} {g : MG} {μ : MU} {Q : Option MV → MG → MU → Prop} : Wp E 104 0 ls st g μ Q = Wp E 104 2 ls (.inl 68 :: st) g μ Q := Wp_nx k104_0 rfl
theorem k104_2 : mCode 104 2 = some (.iconst 4, 1) := by decide +kernel
theorem x104_2 {E : ME} {ls : MLs} {st : List MV} {g : MG} {μ : MU} {Q : Option MV → MG → MU → Prop} : Wp E 104 2 ls st g μ Q = Wp E 104 3 ls (.inl 4 :: st) g μ Q := Wp_nx k104_2 rfl
theorem k104_3 : mCode 104 3 = some (.aload_n 0, 1) := by decide +kernel
theorem x104_3 {E : ME} {ls : MLs} {st : List MV} {g : MG} {μ : MU} {Q : Option MV → MG → MU → Prop} {v : Nat ⊕ Nat} : Wp E 104 3 (some (.inr (.inr v)) :: ls) st g μ Q = Wp E 104 4 (some (.inr (.inr v)) :: ls) (.inr (.inr v) :: st) g μ Q := Wp_nx k104_3 rfl
theorem k104_4 : mCode 104 4 = some (.getfield 7, 3) := by decide +kernel
theorem x104_4 {E : ME} {ls : MLs} {st : List MV} {g : MG} {μ : MU} {Q : Option MV → MG → MU → Prop} {a : Nat} : Wp E 104 4 ls (.inr (.inr (.inl a)) :: st) g μ Q = ((mKd g a).1 = 6 ∧ Wp E 104 7 ls (mRv (mRf g a 1) :: st) g μ Q) := Wp_getR k104_4 f6_7 (by decide) (by decide)
theorem k104_7 : mCode 104 7 = some (.bipush 6, 2) := by decide +kernel
theorem x104_7 {E : ME} {ls : MLs} {st : List MV} {g : MG} {μ : MU} {Q : Option MV → MG → MU → Prop} : Wp E 104 7 ls st g μ Q = Wp E 104 9 ls (.inl 6 :: st) g μ Q := Wp_nx k104_7 rfl
theorem k104_9 : mCode 104 9 = some (.iaload, 1) := by decide +kernel
theorem x104_9 {E : ME} {ls : MLs} {st : List MV} {g : MG} {μ : MU} {Q : Option MV → MG → MU → Prop} {a : Nat} {j : Int} : Wp E 104 9 ls (.inl j :: .inr (.inr (.inl a)) :: st) g μ Q = (((mKd g a).1 = 10 ∧ 0 ≤ j ∧ j < (mKd g a).2) ∧ Wp E 104 10 ls (.inl (μ a j.toNat) :: st) g μ Q) := Wp_ald k104_9 (fun _ => rfl)
theorem k104_10 : mCode 104 10 = some (.imul, 1) := by decide +kernel
theorem x104_10 {E : ME} {ls : MLs} {st : List MV} {g : MG} {μ : MU} {Q : Option MV → MG → MU → Prop} {a b : Int} : Wp E 104 10 ls (.inl b :: .inl a :: st) g μ Q = Wp E 104 11 ls (.inl (mWr (a * b)) :: st) g μ Q := Wp_nx k104_10 rfl
theorem k104_11 : mCode 104 11 = some (.iadd, 1) := by decide +kernel
theorem x104_11 {E : ME} {ls : MLs} {st : List MV} {g : MG} {μ : MU} {Q : Option MV → MG → MU → Prop} {a b : Int} : Wp E 104 11 ls (.inl b :: .inl a :: st) g μ Q = Wp E 104 12 ls (.inl (mWr (a + b)) :: st) g μ Q := Wp_nx k104_11 rfl
theorem k104_12 : mCode 104 12 = some (.istore 5, 2) := by decide +kernel
theorem x104_12 {E : ME} {ls : MLs} {st : List MV} {g : MG} {μ : MU} {Q : Option MV → MG → MU → Prop} {l0 l1 l2 l3 l4 : Option MV} {lk : Option MV} {v : Int} : Wp E 104 12 (l0 :: l1 :: l2 :: l3 :: l4 :: lk :: ls) (.inl v :: st) g μ Q = ((mNl (some l4) = true ∧ mNl (some lk) = true) ∧ Wp E 104 14 (l0 :: l1 :: l2 :: l3 :: l4 :: some (.inl v) :: ls) st g μ Q) := Wp_sti k104_12 (fun _ => rfl) rfl rfl rfl
theorem k104_14 : mCode 104 14 = some (.aload_n 0, 1) := by decide +kernel
theorem x104_14 {E : ME} {ls : MLs} {st : List MV} {g : MG} {μ : MU} {Q : Option MV → MG → MU → Prop} {v : Nat ⊕ Nat} : Wp E 104 14 (some (.inr (.inr v)) :: ls) st g μ Q = Wp E 104 15 (some (.inr (.inr v)) :: ls) (.inr (.inr v) :: st) g μ Q := Wp_nx k104_14 rfl
theorem k104_15 : mCode 104 15 = some (.getfield 7, 3) := by decide +kernel
theorem x104_15 {E : ME} {ls : MLs} {st : List MV} {g : MG} {μ : MU} {Q : Option MV → MG → MU → Prop} {a : Nat} : Wp E 104 15 ls (.inr (.inr (.inl a)) :: st) g μ Q = ((mKd g a).1 = 6 ∧ Wp E 104 18 ls (mRv (mRf g a 1) :: st) g μ Q) := Wp_getR k104_15 f6_7 (by decide) (by decide)
theorem k104_18 : mCode 104 18 = some (.iload 5, 2) := by decide +kernel
theorem x104_18 {E : ME} {ls : MLs} {st : List MV} {g : MG} {μ : MU} {Q : Option MV → MG → MU → Prop} {l0 l1 l2 l3 l4 : Option MV} {v : Int} : Wp E 104 18 (l0 :: l1 :: l2 :: l3 :: l4 :: some (.inl v) :: ls) st g μ Q = Wp E 104 20 (l0 :: l1 :: l2 :: l3 :: l4 :: some (.inl v) :: ls) (.inl v :: st) g μ Q := Wp_nx k104_18 rfl
theorem k104_20 : mCode 104 20 = some (.iconst 0, 1) := by decide +kernel
theorem x104_20 {E : ME} {ls : MLs} {st : List MV} {g : MG} {μ : MU} {Q : Option MV → MG → MU → Prop} : Wp E 104 20 ls st g μ Q = Wp E 104 21 ls (.inl 0 :: st) g μ Q := Wp_nx k104_20 rfl
theorem k104_21 : mCode 104 21 = some (.iadd, 1) := by decide +kernel
theorem x104_21 {E : ME} {ls : MLs} {st : List MV} {g : MG} {μ : MU} {Q : Option MV → MG → MU → Prop} {a b : Int} : Wp E 104 21 ls (.inl b :: .inl a :: st) g μ Q = Wp E 104 22 ls (.inl (mWr (a + b)) :: st) g μ Q := Wp_nx k104_21 rfl
theorem k104_22 : mCode 104 22 = some (.iload_n 1, 1) := by decide +kernel
theorem x104_22 {E : ME} {ls : MLs} {st : List MV} {g : MG} {μ : MU} {Q : Option MV → MG → MU → Prop} {l0 : Option MV} {v : Int} : Wp E 104 22 (l0 :: some (.inl v) :: ls) st g μ Q = Wp E 104 23 (l0 :: some (.inl v) :: ls) (.inl v :: st) g μ Q := Wp_nx k104_22 rfl
theorem k104_23 : mCode 104 23 = some (.iastore, 1) := by decide +kernel
theorem x104_23 {E : ME} {ls : MLs} {st : List MV} {g : MG} {μ : MU} {Q : Option MV → MG → MU → Prop} {a : Nat} {j v : Int} : Wp E 104 23 ls (.inl v :: .inl j :: .inr (.inr (.inl a)) :: st) g μ Q = (((mKd g a).1 = 10 ∧ 0 ≤ j ∧ j < (mKd g a).2) ∧ Wp E 104 24 ls st g (mUp μ a j.toNat v) Q) := Wp_iast k104_23
theorem k104_24 : mCode 104 24 = some (.aload_n 0, 1) := by decide +kernel
theorem x104_24 {E : ME} {ls : MLs} {st : List MV} {g : MG} {μ : MU} {Q : Option MV → MG → MU → Prop} {v : Nat ⊕ Nat} : Wp E 104 24 (some (.inr (.inr v)) :: ls) st g μ Q = Wp E 104 25 (some (.inr (.inr v)) :: ls) (.inr (.inr v) :: st) g μ Q := Wp_nx k104_24 rfl
theorem k104_25 : mCode 104 25 = some (.getfield 7, 3) := by decide +kernel
theorem x104_25 {E : ME} {ls : MLs} {st : List MV} {g : MG} {μ : MU} {Q : Option MV → MG → MU → Prop} {a : Nat} : Wp E 104 25 ls (.inr (.inr (.inl a)) :: st) g μ Q = ((mKd g a).1 = 6 ∧ Wp E 104 28 ls (mRv (mRf g a 1) :: st) g μ Q) := Wp_getR k104_25 f6_7 (by decide) (by decide)
theorem k104_28 : mCode 104 28 = some (.iload 5, 2) := by decide +kernel
theorem x104_28 {E : ME} {ls : MLs} {st : List MV} {g : MG} {μ : MU} {Q : Option MV → MG → MU → Prop} {l0 l1 l2 l3 l4 : Option MV} {v : Int} : Wp E 104 28 (l0 :: l1 :: l2 :: l3 :: l4 :: some (.inl v) :: ls) st g μ Q = Wp E 104 30 (l0 :: l1 :: l2 :: l3 :: l4 :: some (.inl v) :: ls) (.inl v :: st) g μ Q := Wp_nx k104_28 rfl
theorem k104_30 : mCode 104 30 = some (.iconst 1, 1) := by decide +kernel
theorem x104_30 {E : ME} {ls : MLs} {st : List MV} {g : MG} {μ : MU} {Q : Option MV → MG → MU → Prop} : Wp E 104 30 ls st g μ Q = Wp E 104 31 ls (.inl 1 :: st) g μ Q := Wp_nx k104_30 rfl
theorem k104_31 : mCode 104 31 = some (.iadd, 1) := by decide +kernel
theorem x104_31 {E : ME} {ls : MLs} {st : List MV} {g : MG} {μ : MU} {Q : Option MV → MG → MU → Prop} {a b : Int} : Wp E 104 31 ls (.inl b :: .inl a :: st) g μ Q = Wp E 104 32 ls (.inl (mWr (a + b)) :: st) g μ Q := Wp_nx k104_31 rfl
theorem k104_32 : mCode 104 32 = some (.iload_n 2, 1) := by decide +kernel
theorem x104_32 {E : ME} {ls : MLs} {st : List MV} {g : MG} {μ : MU} {Q : Option MV → MG → MU → Prop} {l0 l1 : Option MV} {v : Int} : Wp E 104 32 (l0 :: l1 :: some (.inl v) :: ls) st g μ Q = Wp E 104 33 (l0 :: l1 :: some (.inl v) :: ls) (.inl v :: st) g μ Q := Wp_nx k104_32 rfl
theorem k104_33 : mCode 104 33 = some (.iastore, 1) := by decide +kernel
theorem x104_33 {E : ME} {ls : MLs} {st : List MV} {g : MG} {μ : MU} {Q : Option MV → MG → MU → Prop} {a : Nat} {j v : Int} : Wp E 104 33 ls (.inl v :: .inl j :: .inr (.inr (.inl a)) :: st) g μ Q = (((mKd g a).1 = 10 ∧ 0 ≤ j ∧ j < (mKd g a).2) ∧ Wp E 104 34 ls st g (mUp μ a j.toNat v) Q) := Wp_iast k104_33
theorem k104_34 : mCode 104 34 = some (.aload_n 0, 1) := by decide +kernel
theorem x104_34 {E : ME} {ls : MLs} {st : List MV} {g : MG} {μ : MU} {Q : Option MV → MG → MU → Prop} {v : Nat ⊕ Nat} : Wp E 104 34 (some (.inr (.inr v)) :: ls) st g μ Q = Wp E 104 35 (some (.inr (.inr v)) :: ls) (.inr (.inr v) :: st) g μ Q := Wp_nx k104_34 rfl
theorem k104_35 : mCode 104 35 = some (.getfield 7, 3) := by decide +kernel
theorem x104_35 {E : ME} {ls : MLs} {st : List MV} {g : MG} {μ : MU} {Q : Option MV → MG → MU → Prop} {a : Nat} : Wp E 104 35 ls (.inr (.inr (.inl a)) :: st) g μ Q = ((mKd g a).1 = 6 ∧ Wp E 104 38 ls (mRv (mRf g a 1) :: st) g μ Q) := Wp_getR k104_35 f6_7 (by decide) (by decide)
theorem k104_38 : mCode 104 38 = some (.iload 5, 2) := by decide +kernel
theorem x104_38 {E : ME} {ls : MLs} {st : List MV} {g : MG} {μ : MU} {Q : Option MV → MG → MU → Prop} {l0 l1 l2 l3 l4 : Option MV} {v : Int} : Wp E 104 38 (l0 :: l1 :: l2 :: l3 :: l4 :: some (.inl v) :: ls) st g μ Q = Wp E 104 40 (l0 :: l1 :: l2 :: l3 :: l4 :: some (.inl v) :: ls) (.inl v :: st) g μ Q := Wp_nx k104_38 rfl
theorem k104_40 : mCode 104 40 = some (.iconst 2, 1) := by decide +kernel
theorem x104_40 {E : ME} {ls : MLs} {st : List MV} {g : MG} {μ : MU} {Q : Option MV → MG → MU → Prop} : Wp E 104 40 ls st g μ Q = Wp E 104 41 ls (.inl 2 :: st) g μ Q := Wp_nx k104_40 rfl
theorem k104_41 : mCode 104 41 = some (.iadd, 1) := by decide +kernel
theorem x104_41 {E : ME} {ls : MLs} {st : List MV} {g : MG} {μ : MU} {Q : Option MV → MG → MU → Prop} {a b : Int} : Wp E 104 41 ls (.inl b :: .inl a :: st) g μ Q = Wp E 104 42 ls (.inl (mWr (a + b)) :: st) g μ Q := Wp_nx k104_41 rfl
theorem k104_42 : mCode 104 42 = some (.iload_n 3, 1) := by decide +kernel
theorem x104_42 {E : ME} {ls : MLs} {st : List MV} {g : MG} {μ : MU} {Q : Option MV → MG → MU → Prop} {l0 l1 l2 : Option MV} {v : Int} : Wp E 104 42 (l0 :: l1 :: l2 :: some (.inl v) :: ls) st g μ Q = Wp E 104 43 (l0 :: l1 :: l2 :: some (.inl v) :: ls) (.inl v :: st) g μ Q := Wp_nx k104_42 rfl
theorem k104_43 : mCode 104 43 = some (.iastore, 1) := by decide +kernel
theorem x104_43 {E : ME} {ls : MLs} {st : List MV} {g : MG} {μ : MU} {Q : Option MV → MG → MU → Prop} {a : Nat} {j v : Int} : Wp E 104 43 ls (.inl v :: .inl j :: .inr (.inr (.inl a)) :: st) g μ Q = (((mKd g a).1 = 10 ∧ 0 ≤ j ∧ j < (mKd g a).2) ∧ Wp E 104 44 ls st g (mUp μ a j.toNat v) Q) := Wp_iast k104_43
theorem k104_44 : mCode 104 44 = some (.aload_n 0, 1) := by decide +kernel
theorem x104_44 {E : ME} {ls : MLs} {st : List MV} {g : MG} {μ : MU} {Q : Option MV → MG → MU → Prop} {v : Nat ⊕ Nat} : Wp E 104 44 (some (.inr (.inr v)) :: ls) st g μ Q = Wp E 104 45 (some (.inr (.inr v)) :: ls) (.inr (.inr v) :: st) g μ Q := Wp_nx k104_44 rfl
theorem k104_45 : mCode 104 45 = some (.getfield 7, 3) := by decide +kernel
theorem x104_45 {E : ME} {ls : MLs} {st : List MV} {g : MG} {μ : MU} {Q : Option MV → MG → MU → Prop} {a : Nat} : Wp E 104 45 ls (.inr (.inr (.inl a)) :: st) g μ Q = ((mKd g a).1 = 6 ∧ Wp E 104 48 ls (mRv (mRf g a 1) :: st) g μ Q) := Wp_getR k104_45 f6_7 (by decide) (by decide)
theorem k104_48 : mCode 104 48 = some (.iload 5, 2) := by decide +kernel
theorem x104_48 {E : ME} {ls : MLs} {st : List MV} {g : MG} {μ : MU} {Q : Option MV → MG → MU → Prop} {l0 l1 l2 l3 l4 : Option MV} {v : Int} : Wp E 104 48 (l0 :: l1 :: l2 :: l3 :: l4 :: some (.inl v) :: ls) st g μ Q = Wp E 104 50 (l0 :: l1 :: l2 :: l3 :: l4 :: some (.inl v) :: ls) (.inl v :: st) g μ Q := Wp_nx k104_48 rfl
theorem k104_50 : mCode 104 50 = some (.iconst 3, 1) := by decide +kernel
theorem x104_50 {E : ME} {ls : MLs} {st : List MV} {g : MG} {μ : MU} {Q : Option MV → MG → MU → Prop} : Wp E 104 50 ls st g μ Q = Wp E 104 51 ls (.inl 3 :: st) g μ Q := Wp_nx k104_50 rfl
theorem k104_51 : mCode 104 51 = some (.iadd, 1) := by decide +kernel
theorem x104_51 {E : ME} {ls : MLs} {st : List MV} {g : MG} {μ : MU} {Q : Option MV → MG → MU → Prop} {a b : Int} : Wp E 104 51 ls (.inl b :: .inl a :: st) g μ Q = Wp E 104 52 ls (.inl (mWr (a + b)) :: st) g μ Q := Wp_nx k104_51 rfl
theorem k104_52 : mCode 104 52 = some (.iload 4, 2) := by decide +kernel
theorem x104_52 {E : ME} {ls : MLs} {st : List MV} {g : MG} {μ : MU} {Q : Option MV → MG → MU → Prop} {l0 l1 l2 l3 : Option MV} {v : Int} : Wp E 104 52 (l0 :: l1 :: l2 :: l3 :: some (.inl v) :: ls) st g μ Q = Wp E 104 54 (l0 :: l1 :: l2 :: l3 :: some (.inl v) :: ls) (.inl v :: st) g μ Q := Wp_nx k104_52 rfl
theorem k104_54 : mCode 104 54 = some (.iastore, 1) := by decide +kernel
theorem x104_54 {E : ME} {ls : MLs} {st : List MV} {g : MG} {μ : MU} {Q : Option MV → MG → MU → Prop} {a : Nat} {j v : Int} : Wp E 104 54 ls (.inl v :: .inl j :: .inr (.inr (.inl a)) :: st) g μ Q = (((mKd g a).1 = 10 ∧ 0 ≤ j ∧ j < (mKd g a).2) ∧ Wp E 104 55 ls st g (mUp μ a j.toNat v) Q) := Wp_iast k104_54
theorem k104_55 : mCode 104 55 = some (.aload_n 0, 1) := by decide +kernel
theorem x104_55 {E : ME} {ls : MLs} {st : List MV} {g : MG} {μ : MU} {Q : Option MV → MG → MU → Prop} {v : Nat ⊕ Nat} : Wp E 104 55 (some (.inr (.inr v)) :: ls) st g μ Q = Wp E 104 56 (some (.inr (.inr v)) :: ls) (.inr (.inr v) :: st) g μ Q := Wp_nx k104_55 rfl
theorem k104_56 : mCode 104 56 = some (.getfield 7, 3) := by decide +kernel
theorem x104_56 {E : ME} {ls : MLs} {st : List MV} {g : MG} {μ : MU} {Q : Option MV → MG → MU → Prop} {a : Nat} : Wp E 104 56 ls (.inr (.inr (.inl a)) :: st) g μ Q = ((mKd g a).1 = 6 ∧ Wp E 104 59 ls (mRv (mRf g a 1) :: st) g μ Q) := Wp_getR k104_56 f6_7 (by decide) (by decide)
theorem k104_59 : mCode 104 59 = some (.bipush 6, 2) := by decide +kernel
theorem x104_59 {E : ME} {ls : MLs} {st : List MV} {g : MG} {μ : MU} {Q : Option MV → MG → MU → Prop} : Wp E 104 59 ls st g μ Q = Wp E 104 61 ls (.inl 6 :: st) g μ Q := Wp_nx k104_59 rfl
theorem k104_61 : mCode 104 61 = some (.dup2, 1) := by decide +kernel
theorem x104_61 {E : ME} {ls : MLs} {st : List MV} {g : MG} {μ : MU} {Q : Option MV → MG → MU → Prop} {v w : MV} : Wp E 104 61 ls (v :: w :: st) g μ Q = ((mC1 v = true ∧ mC1 w = true) ∧ Wp E 104 62 ls (v :: w :: v :: w :: st) g μ Q) := Wp_dup2 k104_61
theorem k104_62 : mCode 104 62 = some (.iaload, 1) := by decide +kernel
theorem x104_62 {E : ME} {ls : MLs} {st : List MV} {g : MG} {μ : MU} {Q : Option MV → MG → MU → Prop} {a : Nat} {j : Int} : Wp E 104 62 ls (.inl j :: .inr (.inr (.inl a)) :: st) g μ Q = (((mKd g a).1 = 10 ∧ 0 ≤ j ∧ j < (mKd g a).2) ∧ Wp E 104 63 ls (.inl (μ a j.toNat) :: st) g μ Q) := Wp_ald k104_62 (fun _ => rfl)
theorem k104_63 : mCode 104 63 = some (.iconst 1, 1) := by decide +kernel
theorem x104_63 {E : ME} {ls : MLs} {st : List MV} {g : MG} {μ : MU} {Q : Option MV → MG → MU → Prop} : Wp E 104 63 ls st g μ Q = Wp E 104 64 ls (.inl 1 :: st) g μ Q := Wp_nx k104_63 rfl
theorem k104_64 : mCode 104 64 = some (.iadd, 1) := by decide +kernel
theorem x104_64 {E : ME} {ls : MLs} {st : List MV} {g : MG} {μ : MU} {Q : Option MV → MG → MU → Prop} {a b : Int} : Wp E 104 64 ls (.inl b :: .inl a :: st) g μ Q = Wp E 104 65 ls (.inl (mWr (a + b)) :: st) g μ Q := Wp_nx k104_64 rfl
theorem k104_65 : mCode 104 65 = some (.iastore, 1) := by decide +kernel
theorem x104_65 {E : ME} {ls : MLs} {st : List MV} {g : MG} {μ : MU} {Q : Option MV → MG → MU → Prop} {a : Nat} {j v : Int} : Wp E 104 65 ls (.inl v :: .inl j :: .inr (.inr (.inl a)) :: st) g μ Q = (((mKd g a).1 = 10 ∧ 0 ≤ j ∧ j < (mKd g a).2) ∧ Wp E 104 66 ls st g (mUp μ a j.toNat v) Q) := Wp_iast k104_65
theorem k104_66 : mCode 104 66 = some (.aload_n 0, 1) := by decide +kernel
theorem x104_66 {E : ME} {ls : MLs} {st : List MV} {g : MG} {μ : MU} {Q : Option MV → MG → MU → Prop} {v : Nat ⊕ Nat} : Wp E 104 66 (some (.inr (.inr v)) :: ls) st g μ Q = Wp E 104 67 (some (.inr (.inr v)) :: ls) (.inr (.inr v) :: st) g μ Q := Wp_nx k104_66 rfl
theorem k104_67 : mCode 104 67 = some (.getfield 7, 3) := by decide +kernel
theorem x104_67 {E : ME} {ls : MLs} {st : List MV} {g : MG} {μ : MU} {Q : Option MV → MG → MU → Prop} {a : Nat} : Wp E 104 67 ls (.inr (.inr (.inl a)) :: st) g μ Q = ((mKd g a).1 = 6 ∧ Wp E 104 70 ls (mRv (mRf g a 1) :: st) g μ Q) := Wp_getR k104_67 f6_7 (by decide) (by decide)
theorem k104_70 : mCode 104 70 = some (.bipush 6, 2) := by decide +kernel
theorem x104_70 {E : ME} {ls : MLs} {st : List MV} {g : MG} {μ : MU} {Q : Option MV → MG → MU → Prop} : Wp E 104 70 ls st g μ Q = Wp E 104 72 ls (.inl 6 :: st) g μ Q := Wp_nx k104_70 rfl
theorem k104_72 : mCode 104 72 = some (.iaload, 1) := by decide +kernel
theorem x104_72 {E : ME} {ls : MLs} {st : List MV} {g : MG} {μ : MU} {Q : Option MV → MG → MU → Prop} {a : Nat} {j : Int} : Wp E 104 72 ls (.inl j :: .inr (.inr (.inl a)) :: st) g μ Q = (((mKd g a).1 = 10 ∧ 0 ≤ j ∧ j < (mKd g a).2) ∧ Wp E 104 73 ls (.inl (μ a j.toNat) :: st) g μ Q) := Wp_ald k104_72 (fun _ => rfl)
theorem k104_73 : mCode 104 73 = some (.iconst 1, 1) := by decide +kernel
theorem x104_73 {E : ME} {ls : MLs} {st : List MV} {g : MG} {μ : MU} {Q : Option MV → MG → MU → Prop} : Wp E 104 73 ls st g μ Q = Wp E 104 74 ls (.inl 1 :: st) g μ Q := Wp_nx k104_73 rfl
theorem k104_74 : mCode 104 74 = some (.isub, 1) := by decide +kernel
theorem x104_74 {E : ME} {ls : MLs} {st : List MV} {g : MG} {μ : MU} {Q : Option MV → MG → MU → Prop} {a b : Int} : Wp E 104 74 ls (.inl b :: .inl a :: st) g μ Q = Wp E 104 75 ls (.inl (mWr (a - b)) :: st) g μ Q := Wp_nx k104_74 rfl
theorem k104_75 : mCode 104 75 = some (.ireturn, 1) := by decide +kernel
theorem x104_75 {E : ME} {ls : MLs} {g : MG} {μ : MU} {Q : Option MV → MG → MU → Prop} {v : Int} : Wp E 104 75 ls [.inl v] g μ Q = Q (some (.inl v)) g μ := Wp_retI k104_75 (by decide)
theorem k105_0 : mCode 105 0 = some (.aload_n 0, 1) := by decide +kernel
theorem x105_0 {E : ME} {ls : MLs} {st : List MV} {g : MG} {μ : MU} {Q : Option MV → MG → MU → Prop} {v : Nat ⊕ Nat} : Wp E 105 0 (some (.inr (.inr v)) :: ls) st g μ Q = Wp E 105 1 (some (.inr (.inr v)) :: ls) (.inr (.inr v) :: st) g μ Q := Wp_nx k105_0 rfl
theorem k105_1 : mCode 105 1 = some (.iconst 0, 1) := by decide +kernel
theorem x105_1 {E : ME} {ls : MLs} {st : List MV} {g : MG} {μ : MU} {Q : Option MV → MG → MU → Prop} : Wp E 105 1 ls st g μ Q = Wp E 105 2 ls (.inl 0 :: st) g μ Q := Wp_nx k105_1 rfl
theorem k105_2 : mCode 105 2 = some (.putfield 65, 3) := by decide +kernel
theorem x105_2 {E : ME} {ls : MLs} {st : List MV} {g : MG} {μ : MU} {Q : Option MV → MG → MU → Prop} {a : Nat} {v : Int} : Wp E 105 2 ls (.inl v :: .inr (.inr (.inl a)) :: st) g μ Q = ((mKd g a).1 = 6 ∧ Wp E 105 5 ls st g (mUp μ a 0 v) Q) := Wp_putI0 k105_2 f6_65 (by decide) (by decide)
theorem k105_5 : mCode 105 5 = some (.aload_n 0, 1) := by decide +kernel
theorem x105_5 {E : ME} {ls : MLs} {st : List MV} {g : MG} {μ : MU} {Q : Option MV → MG → MU → Prop} {v : Nat ⊕ Nat} : Wp E 105 5 (some (.inr (.inr v)) :: ls) st g μ Q = Wp E 105 6 (some (.inr (.inr v)) :: ls) (.inr (.inr v) :: st) g μ Q := Wp_nx k105_5 rfl
theorem k105_6 : mCode 105 6 = some (.iload_n 1, 1) := by decide +kernel
theorem x105_6 {E : ME} {ls : MLs} {st : List MV} {g : MG} {μ : MU} {Q : Option MV → MG → MU → Prop} {l0 : Option MV} {v : Int} : Wp E 105 6 (l0 :: some (.inl v) :: ls) st g μ Q = Wp E 105 7 (l0 :: some (.inl v) :: ls) (.inl v :: st) g μ Q := Wp_nx k105_6 rfl
theorem k105_7 : mCode 105 7 = some (.iload_n 2, 1) := by decide +kernel
theorem x105_7 {E : ME} {ls : MLs} {st : List MV} {g : MG} {μ : MU} {Q : Option MV → MG → MU → Prop} {l0 l1 : Option MV} {v : Int} : Wp E 105 7 (l0 :: l1 :: some (.inl v) :: ls) st g μ Q = Wp E 105 8 (l0 :: l1 :: some (.inl v) :: ls) (.inl v :: st) g μ Q := Wp_nx k105_7 rfl
theorem k105_8 : mCode 105 8 = some (.iload_n 3, 1) := by decide +kernel
theorem x105_8 {E : ME} {ls : MLs} {st : List MV} {g : MG} {μ : MU} {Q : Option MV → MG → MU → Prop} {l0 l1 l2 : Option MV} {v : Int} : Wp E 105 8 (l0 :: l1 :: l2 :: some (.inl v) :: ls) st g μ Q = Wp E 105 9 (l0 :: l1 :: l2 :: some (.inl v) :: ls) (.inl v :: st) g μ Q := Wp_nx k105_8 rfl
theorem k105_9 : mCode 105 9 = some (.iload 4, 2) := by decide +kernel
theorem x105_9 {E : ME} {ls : MLs} {st : List MV} {g : MG} {μ : MU} {Q : Option MV → MG → MU → Prop} {l0 l1 l2 l3 : Option MV} {v : Int} : Wp E 105 9 (l0 :: l1 :: l2 :: l3 :: some (.inl v) :: ls) st g μ Q = Wp E 105 11 (l0 :: l1 :: l2 :: l3 :: some (.inl v) :: ls) (.inl v :: st) g μ Q := Wp_nx k105_9 rfl
theorem k105_11 : mCode 105 11 = some (.invokevirtual 139, 3) := by decide +kernel
theorem x105_11 {E : ME} {ls : MLs} {st : List MV} {g : MG} {μ : MU} {Q : Option MV → MG → MU → Prop} {r : Nat} {a0 : Int} {a1 : Int} {a2 : Int} {a3 : Int} : Wp E 105 11 ls (.inl a3 :: .inl a2 :: .inl a1 :: .inl a0 :: .inr (.inr (.inl r)) :: st) g μ Q = ((st.length ≤ 4 ∧ ((mKd g r).1 == 6) = true) ∧ Wp E 103 0 [some (.inr (.inr (.inl r))), some (.inl a0), some (.inl a1), some (.inl a2), some (.inl a3)] [] g μ (fun r g' μ' => (g'.1 = g.1 ∧ g'.2.1 = g.2.1) ∧ Wp E 105 14 ls (mPush r st) g' μ' Q)) := Wp_cV k105_11 m6_139 (by decide) (as := [.inr (.inr (.inl r)), .inl a0, .inl a1, .inl a2, .inl a3]) rfl rfl rfl ⟨Nat.le_of_ble_eq_true rfl, by decide⟩
theorem k105_14 : mCode 105 14 = some (.istore 5, 2) := by decide +kernel
theorem x105_14 {E : ME} {ls : MLs} {st : List MV} {g : MG} {μ : MU} {Q : Option MV → MG → MU → Prop} {l0 l1 l2 l3 l4 : Option MV} {lk : Option MV} {v : Int} : Wp E 105 14 (l0 :: l1 :: l2 :: l3 :: l4 :: lk :: ls) (.inl v :: st) g μ Q = ((mNl (some l4) = true ∧ mNl (some lk) = true) ∧ Wp E 105 16 (l0 :: l1 :: l2 :: l3 :: l4 :: some (.inl v) :: ls) st g μ Q) := Wp_sti k105_14 (fun _ => rfl) rfl rfl rfl
theorem k105_16 : mCode 105 16 = some (.iload 5, 2) := by decide +kernel
theorem x105_16 {E : ME} {ls : MLs} {st : List MV} {g : MG} {μ : MU} {Q : Option MV → MG → MU → Prop} {l0 l1 l2 l3 l4 : Option MV} {v : Int} : Wp E 105 16 (l0 :: l1 :: l2 :: l3 :: l4 :: some (.inl v) :: ls) st g μ Q = Wp E 105 18 (l0 :: l1 :: l2 :: l3 :: l4 :: some (.inl v) :: ls) (.inl v :: st) g μ Q := Wp_nx k105_16 rfl
theorem k105_18 : mCode 105 18 = some (.ifCond .eq 6, 3) := by decide +kernel
theorem x105_18 {E : ME} {ls : MLs} {st : List MV} {g : MG} {μ : MU} {Q : Option MV → MG → MU → Prop} {a : Int} : Wp E 105 18 ls (.inl a :: st) g μ Q = ((a = 0 → Wp E 105 24 ls st g μ Q) ∧ (¬ a = 0 → Wp E 105 21 ls st g μ Q)) := Wp_if_eq k105_18 (by decide)
theorem k105_21 : mCode 105 21 = some (.iload 5, 2) := by decide +kernel
theorem x105_21 {E : ME} {ls : MLs} {st : List MV} {g : MG} {μ : MU} {Q : Option MV → MG → MU → Prop} {l0 l1 l2 l3 l4 : Option MV} {v : Int} : Wp E 105 21 (l0 :: l1 :: l2 :: l3 :: l4 :: some (.inl v) :: ls) st g μ Q = Wp E 105 23 (l0 :: l1 :: l2 :: l3 :: l4 :: some (.inl v) :: ls) (.inl v :: st) g μ Q := Wp_nx k105_21 rfl
theorem k105_23 : mCode 105 23 = some (.ireturn, 1) := by decide +kernel
theorem x105_23 {E : ME} {ls : MLs} {g : MG} {μ : MU} {Q : Option MV → MG → MU → Prop} {v : Int} : Wp E 105 23 ls [.inl v] g μ Q = Q (some (.inl v)) g μ := Wp_retI k105_23 (by decide)
theorem k105_24 : mCode 105 24 = some (.aload_n 0, 1) := by decide +kernel
theorem x105_24 {E : ME} {ls : MLs} {st : List MV} {g : MG} {μ : MU} {Q : Option MV → MG → MU → Prop} {v : Nat ⊕ Nat} : Wp E 105 24 (some (.inr (.inr v)) :: ls) st g μ Q = Wp E 105 25 (some (.inr (.inr v)) :: ls) (.inr (.inr v) :: st) g μ Q := Wp_nx k105_24 rfl
theorem k105_25 : mCode 105 25 = some (.invokevirtual 121, 3) := by decide +kernel
theorem x105_25 {E : ME} {ls : MLs} {st : List MV} {g : MG} {μ : MU} {Q : Option MV → MG → MU → Prop} {r : Nat} : Wp E 105 25 ls (.inr (.inr (.inl r)) :: st) g μ Q = ((st.length ≤ 4 ∧ ((mKd g r).1 == 6) = true) ∧ Wp E 84 0 [some (.inr (.inr (.inl r))), none] [] g μ (fun r g' μ' => (g'.1 = g.1 ∧ g'.2.1 = g.2.1) ∧ Wp E 105 28 ls (mPush r st) g' μ' Q)) := Wp_cV k105_25 m6_121 (by decide) (as := [.inr (.inr (.inl r))]) rfl rfl rfl ⟨Nat.le_of_ble_eq_true rfl, by decide⟩
theorem k105_28 : mCode 105 28 = some (.aload_n 0, 1) := by decide +kernel
theorem x105_28 {E : ME} {ls : MLs} {st : List MV} {g : MG} {μ : MU} {Q : Option MV → MG → MU → Prop} {v : Nat ⊕ Nat} : Wp E 105 28 (some (.inr (.inr v)) :: ls) st g μ Q = Wp E 105 29 (some (.inr (.inr v)) :: ls) (.inr (.inr v) :: st) g μ Q := Wp_nx k105_28 rfl
theorem k105_29 : mCode 105 29 = some (.iload_n 1, 1) := by decide +kernel
theorem x105_29 {E : ME} {ls : MLs} {st : List MV} {g : MG} {μ : MU} {Q : Option MV → MG → MU → Prop} {l0 : Option MV} {v : Int} : Wp E 105 29 (l0 :: some (.inl v) :: ls) st g μ Q = Wp E 105 30 (l0 :: some (.inl v) :: ls) (.inl v :: st) g μ Q := Wp_nx k105_29 rfl
theorem k105_30 : mCode 105 30 = some (.iload_n 2, 1) := by decide +kernel
theorem x105_30 {E : ME} {ls : MLs} {st : List MV} {g : MG} {μ : MU} {Q : Option MV → MG → MU → Prop} {l0 l1 : Option MV} {v : Int} : Wp E 105 30 (l0 :: l1 :: some (.inl v) :: ls) st g μ Q = Wp E 105 31 (l0 :: l1 :: some (.inl v) :: ls) (.inl v :: st) g μ Q := Wp_nx k105_30 rfl
theorem k105_31 : mCode 105 31 = some (.iload_n 3, 1) := by decide +kernel
theorem x105_31 {E : ME} {ls : MLs} {st : List MV} {g : MG} {μ : MU} {Q : Option MV → MG → MU → Prop} {l0 l1 l2 : Option MV} {v : Int} : Wp E 105 31 (l0 :: l1 :: l2 :: some (.inl v) :: ls) st g μ Q = Wp E 105 32 (l0 :: l1 :: l2 :: some (.inl v) :: ls) (.inl v :: st) g μ Q := Wp_nx k105_31 rfl
theorem k105_32 : mCode 105 32 = some (.iload 4, 2) := by decide +kernel
theorem x105_32 {E : ME} {ls : MLs} {st : List MV} {g : MG} {μ : MU} {Q : Option MV → MG → MU → Prop} {l0 l1 l2 l3 : Option MV} {v : Int} : Wp E 105 32 (l0 :: l1 :: l2 :: l3 :: some (.inl v) :: ls) st g μ Q = Wp E 105 34 (l0 :: l1 :: l2 :: l3 :: some (.inl v) :: ls) (.inl v :: st) g μ Q := Wp_nx k105_32 rfl
theorem k105_34 : mCode 105 34 = some (.invokevirtual 143, 3) := by decide +kernel
theorem x105_34 {E : ME} {ls : MLs} {st : List MV} {g : MG} {μ : MU} {Q : Option MV → MG → MU → Prop} {r : Nat} {a0 : Int} {a1 : Int} {a2 : Int} {a3 : Int} : Wp E 105 34 ls (.inl a3 :: .inl a2 :: .inl a1 :: .inl a0 :: .inr (.inr (.inl r)) :: st) g μ Q = ((st.length ≤ 4 ∧ ((mKd g r).1 == 6) = true) ∧ Wp E 104 0 [some (.inr (.inr (.inl r))), some (.inl a0), some (.inl a1), some (.inl a2), some (.inl a3), none] [] g μ (fun r g' μ' => (g'.1 = g.1 ∧ g'.2.1 = g.2.1) ∧ Wp E 105 37 ls (mPush r st) g' μ' Q)) := Wp_cV k105_34 m6_143 (by decide) (as := [.inr (.inr (.inl r)), .inl a0, .inl a1, .inl a2, .inl a3]) rfl rfl rfl ⟨Nat.le_of_ble_eq_true rfl, by decide⟩
theorem k105_37 : mCode 105 37 = some (.ireturn, 1) := by decide +kernel
theorem x105_37 {E : ME} {ls : MLs} {g : MG} {μ : MU} {Q : Option MV → MG → MU → Prop} {v : Int} : Wp E 105 37 ls [.inl v] g μ Q = Q (some (.inl v)) g μ := Wp_retI k105_37 (by decide)
theorem k106_0 : mCode 106 0 = some (.aload_n 0, 1) := by decide +kernel
theorem x106_0 {E : ME} {ls : MLs} {st : List MV} {g : MG} {μ : MU} {Q : Option MV → MG → MU → Prop} {v : Nat ⊕ Nat} : Wp E 106 0 (some (.inr (.inr v)) :: ls) st g μ Q = Wp E 106 1 (some (.inr (.inr v)) :: ls) (.inr (.inr v) :: st) g μ Q := Wp_nx k106_0 rfl
theorem k106_1 : mCode 106 1 = some (.getfield 7, 3) := by decide +kernel
theorem x106_1 {E : ME} {ls : MLs} {st : List MV} {g : MG} {μ : MU} {Q : Option MV → MG → MU → Prop} {a : Nat} : Wp E 106 1 ls (.inr (.inr (.inl a)) :: st) g μ Q = ((mKd g a).1 = 6 ∧ Wp E 106 4 ls (mRv (mRf g a 1) :: st) g μ Q) := Wp_getR k106_1 f6_7 (by decide) (by decide)
theorem k106_4 : mCode 106 4 = some (.bipush 6, 2) := by decide +kernel
theorem x106_4 {E : ME} {ls : MLs} {st : List MV} {g : MG} {μ : MU} {Q : Option MV → MG → MU → Prop} : Wp E 106 4 ls st g μ Q = Wp E 106 6 ls (.inl 6 :: st) g μ Q := Wp_nx k106_4 rfl
theorem k106_6 : mCode 106 6 = some (.dup2, 1) := by decide +kernel
theorem x106_6 {E : ME} {ls : MLs} {st : List MV} {g : MG} {μ : MU} {Q : Option MV → MG → MU → Prop} {v w : MV} : Wp E 106 6 ls (v :: w :: st) g μ Q = ((mC1 v = true ∧ mC1 w = true) ∧ Wp E 106 7 ls (v :: w :: v :: w :: st) g μ Q) := Wp_dup2 k106_6
theorem k106_7 : mCode 106 7 = some (.iaload, 1) := by decide +kernel
theorem x106_7 {E : ME} {ls : MLs} {st : List MV} {g : MG} {μ : MU} {Q : Option MV → MG → MU → Prop} {a : Nat} {j : Int} : Wp E 106 7 ls (.inl j :: .inr (.inr (.inl a)) :: st) g μ Q = (((mKd g a).1 = 10 ∧ 0 ≤ j ∧ j < (mKd g a).2) ∧ Wp E 106 8 ls (.inl (μ a j.toNat) :: st) g μ Q) := Wp_ald k106_7 (fun _ => rfl)
theorem k106_8 : mCode 106 8 = some (.iconst 1, 1) := by decide +kernel
theorem x106_8 {E : ME} {ls : MLs} {st : List MV} {g : MG} {μ : MU} {Q : Option MV → MG → MU → Prop} : Wp E 106 8 ls st g μ Q = Wp E 106 9 ls (.inl 1 :: st) g μ Q := Wp_nx k106_8 rfl
theorem k106_9 : mCode 106 9 = some (.isub, 1) := by decide +kernel
theorem x106_9 {E : ME} {ls : MLs} {st : List MV} {g : MG} {μ : MU} {Q : Option MV → MG → MU → Prop} {a b : Int} : Wp E 106 9 ls (.inl b :: .inl a :: st) g μ Q = Wp E 106 10 ls (.inl (mWr (a - b)) :: st) g μ Q := Wp_nx k106_9 rfl
theorem k106_10 : mCode 106 10 = some (.iastore, 1) := by decide +kernel
theorem x106_10 {E : ME} {ls : MLs} {st : List MV} {g : MG} {μ : MU} {Q : Option MV → MG → MU → Prop} {a : Nat} {j v : Int} : Wp E 106 10 ls (.inl v :: .inl j :: .inr (.inr (.inl a)) :: st) g μ Q = (((mKd g a).1 = 10 ∧ 0 ≤ j ∧ j < (mKd g a).2) ∧ Wp E 106 11 ls st g (mUp μ a j.toNat v) Q) := Wp_iast k106_10
theorem k106_11 : mCode 106 11 = some (.iconst 4, 1) := by decide +kernel
theorem x106_11 {E : ME} {ls : MLs} {st : List MV} {g : MG} {μ : MU} {Q : Option MV → MG → MU → Prop} : Wp E 106 11 ls st g μ Q = Wp E 106 12 ls (.inl 4 :: st) g μ Q := Wp_nx k106_11 rfl
theorem k106_12 : mCode 106 12 = some (.iload_n 1, 1) := by decide +kernel
theorem x106_12 {E : ME} {ls : MLs} {st : List MV} {g : MG} {μ : MU} {Q : Option MV → MG → MU → Prop} {l0 : Option MV} {v : Int} : Wp E 106 12 (l0 :: some (.inl v) :: ls) st g μ Q = Wp E 106 13 (l0 :: some (.inl v) :: ls) (.inl v :: st) g μ Q := Wp_nx k106_12 rfl
theorem k106_13 : mCode 106 13 = some (.imul, 1) := by decide +kernel
theorem x106_13 {E : ME} {ls : MLs} {st : List MV} {g : MG} {μ : MU} {Q : Option MV → MG → MU → Prop} {a b : Int} : Wp E 106 13 ls (.inl b :: .inl a :: st) g μ Q = Wp E 106 14 ls (.inl (mWr (a * b)) :: st) g μ Q := Wp_nx k106_13 rfl
theorem k106_14 : mCode 106 14 = some (.istore_n 2, 1) := by decide +kernel
theorem x106_14 {E : ME} {ls : MLs} {st : List MV} {g : MG} {μ : MU} {Q : Option MV → MG → MU → Prop} {l0 l1 : Option MV} {lk : Option MV} {v : Int} : Wp E 106 14 (l0 :: l1 :: lk :: ls) (.inl v :: st) g μ Q = ((mNl (some l1) = true ∧ mNl (some lk) = true) ∧ Wp E 106 15 (l0 :: l1 :: some (.inl v) :: ls) st g μ Q) := Wp_sti k106_14 (fun _ => rfl) rfl rfl rfl
theorem k106_15 : mCode 106 15 = some (.iload_n 2, 1) := by decide +kernel
theorem x106_15 {E : ME} {ls : MLs} {st : List MV} {g : MG} {μ : MU} {Q : Option MV → MG → MU → Prop} {l0 l1 : Option MV} {v : Int} : Wp E 106 15 (l0 :: l1 :: some (.inl v) :: ls) st g μ Q = Wp E 106 16 (l0 :: l1 :: some (.inl v) :: ls) (.inl v :: st) g μ Q := Wp_nx k106_15 rfl
theorem k106_16 : mCode 106 16 = some (.iconst 4, 1) := by decide +kernel
theorem x106_16 {E : ME} {ls : MLs} {st : List MV} {g : MG} {μ : MU} {Q : Option MV → MG → MU → Prop} : Wp E 106 16 ls st g μ Q = Wp E 106 17 ls (.inl 4 :: st) g μ Q := Wp_nx k106_16 rfl
theorem k106_17 : mCode 106 17 = some (.aload_n 0, 1) := by decide +kernel
theorem x106_17 {E : ME} {ls : MLs} {st : List MV} {g : MG} {μ : MU} {Q : Option MV → MG → MU → Prop} {v : Nat ⊕ Nat} : Wp E 106 17 (some (.inr (.inr v)) :: ls) st g μ Q = Wp E 106 18 (some (.inr (.inr v)) :: ls) (.inr (.inr v) :: st) g μ Q := Wp_nx k106_17 rfl
theorem k106_18 : mCode 106 18 = some (.getfield 7, 3) := by decide +kernel
theorem x106_18 {E : ME} {ls : MLs} {st : List MV} {g : MG} {μ : MU} {Q : Option MV → MG → MU → Prop} {a : Nat} : Wp E 106 18 ls (.inr (.inr (.inl a)) :: st) g μ Q = ((mKd g a).1 = 6 ∧ Wp E 106 21 ls (mRv (mRf g a 1) :: st) g μ Q) := Wp_getR k106_18 f6_7 (by decide) (by decide)
theorem k106_21 : mCode 106 21 = some (.bipush 6, 2) := by decide +kernel
theorem x106_21 {E : ME} {ls : MLs} {st : List MV} {g : MG} {μ : MU} {Q : Option MV → MG → MU → Prop} : Wp E 106 21 ls st g μ Q = Wp E 106 23 ls (.inl 6 :: st) g μ Q := Wp_nx k106_21 rfl
theorem k106_23 : mCode 106 23 = some (.iaload, 1) := by decide +kernel
theorem x106_23 {E : ME} {ls : MLs} {st : List MV} {g : MG} {μ : MU} {Q : Option MV → MG → MU → Prop} {a : Nat} {j : Int} : Wp E 106 23 ls (.inl j :: .inr (.inr (.inl a)) :: st) g μ Q = (((mKd g a).1 = 10 ∧ 0 ≤ j ∧ j < (mKd g a).2) ∧ Wp E 106 24 ls (.inl (μ a j.toNat) :: st) g μ Q) := Wp_ald k106_23 (fun _ => rfl)
theorem k106_24 : mCode 106 24 = some (.imul, 1) := by decide +kernel
theorem x106_24 {E : ME} {ls : MLs} {st : List MV} {g : MG} {μ : MU} {Q : Option MV → MG → MU → Prop} {a b : Int} : Wp E 106 24 ls (.inl b :: .inl a :: st) g μ Q = Wp E 106 25 ls (.inl (mWr (a * b)) :: st) g μ Q := Wp_nx k106_24 rfl
theorem k106_25 : mCode 106 25 = some (.if_icmp .ge 29, 3) := by decide +kernel
theorem x106_25 {E : ME} {ls : MLs} {st : List MV} {g : MG} {μ : MU} {Q : Option MV → MG → MU → Prop} {a b : Int} : Wp E 106 25 ls (.inl b :: .inl a :: st) g μ Q = ((b ≤ a → Wp E 106 54 ls st g μ Q) ∧ (a < b → Wp E 106 28 ls st g μ Q)) := Wp_cmp_ge k106_25 (by decide)
theorem k106_28 : mCode 106 28 = some (.aload_n 0, 1) := by decide +kernel
theorem x106_28 {E : ME} {ls : MLs} {st : List MV} {g : MG} {μ : MU} {Q : Option MV → MG → MU → Prop} {v : Nat ⊕ Nat} : Wp E 106 28 (some (.inr (.inr v)) :: ls) st g μ Q = Wp E 106 29 (some (.inr (.inr v)) :: ls) (.inr (.inr v) :: st) g μ Q := Wp_nx k106_28 rfl
theorem k106_29 : mCode 106 29 = some (.getfield 7, 3) := by decide +kernel
theorem x106_29 {E : ME} {ls : MLs} {st : List MV} {g : MG} {μ : MU} {Q : Option MV → MG → MU → Prop} {a : Nat} : Wp E 106 29 ls (.inr (.inr (.inl a)) :: st) g μ Q = ((mKd g a).1 = 6 ∧ Wp E 106 32 ls (mRv (mRf g a 1) :: st) g μ Q) := Wp_getR k106_29 f6_7 (by decide) (by decide)
theorem k106_32 : mCode 106 32 = some (.bipush 68, 2) := by decide +kernel
theorem x106_32 {E : ME} {ls : MLs} {st : List MV} {g : MG} {μ : MU} {Q : Option MV → MG → MU → Prop} : Wp E 106 32 ls st g μ Q = Wp E 106 34 ls (.inl 68 :: st) g μ Q := Wp_nx k106_32 rfl
theorem k106_34 : mCode 106 34 = some (.iload_n 2, 1) := by decide +kernel
theorem x106_34 {E : ME} {ls : MLs} {st : List MV} {g : MG} {μ : MU} {Q : Option MV → MG → MU → Prop} {l0 l1 : Option MV} {v : Int} : Wp E 106 34 (l0 :: l1 :: some (.inl v) :: ls) st g μ Q = Wp E 106 35 (l0 :: l1 :: some (.inl v) :: ls) (.inl v :: st) g μ Q := Wp_nx k106_34 rfl
theorem k106_35 : mCode 106 35 = some (.iadd, 1) := by decide +kernel
theorem x106_35 {E : ME} {ls : MLs} {st : List MV} {g : MG} {μ : MU} {Q : Option MV → MG → MU → Prop} {a b : Int} : Wp E 106 35 ls (.inl b :: .inl a :: st) g μ Q = Wp E 106 36 ls (.inl (mWr (a + b)) :: st) g μ Q := Wp_nx k106_35 rfl
theorem k106_36 : mCode 106 36 = some (.aload_n 0, 1) := by decide +kernel
theorem x106_36 {E : ME} {ls : MLs} {st : List MV} {g : MG} {μ : MU} {Q : Option MV → MG → MU → Prop} {v : Nat ⊕ Nat} : Wp E 106 36 (some (.inr (.inr v)) :: ls) st g μ Q = Wp E 106 37 (some (.inr (.inr v)) :: ls) (.inr (.inr v) :: st) g μ Q := Wp_nx k106_36 rfl
theorem k106_37 : mCode 106 37 = some (.getfield 7, 3) := by decide +kernel
theorem x106_37 {E : ME} {ls : MLs} {st : List MV} {g : MG} {μ : MU} {Q : Option MV → MG → MU → Prop} {a : Nat} : Wp E 106 37 ls (.inr (.inr (.inl a)) :: st) g μ Q = ((mKd g a).1 = 6 ∧ Wp E 106 40 ls (mRv (mRf g a 1) :: st) g μ Q) := Wp_getR k106_37 f6_7 (by decide) (by decide)
theorem k106_40 : mCode 106 40 = some (.bipush 68, 2) := by decide +kernel
theorem x106_40 {E : ME} {ls : MLs} {st : List MV} {g : MG} {μ : MU} {Q : Option MV → MG → MU → Prop} : Wp E 106 40 ls st g μ Q = Wp E 106 42 ls (.inl 68 :: st) g μ Q := Wp_nx k106_40 rfl
theorem k106_42 : mCode 106 42 = some (.iload_n 2, 1) := by decide +kernel
theorem x106_42 {E : ME} {ls : MLs} {st : List MV} {g : MG} {μ : MU} {Q : Option MV → MG → MU → Prop} {l0 l1 : Option MV} {v : Int} : Wp E 106 42 (l0 :: l1 :: some (.inl v) :: ls) st g μ Q = Wp E 106 43 (l0 :: l1 :: some (.inl v) :: ls) (.inl v :: st) g μ Q := Wp_nx k106_42 rfl
theorem k106_43 : mCode 106 43 = some (.iadd, 1) := by decide +kernel
theorem x106_43 {E : ME} {ls : MLs} {st : List MV} {g : MG} {μ : MU} {Q : Option MV → MG → MU → Prop} {a b : Int} : Wp E 106 43 ls (.inl b :: .inl a :: st) g μ Q = Wp E 106 44 ls (.inl (mWr (a + b)) :: st) g μ Q := Wp_nx k106_43 rfl
theorem k106_44 : mCode 106 44 = some (.iconst 4, 1) := by decide +kernel
theorem x106_44 {E : ME} {ls : MLs} {st : List MV} {g : MG} {μ : MU} {Q : Option MV → MG → MU → Prop} : Wp E 106 44 ls st g μ Q = Wp E 106 45 ls (.inl 4 :: st) g μ Q := Wp_nx k106_44 rfl
theorem k106_45 : mCode 106 45 = some (.iadd, 1) := by decide +kernel
theorem x106_45 {E : ME} {ls : MLs} {st : List MV} {g : MG} {μ : MU} {Q : Option MV → MG → MU → Prop} {a b : Int} : Wp E 106 45 ls (.inl b :: .inl a :: st) g μ Q = Wp E 106 46 ls (.inl (mWr (a + b)) :: st) g μ Q := Wp_nx k106_45 rfl
theorem k106_46 : mCode 106 46 = some (.iaload, 1) := by decide +kernel
theorem x106_46 {E : ME} {ls : MLs} {st : List MV} {g : MG} {μ : MU} {Q : Option MV → MG → MU → Prop} {a : Nat} {j : Int} : Wp E 106 46 ls (.inl j :: .inr (.inr (.inl a)) :: st) g μ Q = (((mKd g a).1 = 10 ∧ 0 ≤ j ∧ j < (mKd g a).2) ∧ Wp E 106 47 ls (.inl (μ a j.toNat) :: st) g μ Q) := Wp_ald k106_46 (fun _ => rfl)
theorem k106_47 : mCode 106 47 = some (.iastore, 1) := by decide +kernel
theorem x106_47 {E : ME} {ls : MLs} {st : List MV} {g : MG} {μ : MU} {Q : Option MV → MG → MU → Prop} {a : Nat} {j v : Int} : Wp E 106 47 ls (.inl v :: .inl j :: .inr (.inr (.inl a)) :: st) g μ Q = (((mKd g a).1 = 10 ∧ 0 ≤ j ∧ j < (mKd g a).2) ∧ Wp E 106 48 ls st g (mUp μ a j.toNat v) Q) := Wp_iast k106_47
theorem k106_48 : mCode 106 48 = some (.iinc 2 1, 3) := by decide +kernel
theorem x106_48 {E : ME} {ls : MLs} {st : List MV} {g : MG} {μ : MU} {Q : Option MV → MG → MU → Prop} {l0 l1 : Option MV} {v : Int} : Wp E 106 48 (l0 :: l1 :: some (.inl v) :: ls) st g μ Q = (mNl (some l1) = true ∧ Wp E 106 51 (l0 :: l1 :: some (.inl (mWr (v + 1))) :: ls) st g μ Q) := Wp_inc k106_48 rfl rfl rfl
theorem k106_51 : mCode 106 51 = some (.goto (-36), 3) := by decide +kernel
theorem x106_51 {E : ME} {ls : MLs} {st : List MV} {g : MG} {μ : MU} {Q : Option MV → MG → MU → Prop} : Wp E 106 51 ls st g μ Q = Wp E 106 15 ls st g μ Q := Wp_goto k106_51 (by decide)
theorem k106_54 : mCode 106 54 = some (.iconst 0, 1) := by decide +kernel
theorem x106_54 {E : ME} {ls : MLs} {st : List MV} {g : MG} {μ : MU} {Q : Option MV → MG → MU → Prop} : Wp E 106 54 ls st g μ Q = Wp E 106 55 ls (.inl 0 :: st) g μ Q := Wp_nx k106_54 rfl
theorem k106_55 : mCode 106 55 = some (.istore_n 2, 1) := by decide +kernel
theorem x106_55 {E : ME} {ls : MLs} {st : List MV} {g : MG} {μ : MU} {Q : Option MV → MG → MU → Prop} {l0 l1 : Option MV} {lk : Option MV} {v : Int} : Wp E 106 55 (l0 :: l1 :: lk :: ls) (.inl v :: st) g μ Q = ((mNl (some l1) = true ∧ mNl (some lk) = true) ∧ Wp E 106 56 (l0 :: l1 :: some (.inl v) :: ls) st g μ Q) := Wp_sti k106_55 (fun _ => rfl) rfl rfl rfl
theorem k106_56 : mCode 106 56 = some (.iload_n 2, 1) := by decide +kernel
theorem x106_56 {E : ME} {ls : MLs} {st : List MV} {g : MG} {μ : MU} {Q : Option MV → MG → MU → Prop} {l0 l1 : Option MV} {v : Int} : Wp E 106 56 (l0 :: l1 :: some (.inl v) :: ls) st g μ Q = Wp E 106 57 (l0 :: l1 :: some (.inl v) :: ls) (.inl v :: st) g μ Q := Wp_nx k106_56 rfl
theorem k106_57 : mCode 106 57 = some (.iconst 4, 1) := by decide +kernel
theorem x106_57 {E : ME} {ls : MLs} {st : List MV} {g : MG} {μ : MU} {Q : Option MV → MG → MU → Prop} : Wp E 106 57 ls st g μ Q = Wp E 106 58 ls (.inl 4 :: st) g μ Q := Wp_nx k106_57 rfl
theorem k106_58 : mCode 106 58 = some (.if_icmp .ge 29, 3) := by decide +kernel
theorem x106_58 {E : ME} {ls : MLs} {st : List MV} {g : MG} {μ : MU} {Q : Option MV → MG → MU → Prop} {a b : Int} : Wp E 106 58 ls (.inl b :: .inl a :: st) g μ Q = ((b ≤ a → Wp E 106 87 ls st g μ Q) ∧ (a < b → Wp E 106 61 ls st g μ Q)) := Wp_cmp_ge k106_58 (by decide)
theorem k106_61 : mCode 106 61 = some (.aload_n 0, 1) := by decide +kernel
theorem x106_61 {E : ME} {ls : MLs} {st : List MV} {g : MG} {μ : MU} {Q : Option MV → MG → MU → Prop} {v : Nat ⊕ Nat} : Wp E 106 61 (some (.inr (.inr v)) :: ls) st g μ Q = Wp E 106 62 (some (.inr (.inr v)) :: ls) (.inr (.inr v) :: st) g μ Q := Wp_nx k106_61 rfl
theorem k106_62 : mCode 106 62 = some (.getfield 7, 3) := by decide +kernel
theorem x106_62 {E : ME} {ls : MLs} {st : List MV} {g : MG} {μ : MU} {Q : Option MV → MG → MU → Prop} {a : Nat} : Wp E 106 62 ls (.inr (.inr (.inl a)) :: st) g μ Q = ((mKd g a).1 = 6 ∧ Wp E 106 65 ls (mRv (mRf g a 1) :: st) g μ Q) := Wp_getR k106_62 f6_7 (by decide) (by decide)
theorem k106_65 : mCode 106 65 = some (.bipush 68, 2) := by decide +kernel
theorem x106_65 {E : ME} {ls : MLs} {st : List MV} {g : MG} {μ : MU} {Q : Option MV → MG → MU → Prop} : Wp E 106 65 ls st g μ Q = Wp E 106 67 ls (.inl 68 :: st) g μ Q := Wp_nx k106_65 rfl
theorem k106_67 : mCode 106 67 = some (.iconst 4, 1) := by decide +kernel
theorem x106_67 {E : ME} {ls : MLs} {st : List MV} {g : MG} {μ : MU} {Q : Option MV → MG → MU → Prop} : Wp E 106 67 ls st g μ Q = Wp E 106 68 ls (.inl 4 :: st) g μ Q := Wp_nx k106_67 rfl
theorem k106_68 : mCode 106 68 = some (.aload_n 0, 1) := by decide +kernel
theorem x106_68 {E : ME} {ls : MLs} {st : List MV} {g : MG} {μ : MU} {Q : Option MV → MG → MU → Prop} {v : Nat ⊕ Nat} : Wp E 106 68 (some (.inr (.inr v)) :: ls) st g μ Q = Wp E 106 69 (some (.inr (.inr v)) :: ls) (.inr (.inr v) :: st) g μ Q := Wp_nx k106_68 rfl
theorem k106_69 : mCode 106 69 = some (.getfield 7, 3) := by decide +kernel
theorem x106_69 {E : ME} {ls : MLs} {st : List MV} {g : MG} {μ : MU} {Q : Option MV → MG → MU → Prop} {a : Nat} : Wp E 106 69 ls (.inr (.inr (.inl a)) :: st) g μ Q = ((mKd g a).1 = 6 ∧ Wp E 106 72 ls (mRv (mRf g a 1) :: st) g μ Q) := Wp_getR k106_69 f6_7 (by decide) (by decide)
theorem k106_72 : mCode 106 72 = some (.bipush 6, 2) := by decide +kernel
theorem x106_72 {E : ME} {ls : MLs} {st : List MV} {g : MG} {μ : MU} {Q : Option MV → MG → MU → Prop} : Wp E 106 72 ls st g μ Q = Wp E 106 74 ls (.inl 6 :: st) g μ Q := Wp_nx k106_72 rfl
theorem k106_74 : mCode 106 74 = some (.iaload, 1) := by decide +kernel
theorem x106_74 {E : ME} {ls : MLs} {st : List MV} {g : MG} {μ : MU} {Q : Option MV → MG → MU → Prop} {a : Nat} {j : Int} : Wp E 106 74 ls (.inl j :: .inr (.inr (.inl a)) :: st) g μ Q = (((mKd g a).1 = 10 ∧ 0 ≤ j ∧ j < (mKd g a).2) ∧ Wp E 106 75 ls (.inl (μ a j.toNat) :: st) g μ Q) := Wp_ald k106_74 (fun _ => rfl)
theorem k106_75 : mCode 106 75 = some (.imul, 1) := by decide +kernel
theorem x106_75 {E : ME} {ls : MLs} {st : List MV} {g : MG} {μ : MU} {Q : Option MV → MG → MU → Prop} {a b : Int} : Wp E 106 75 ls (.inl b :: .inl a :: st) g μ Q = Wp E 106 76 ls (.inl (mWr (a * b)) :: st) g μ Q := Wp_nx k106_75 rfl
theorem k106_76 : mCode 106 76 = some (.iadd, 1) := by decide +kernel
theorem x106_76 {E : ME} {ls : MLs} {st : List MV} {g : MG} {μ : MU} {Q : Option MV → MG → MU → Prop} {a b : Int} : Wp E 106 76 ls (.inl b :: .inl a :: st) g μ Q = Wp E 106 77 ls (.inl (mWr (a + b)) :: st) g μ Q := Wp_nx k106_76 rfl
theorem k106_77 : mCode 106 77 = some (.iload_n 2, 1) := by decide +kernel
theorem x106_77 {E : ME} {ls : MLs} {st : List MV} {g : MG} {μ : MU} {Q : Option MV → MG → MU → Prop} {l0 l1 : Option MV} {v : Int} : Wp E 106 77 (l0 :: l1 :: some (.inl v) :: ls) st g μ Q = Wp E 106 78 (l0 :: l1 :: some (.inl v) :: ls) (.inl v :: st) g μ Q := Wp_nx k106_77 rfl
theorem k106_78 : mCode 106 78 = some (.iadd, 1) := by decide +kernel
theorem x106_78 {E : ME} {ls : MLs} {st : List MV} {g : MG} {μ : MU} {Q : Option MV → MG → MU → Prop} {a b : Int} : Wp E 106 78 ls (.inl b :: .inl a :: st) g μ Q = Wp E 106 79 ls (.inl (mWr (a + b)) :: st) g μ Q := Wp_nx k106_78 rfl
theorem k106_79 : mCode 106 79 = some (.iconst 0, 1) := by decide +kernel
theorem x106_79 {E : ME} {ls : MLs} {st : List MV} {g : MG} {μ : MU} {Q : Option MV → MG → MU → Prop} : Wp E 106 79 ls st g μ Q = Wp E 106 80 ls (.inl 0 :: st) g μ Q := Wp_nx k106_79 rfl
theorem k106_80 : mCode 106 80 = some (.iastore, 1) := by decide +kernel
theorem x106_80 {E : ME} {ls : MLs} {st : List MV} {g : MG} {μ : MU} {Q : Option MV → MG → MU → Prop} {a : Nat} {j v : Int} : Wp E 106 80 ls (.inl v :: .inl j :: .inr (.inr (.inl a)) :: st) g μ Q = (((mKd g a).1 = 10 ∧ 0 ≤ j ∧ j < (mKd g a).2) ∧ Wp E 106 81 ls st g (mUp μ a j.toNat v) Q) := Wp_iast k106_80
theorem k106_81 : mCode 106 81 = some (.iinc 2 1, 3) := by decide +kernel
theorem x106_81 {E : ME} {ls : MLs} {st : List MV} {g : MG} {μ : MU} {Q : Option MV → MG → MU → Prop} {l0 l1 : Option MV} {v : Int} : Wp E 106 81 (l0 :: l1 :: some (.inl v) :: ls) st g μ Q = (mNl (some l1) = true ∧ Wp E 106 84 (l0 :: l1 :: some (.inl (mWr (v + 1))) :: ls) st g μ Q) := Wp_inc k106_81 rfl rfl rfl
theorem k106_84 : mCode 106 84 = some (.goto (-28), 3) := by decide +kernel
theorem x106_84 {E : ME} {ls : MLs} {st : List MV} {g : MG} {μ : MU} {Q : Option MV → MG → MU → Prop} : Wp E 106 84 ls st g μ Q = Wp E 106 56 ls st g μ Q := Wp_goto k106_84 (by decide)
theorem k106_87 : mCode 106 87 = some (.aload_n 0, 1) := by decide +kernel
theorem x106_87 {E : ME} {ls : MLs} {st : List MV} {g : MG} {μ : MU} {Q : Option MV → MG → MU → Prop} {v : Nat ⊕ Nat} : Wp E 106 87 (some (.inr (.inr v)) :: ls) st g μ Q = Wp E 106 88 (some (.inr (.inr v)) :: ls) (.inr (.inr v) :: st) g μ Q := Wp_nx k106_87 rfl
theorem k106_88 : mCode 106 88 = some (.getfield 7, 3) := by decide +kernel
theorem x106_88 {E : ME} {ls : MLs} {st : List MV} {g : MG} {μ : MU} {Q : Option MV → MG → MU → Prop} {a : Nat} : Wp E 106 88 ls (.inr (.inr (.inl a)) :: st) g μ Q = ((mKd g a).1 = 6 ∧ Wp E 106 91 ls (mRv (mRf g a 1) :: st) g μ Q) := Wp_getR k106_88 f6_7 (by decide) (by decide)
theorem k106_91 : mCode 106 91 = some (.bipush 6, 2) := by decide +kernel
theorem x106_91 {E : ME} {ls : MLs} {st : List MV} {g : MG} {μ : MU} {Q : Option MV → MG → MU → Prop} : Wp E 106 91 ls st g μ Q = Wp E 106 93 ls (.inl 6 :: st) g μ Q := Wp_nx k106_91 rfl
theorem k106_93 : mCode 106 93 = some (.iaload, 1) := by decide +kernel
theorem x106_93 {E : ME} {ls : MLs} {st : List MV} {g : MG} {μ : MU} {Q : Option MV → MG → MU → Prop} {a : Nat} {j : Int} : Wp E 106 93 ls (.inl j :: .inr (.inr (.inl a)) :: st) g μ Q = (((mKd g a).1 = 10 ∧ 0 ≤ j ∧ j < (mKd g a).2) ∧ Wp E 106 94 ls (.inl (μ a j.toNat) :: st) g μ Q) := Wp_ald k106_93 (fun _ => rfl)
theorem k106_94 : mCode 106 94 = some (.ireturn, 1) := by decide +kernel
theorem x106_94 {E : ME} {ls : MLs} {g : MG} {μ : MU} {Q : Option MV → MG → MU → Prop} {v : Int} : Wp E 106 94 ls [.inl v] g μ Q = Q (some (.inl v)) g μ := Wp_retI k106_94 (by decide)
theorem k107_0 : mCode 107 0 = some (.aload_n 0, 1) := by decide +kernel
theorem x107_0 {E : ME} {ls : MLs} {st : List MV} {g : MG} {μ : MU} {Q : Option MV → MG → MU → Prop} {v : Nat ⊕ Nat} : Wp E 107 0 (some (.inr (.inr v)) :: ls) st g μ Q = Wp E 107 1 (some (.inr (.inr v)) :: ls) (.inr (.inr v) :: st) g μ Q := Wp_nx k107_0 rfl
theorem k107_1 : mCode 107 1 = some (.iconst 0, 1) := by decide +kernel
theorem x107_1 {E : ME} {ls : MLs} {st : List MV} {g : MG} {μ : MU} {Q : Option MV → MG → MU → Prop} : Wp E 107 1 ls st g μ Q = Wp E 107 2 ls (.inl 0 :: st) g μ Q := Wp_nx k107_1 rfl
theorem k107_2 : mCode 107 2 = some (.putfield 65, 3) := by decide +kernel
theorem x107_2 {E : ME} {ls : MLs} {st : List MV} {g : MG} {μ : MU} {Q : Option MV → MG → MU → Prop} {a : Nat} {v : Int} : Wp E 107 2 ls (.inl v :: .inr (.inr (.inl a)) :: st) g μ Q = ((mKd g a).1 = 6 ∧ Wp E 107 5 ls st g (mUp μ a 0 v) Q) := Wp_putI0 k107_2 f6_65 (by decide) (by decide)
theorem k107_5 : mCode 107 5 = some (.aload_n 0, 1) := by decide +kernel
theorem x107_5 {E : ME} {ls : MLs} {st : List MV} {g : MG} {μ : MU} {Q : Option MV → MG → MU → Prop} {v : Nat ⊕ Nat} : Wp E 107 5 (some (.inr (.inr v)) :: ls) st g μ Q = Wp E 107 6 (some (.inr (.inr v)) :: ls) (.inr (.inr v) :: st) g μ Q := Wp_nx k107_5 rfl
theorem k107_6 : mCode 107 6 = some (.iload_n 1, 1) := by decide +kernel
theorem x107_6 {E : ME} {ls : MLs} {st : List MV} {g : MG} {μ : MU} {Q : Option MV → MG → MU → Prop} {l0 : Option MV} {v : Int} : Wp E 107 6 (l0 :: some (.inl v) :: ls) st g μ Q = Wp E 107 7 (l0 :: some (.inl v) :: ls) (.inl v :: st) g μ Q := Wp_nx k107_6 rfl
theorem k107_7 : mCode 107 7 = some (.invokevirtual 146, 3) := by decide +kernel
theorem x107_7 {E : ME} {ls : MLs} {st : List MV} {g : MG} {μ : MU} {Q : Option MV → MG → MU → Prop} {r : Nat} {a0 : Int} : Wp E 107 7 ls (.inl a0 :: .inr (.inr (.inl r)) :: st) g μ Q = ((st.length ≤ 4 ∧ ((mKd g r).1 == 6) = true) ∧ Wp E 81 0 [some (.inr (.inr (.inl r))), some (.inl a0)] [] g μ (fun r g' μ' => (g'.1 = g.1 ∧ g'.2.1 = g.2.1) ∧ Wp E 107 10 ls (mPush r st) g' μ' Q)) := Wp_cV k107_7 m6_146 (by decide) (as := [.inr (.inr (.inl r)), .inl a0]) rfl rfl rfl ⟨Nat.le_of_ble_eq_true rfl, by decide⟩
theorem k107_10 : mCode 107 10 = some (.ifCond .ne 5, 3) := by decide +kernel
theorem x107_10 {E : ME} {ls : MLs} {st : List MV} {g : MG} {μ : MU} {Q : Option MV → MG → MU → Prop} {a : Int} : Wp E 107 10 ls (.inl a :: st) g μ Q = ((¬ a = 0 → Wp E 107 15 ls st g μ Q) ∧ (a = 0 → Wp E 107 13 ls st g μ Q)) := Wp_if_ne k107_10 (by decide)
theorem k107_13 : mCode 107 13 = some (.iconst (-1), 1) := by decide +kernel
theorem x107_13 {E : ME} {ls : MLs} {st : List MV} {g : MG} {μ : MU} {Q : Option MV → MG → MU → Prop} : Wp E 107 13 ls st g μ Q = Wp E 107 14 ls (.inl (-1) :: st) g μ Q := Wp_nx k107_13 rfl
theorem k107_14 : mCode 107 14 = some (.ireturn, 1) := by decide +kernel
theorem x107_14 {E : ME} {ls : MLs} {g : MG} {μ : MU} {Q : Option MV → MG → MU → Prop} {v : Int} : Wp E 107 14 ls [.inl v] g μ Q = Q (some (.inl v)) g μ := Wp_retI k107_14 (by decide)
theorem k107_15 : mCode 107 15 = some (.aload_n 0, 1) := by decide +kernel
theorem x107_15 {E : ME} {ls : MLs} {st : List MV} {g : MG} {μ : MU} {Q : Option MV → MG → MU → Prop} {v : Nat ⊕ Nat} : Wp E 107 15 (some (.inr (.inr v)) :: ls) st g μ Q = Wp E 107 16 (some (.inr (.inr v)) :: ls) (.inr (.inr v) :: st) g μ Q := Wp_nx k107_15 rfl
theorem k107_16 : mCode 107 16 = some (.invokevirtual 121, 3) := by decide +kernel
theorem x107_16 {E : ME} {ls : MLs} {st : List MV} {g : MG} {μ : MU} {Q : Option MV → MG → MU → Prop} {r : Nat} : Wp E 107 16 ls (.inr (.inr (.inl r)) :: st) g μ Q = ((st.length ≤ 4 ∧ ((mKd g r).1 == 6) = true) ∧ Wp E 84 0 [some (.inr (.inr (.inl r))), none] [] g μ (fun r g' μ' => (g'.1 = g.1 ∧ g'.2.1 = g.2.1) ∧ Wp E 107 19 ls (mPush r st) g' μ' Q)) := Wp_cV k107_16 m6_121 (by decide) (as := [.inr (.inr (.inl r))]) rfl rfl rfl ⟨Nat.le_of_ble_eq_true rfl, by decide⟩
theorem k107_19 : mCode 107 19 = some (.aload_n 0, 1) := by decide +kernel
theorem x107_19 {E : ME} {ls : MLs} {st : List MV} {g : MG} {μ : MU} {Q : Option MV → MG → MU → Prop} {v : Nat ⊕ Nat} : Wp E 107 19 (some (.inr (.inr v)) :: ls) st g μ Q = Wp E 107 20 (some (.inr (.inr v)) :: ls) (.inr (.inr v) :: st) g μ Q := Wp_nx k107_19 rfl
theorem k107_20 : mCode 107 20 = some (.iload_n 1, 1) := by decide +kernel
theorem x107_20 {E : ME} {ls : MLs} {st : List MV} {g : MG} {μ : MU} {Q : Option MV → MG → MU → Prop} {l0 : Option MV} {v : Int} : Wp E 107 20 (l0 :: some (.inl v) :: ls) st g μ Q = Wp E 107 21 (l0 :: some (.inl v) :: ls) (.inl v :: st) g μ Q := Wp_nx k107_20 rfl
theorem k107_21 : mCode 107 21 = some (.invokevirtual 149, 3) := by decide +kernel
theorem x107_21 {E : ME} {ls : MLs} {st : List MV} {g : MG} {μ : MU} {Q : Option MV → MG → MU → Prop} {r : Nat} {a0 : Int} : Wp E 107 21 ls (.inl a0 :: .inr (.inr (.inl r)) :: st) g μ Q = ((st.length ≤ 4 ∧ ((mKd g r).1 == 6) = true) ∧ Wp E 106 0 [some (.inr (.inr (.inl r))), some (.inl a0), none] [] g μ (fun r g' μ' => (g'.1 = g.1 ∧ g'.2.1 = g.2.1) ∧ Wp E 107 24 ls (mPush r st) g' μ' Q)) := Wp_cV k107_21 m6_149 (by decide) (as := [.inr (.inr (.inl r)), .inl a0]) rfl rfl rfl ⟨Nat.le_of_ble_eq_true rfl, by decide⟩
theorem k107_24 : mCode 107 24 = some (.ireturn, 1) := by decide +kernel
theorem x107_24 {E : ME} {ls : MLs} {g : MG} {μ : MU} {Q : Option MV → MG → MU → Prop} {v : Int} : Wp E 107 24 ls [.inl v] g μ Q = Q (some (.inl v)) g μ := Wp_retI k107_24 (by decide)
theorem k108_0 : mCode 108 0 = some (.aload_n 0, 1) := by decide +kernel
theorem x108_0 {E : ME} {ls : MLs} {st : List MV} {g : MG} {μ : MU} {Q : Option MV → MG → MU → Prop} {v : Nat ⊕ Nat} : Wp E 108 0 (some (.inr (.inr v)) :: ls) st g μ Q = Wp E 108 1 (some (.inr (.inr v)) :: ls) (.inr (.inr v) :: st) g μ Q := Wp_nx k108_0 rfl
theorem k108_1 : mCode 108 1 = some (.iload_n 1, 1) := by decide +kernel
theorem x108_1 {E : ME} {ls : MLs} {st : List MV} {g : MG} {μ : MU} {Q : Option MV → MG → MU → Prop} {l0 : Option MV} {v : Int} : Wp E 108 1 (l0 :: some (.inl v) :: ls) st g μ Q = Wp E 108 2 (l0 :: some (.inl v) :: ls) (.inl v :: st) g μ Q := Wp_nx k108_1 rfl
theorem k108_2 : mCode 108 2 = some (.iload_n 2, 1) := by decide +kernel
theorem x108_2 {E : ME} {ls : MLs} {st : List MV} {g : MG} {μ : MU} {Q : Option MV → MG → MU → Prop} {l0 l1 : Option MV} {v : Int} : Wp E 108 2 (l0 :: l1 :: some (.inl v) :: ls) st g μ Q = Wp E 108 3 (l0 :: l1 :: some (.inl v) :: ls) (.inl v :: st) g μ Q := Wp_nx k108_2 rfl
theorem k108_3 : mCode 108 3 = some (.invokevirtual 152, 3) := by decide +kernel
theorem x108_3 {E : ME} {ls : MLs} {st : List MV} {g : MG} {μ : MU} {Q : Option MV → MG → MU → Prop} {r : Nat} {a0 : Int} {a1 : Int} : Wp E 108 3 ls (.inl a1 :: .inl a0 :: .inr (.inr (.inl r)) :: st) g μ Q = ((st.length ≤ 4 ∧ ((mKd g r).1 == 6) = true) ∧ Wp E 83 0 [some (.inr (.inr (.inl r))), some (.inl a0), some (.inl a1)] [] g μ (fun r g' μ' => (g'.1 = g.1 ∧ g'.2.1 = g.2.1) ∧ Wp E 108 6 ls (mPush r st) g' μ' Q)) := Wp_cV k108_3 m6_152 (by decide) (as := [.inr (.inr (.inl r)), .inl a0, .inl a1]) rfl rfl rfl ⟨Nat.le_of_ble_eq_true rfl, by decide⟩
theorem k108_6 : mCode 108 6 = some (.ifCond .ne 7, 3) := by decide +kernel
theorem x108_6 {E : ME} {ls : MLs} {st : List MV} {g : MG} {μ : MU} {Q : Option MV → MG → MU → Prop} {a : Int} : Wp E 108 6 ls (.inl a :: st) g μ Q = ((¬ a = 0 → Wp E 108 13 ls st g μ Q) ∧ (a = 0 → Wp E 108 9 ls st g μ Q)) := Wp_if_ne k108_6 (by decide)
theorem k108_9 : mCode 108 9 = some (.iconst (-1), 1) := by decide +kernel
theorem x108_9 {E : ME} {ls : MLs} {st : List MV} {g : MG} {μ : MU} {Q : Option MV → MG → MU → Prop} : Wp E 108 9 ls st g μ Q = Wp E 108 10 ls (.inl (-1) :: st) g μ Q := Wp_nx k108_9 rfl
theorem k108_10 : mCode 108 10 = some (.goto 20, 3) := by decide +kernel
theorem x108_10 {E : ME} {ls : MLs} {st : List MV} {g : MG} {μ : MU} {Q : Option MV → MG → MU → Prop} : Wp E 108 10 ls st g μ Q = Wp E 108 30 ls st g μ Q := Wp_goto k108_10 (by decide)
theorem k108_13 : mCode 108 13 = some (.iload_n 3, 1) := by decide +kernel
theorem x108_13 {E : ME} {ls : MLs} {st : List MV} {g : MG} {μ : MU} {Q : Option MV → MG → MU → Prop} {l0 l1 l2 : Option MV} {v : Int} : Wp E 108 13 (l0 :: l1 :: l2 :: some (.inl v) :: ls) st g μ Q = Wp E 108 14 (l0 :: l1 :: l2 :: some (.inl v) :: ls) (.inl v :: st) g μ Q := Wp_nx k108_13 rfl
theorem k108_14 : mCode 108 14 = some (.iconst 0, 1) := by decide +kernel
theorem x108_14 {E : ME} {ls : MLs} {st : List MV} {g : MG} {μ : MU} {Q : Option MV → MG → MU → Prop} : Wp E 108 14 ls st g μ Q = Wp E 108 15 ls (.inl 0 :: st) g μ Q := Wp_nx k108_14 rfl
theorem k108_15 : mCode 108 15 = some (.sipush 1439, 3) := by decide +kernel
theorem x108_15 {E : ME} {ls : MLs} {st : List MV} {g : MG} {μ : MU} {Q : Option MV → MG → MU → Prop} : Wp E 108 15 ls st g μ Q = Wp E 108 18 ls (.inl 1439 :: st) g μ Q := Wp_nx k108_15 rfl
theorem k108_18 : mCode 108 18 = some (.invokestatic 69, 3) := by decide +kernel
theorem x108_18 {E : ME} {ls : MLs} {st : List MV} {g : MG} {μ : MU} {Q : Option MV → MG → MU → Prop} {a0 : Int} {a1 : Int} {a2 : Int} : Wp E 108 18 ls (.inl a2 :: .inl a1 :: .inl a0 :: st) g μ Q = (st.length ≤ 4 ∧ Wp E 77 0 [some (.inl a0), some (.inl a1), some (.inl a2)] [] g μ (fun r g' μ' => (g'.1 = g.1 ∧ g'.2.1 = g.2.1) ∧ Wp E 108 21 ls (mPush r st) g' μ' Q)) := Wp_cS k108_18 m6_69 (by decide) (as := [.inl a0, .inl a1, .inl a2]) rfl rfl rfl ⟨Nat.le_of_ble_eq_true rfl, by decide⟩
theorem k108_21 : mCode 108 21 = some (.ifCond .eq 7, 3) := by decide +kernel
theorem x108_21 {E : ME} {ls : MLs} {st : List MV} {g : MG} {μ : MU} {Q : Option MV → MG → MU → Prop} {a : Int} : Wp E 108 21 ls (.inl a :: st) g μ Q = ((a = 0 → Wp E 108 28 ls st g μ Q) ∧ (¬ a = 0 → Wp E 108 24 ls st g μ Q)) := Wp_if_eq k108_21 (by decide)
theorem k108_24 : mCode 108 24 = some (.iconst 0, 1) := by decide +kernel
theorem x108_24 {E : ME} {ls : MLs} {st : List MV} {g : MG} {μ : MU} {Q : Option MV → MG → MU → Prop} : Wp E 108 24 ls st g μ Q = Wp E 108 25 ls (.inl 0 :: st) g μ Q := Wp_nx k108_24 rfl
theorem k108_25 : mCode 108 25 = some (.goto 5, 3) := by decide +kernel
theorem x108_25 {E : ME} {ls : MLs} {st : List MV} {g : MG} {μ : MU} {Q : Option MV → MG → MU → Prop} : Wp E 108 25 ls st g μ Q = Wp E 108 30 ls st g μ Q := Wp_goto k108_25 (by decide)
theorem k108_28 : mCode 108 28 = some (.bipush (-2), 2) := by decide +kernel
theorem x108_28 {E : ME} {ls : MLs} {st : List MV} {g : MG} {μ : MU} {Q : Option MV → MG → MU → Prop} : Wp E 108 28 ls st g μ Q = Wp E 108 30 ls (.inl (-2) :: st) g μ Q := Wp_nx k108_28 rfl
theorem k108_30 : mCode 108 30 = some (.ireturn, 1) := by decide +kernel
theorem x108_30 {E : ME} {ls : MLs} {g : MG} {μ : MU} {Q : Option MV → MG → MU → Prop} {v : Int} : Wp E 108 30 ls [.inl v] g μ Q = Q (some (.inl v)) g μ := Wp_retI k108_30 (by decide)
theorem k109_0 : mCode 109 0 = some (.aload_n 0, 1) := by decide +kernel
theorem x109_0 {E : ME} {ls : MLs} {st : List MV} {g : MG} {μ : MU} {Q : Option MV → MG → MU → Prop} {v : Nat ⊕ Nat} : Wp E 109 0 (some (.inr (.inr v)) :: ls) st g μ Q = Wp E 109 1 (some (.inr (.inr v)) :: ls) (.inr (.inr v) :: st) g μ Q := Wp_nx k109_0 rfl
theorem k109_1 : mCode 109 1 = some (.iload_n 1, 1) := by decide +kernel
theorem x109_1 {E : ME} {ls : MLs} {st : List MV} {g : MG} {μ : MU} {Q : Option MV → MG → MU → Prop} {l0 : Option MV} {v : Int} : Wp E 109 1 (l0 :: some (.inl v) :: ls) st g μ Q = Wp E 109 2 (l0 :: some (.inl v) :: ls) (.inl v :: st) g μ Q := Wp_nx k109_1 rfl
theorem k109_2 : mCode 109 2 = some (.iconst 3, 1) := by decide +kernel
theorem x109_2 {E : ME} {ls : MLs} {st : List MV} {g : MG} {μ : MU} {Q : Option MV → MG → MU → Prop} : Wp E 109 2 ls st g μ Q = Wp E 109 3 ls (.inl 3 :: st) g μ Q := Wp_nx k109_2 rfl
theorem k109_3 : mCode 109 3 = some (.iload_n 2, 1) := by decide +kernel
theorem x109_3 {E : ME} {ls : MLs} {st : List MV} {g : MG} {μ : MU} {Q : Option MV → MG → MU → Prop} {l0 l1 : Option MV} {v : Int} : Wp E 109 3 (l0 :: l1 :: some (.inl v) :: ls) st g μ Q = Wp E 109 4 (l0 :: l1 :: some (.inl v) :: ls) (.inl v :: st) g μ Q := Wp_nx k109_3 rfl
theorem k109_4 : mCode 109 4 = some (.iadd, 1) := by decide +kernel
theorem x109_4 {E : ME} {ls : MLs} {st : List MV} {g : MG} {μ : MU} {Q : Option MV → MG → MU → Prop} {a b : Int} : Wp E 109 4 ls (.inl b :: .inl a :: st) g μ Q = Wp E 109 5 ls (.inl (mWr (a + b)) :: st) g μ Q := Wp_nx k109_4 rfl
theorem k109_5 : mCode 109 5 = some (.invokevirtual 77, 3) := by decide +kernel
theorem x109_5 {E : ME} {ls : MLs} {st : List MV} {g : MG} {μ : MU} {Q : Option MV → MG → MU → Prop} {r : Nat} {a0 : Int} {a1 : Int} : Wp E 109 5 ls (.inl a1 :: .inl a0 :: .inr (.inr (.inl r)) :: st) g μ Q = ((st.length ≤ 4 ∧ ((mKd g r).1 == 6) = true) ∧ Wp E 78 0 [some (.inr (.inr (.inl r))), some (.inl a0), some (.inl a1)] [] g μ (fun r g' μ' => (g'.1 = g.1 ∧ g'.2.1 = g.2.1) ∧ Wp E 109 8 ls (mPush r st) g' μ' Q)) := Wp_cV k109_5 m6_77 (by decide) (as := [.inr (.inr (.inl r)), .inl a0, .inl a1]) rfl rfl rfl ⟨Nat.le_of_ble_eq_true rfl, by decide⟩
theorem k109_8 : mCode 109 8 = some (.istore_n 3, 1) := by decide +kernel
theorem x109_8 {E : ME} {ls : MLs} {st : List MV} {g : MG} {μ : MU} {Q : Option MV → MG → MU → Prop} {l0 l1 l2 : Option MV} {lk : Option MV} {v : Int} : Wp E 109 8 (l0 :: l1 :: l2 :: lk :: ls) (.inl v :: st) g μ Q = ((mNl (some l2) = true ∧ mNl (some lk) = true) ∧ Wp E 109 9 (l0 :: l1 :: l2 :: some (.inl v) :: ls) st g μ Q) := Wp_sti k109_8 (fun _ => rfl) rfl rfl rfl
theorem k109_9 : mCode 109 9 = some (.iload_n 3, 1) := by decide +kernel
theorem x109_9 {E : ME} {ls : MLs} {st : List MV} {g : MG} {μ : MU} {Q : Option MV → MG → MU → Prop} {l0 l1 l2 : Option MV} {v : Int} : Wp E 109 9 (l0 :: l1 :: l2 :: some (.inl v) :: ls) st g μ Q = Wp E 109 10 (l0 :: l1 :: l2 :: some (.inl v) :: ls) (.inl v :: st) g μ Q := Wp_nx k109_9 rfl
theorem k109_10 : mCode 109 10 = some (.ifCond .ne 8, 3) := by decide +kernel
theorem x109_10 {E : ME} {ls : MLs} {st : List MV} {g : MG} {μ : MU} {Q : Option MV → MG → MU → Prop} {a : Int} : Wp E 109 10 ls (.inl a :: st) g μ Q = ((¬ a = 0 → Wp E 109 18 ls st g μ Q) ∧ (a = 0 → Wp E 109 13 ls st g μ Q)) := Wp_if_ne k109_10 (by decide)
theorem k109_13 : mCode 109 13 = some (.bipush (-6), 2) := by decide +kernel
theorem x109_13 {E : ME} {ls : MLs} {st : List MV} {g : MG} {μ : MU} {Q : Option MV → MG → MU → Prop} : Wp E 109 13 ls st g μ Q = Wp E 109 15 ls (.inl (-6) :: st) g μ Q := Wp_nx k109_13 rfl
theorem k109_15 : mCode 109 15 = some (.goto 6, 3) := by decide +kernel
theorem x109_15 {E : ME} {ls : MLs} {st : List MV} {g : MG} {μ : MU} {Q : Option MV → MG → MU → Prop} : Wp E 109 15 ls st g μ Q = Wp E 109 21 ls st g μ Q := Wp_goto k109_15 (by decide)
theorem k109_18 : mCode 109 18 = some (.iload_n 3, 1) := by decide +kernel
theorem x109_18 {E : ME} {ls : MLs} {st : List MV} {g : MG} {μ : MU} {Q : Option MV → MG → MU → Prop} {l0 l1 l2 : Option MV} {v : Int} : Wp E 109 18 (l0 :: l1 :: l2 :: some (.inl v) :: ls) st g μ Q = Wp E 109 19 (l0 :: l1 :: l2 :: some (.inl v) :: ls) (.inl v :: st) g μ Q := Wp_nx k109_18 rfl
theorem k109_19 : mCode 109 19 = some (.iconst 1, 1) := by decide +kernel
theorem x109_19 {E : ME} {ls : MLs} {st : List MV} {g : MG} {μ : MU} {Q : Option MV → MG → MU → Prop} : Wp E 109 19 ls st g μ Q = Wp E 109 20 ls (.inl 1 :: st) g μ Q := Wp_nx k109_19 rfl
theorem k109_20 : mCode 109 20 = some (.isub, 1) := by decide +kernel
theorem x109_20 {E : ME} {ls : MLs} {st : List MV} {g : MG} {μ : MU} {Q : Option MV → MG → MU → Prop} {a b : Int} : Wp E 109 20 ls (.inl b :: .inl a :: st) g μ Q = Wp E 109 21 ls (.inl (mWr (a - b)) :: st) g μ Q := Wp_nx k109_20 rfl
theorem k109_21 : mCode 109 21 = some (.ireturn, 1) := by decide +kernel
theorem x109_21 {E : ME} {ls : MLs} {g : MG} {μ : MU} {Q : Option MV → MG → MU → Prop} {v : Int} : Wp E 109 21 ls [.inl v] g μ Q = Q (some (.inl v)) g μ := Wp_retI k109_21 (by decide)
theorem k110_0 : mCode 110 0 = some (.aload_n 0, 1) := by decide +kernel
theorem x110_0 {E : ME} {ls : MLs} {st : List MV} {g : MG} {μ : MU} {Q : Option MV → MG → MU → Prop} {v : Nat ⊕ Nat} : Wp E 110 0 (some (.inr (.inr v)) :: ls) st g μ Q = Wp E 110 1 (some (.inr (.inr v)) :: ls) (.inr (.inr v) :: st) g μ Q := Wp_nx k110_0 rfl
theorem k110_1 : mCode 110 1 = some (.iconst 0, 1) := by decide +kernel
theorem x110_1 {E : ME} {ls : MLs} {st : List MV} {g : MG} {μ : MU} {Q : Option MV → MG → MU → Prop} : Wp E 110 1 ls st g μ Q = Wp E 110 2 ls (.inl 0 :: st) g μ Q := Wp_nx k110_1 rfl
theorem k110_2 : mCode 110 2 = some (.putfield 65, 3) := by decide +kernel
theorem x110_2 {E : ME} {ls : MLs} {st : List MV} {g : MG} {μ : MU} {Q : Option MV → MG → MU → Prop} {a : Nat} {v : Int} : Wp E 110 2 ls (.inl v :: .inr (.inr (.inl a)) :: st) g μ Q = ((mKd g a).1 = 6 ∧ Wp E 110 5 ls st g (mUp μ a 0 v) Q) := Wp_putI0 k110_2 f6_65 (by decide) (by decide)
theorem k110_5 : mCode 110 5 = some (.aload_n 0, 1) := by decide +kernel
theorem x110_5 {E : ME} {ls : MLs} {st : List MV} {g : MG} {μ : MU} {Q : Option MV → MG → MU → Prop} {v : Nat ⊕ Nat} : Wp E 110 5 (some (.inr (.inr v)) :: ls) st g μ Q = Wp E 110 6 (some (.inr (.inr v)) :: ls) (.inr (.inr v) :: st) g μ Q := Wp_nx k110_5 rfl
theorem k110_6 : mCode 110 6 = some (.iload_n 1, 1) := by decide +kernel
theorem x110_6 {E : ME} {ls : MLs} {st : List MV} {g : MG} {μ : MU} {Q : Option MV → MG → MU → Prop} {l0 : Option MV} {v : Int} : Wp E 110 6 (l0 :: some (.inl v) :: ls) st g μ Q = Wp E 110 7 (l0 :: some (.inl v) :: ls) (.inl v :: st) g μ Q := Wp_nx k110_6 rfl
theorem k110_7 : mCode 110 7 = some (.iload_n 2, 1) := by decide +kernel
theorem x110_7 {E : ME} {ls : MLs} {st : List MV} {g : MG} {μ : MU} {Q : Option MV → MG → MU → Prop} {l0 l1 : Option MV} {v : Int} : Wp E 110 7 (l0 :: l1 :: some (.inl v) :: ls) st g μ Q = Wp E 110 8 (l0 :: l1 :: some (.inl v) :: ls) (.inl v :: st) g μ Q := Wp_nx k110_7 rfl
theorem k110_8 : mCode 110 8 = some (.iload_n 3, 1) := by decide +kernel
theorem x110_8 {E : ME} {ls : MLs} {st : List MV} {g : MG} {μ : MU} {Q : Option MV → MG → MU → Prop} {l0 l1 l2 : Option MV} {v : Int} : Wp E 110 8 (l0 :: l1 :: l2 :: some (.inl v) :: ls) st g μ Q = Wp E 110 9 (l0 :: l1 :: l2 :: some (.inl v) :: ls) (.inl v :: st) g μ Q := Wp_nx k110_8 rfl
theorem k110_9 : mCode 110 9 = some (.invokevirtual 155, 3) := by decide +kernel
theorem x110_9 {E : ME} {ls : MLs} {st : List MV} {g : MG} {μ : MU} {Q : Option MV → MG → MU → Prop} {r : Nat} {a0 : Int} {a1 : Int} {a2 : Int} : Wp E 110 9 ls (.inl a2 :: .inl a1 :: .inl a0 :: .inr (.inr (.inl r)) :: st) g μ Q = ((st.length ≤ 4 ∧ ((mKd g r).1 == 6) = true) ∧ Wp E 108 0 [some (.inr (.inr (.inl r))), some (.inl a0), some (.inl a1), some (.inl a2)] [] g μ (fun r g' μ' => (g'.1 = g.1 ∧ g'.2.1 = g.2.1) ∧ Wp E 110 12 ls (mPush r st) g' μ' Q)) := Wp_cV k110_9 m6_155 (by decide) (as := [.inr (.inr (.inl r)), .inl a0, .inl a1, .inl a2]) rfl rfl rfl ⟨Nat.le_of_ble_eq_true rfl, by decide⟩
theorem k110_12 : mCode 110 12 = some (.istore 4, 2) := by decide +kernel
theorem x110_12 {E : ME} {ls : MLs} {st : List MV} {g : MG} {μ : MU} {Q : Option MV → MG → MU → Prop} {l0 l1 l2 l3 : Option MV} {lk : Option MV} {v : Int} : Wp E 110 12 (l0 :: l1 :: l2 :: l3 :: lk :: ls) (.inl v :: st) g μ Q = ((mNl (some l3) = true ∧ mNl (some lk) = true) ∧ Wp E 110 14 (l0 :: l1 :: l2 :: l3 :: some (.inl v) :: ls) st g μ Q) := Wp_sti k110_12 (fun _ => rfl) rfl rfl rfl
theorem k110_14 : mCode 110 14 = some (.iload 4, 2) := by decide +kernel
theorem x110_14 {E : ME} {ls : MLs} {st : List MV} {g : MG} {μ : MU} {Q : Option MV → MG → MU → Prop} {l0 l1 l2 l3 : Option MV} {v : Int} : Wp E 110 14 (l0 :: l1 :: l2 :: l3 :: some (.inl v) :: ls) st g μ Q = Wp E 110 16 (l0 :: l1 :: l2 :: l3 :: some (.inl v) :: ls) (.inl v :: st) g μ Q := Wp_nx k110_14 rfl
theorem k110_16 : mCode 110 16 = some (.ifCond .eq 6, 3) := by decide +kernel
theorem x110_16 {E : ME} {ls : MLs} {st : List MV} {g : MG} {μ : MU} {Q : Option MV → MG → MU → Prop} {a : Int} : Wp E 110 16 ls (.inl a :: st) g μ Q = ((a = 0 → Wp E 110 22 ls st g μ Q) ∧ (¬ a = 0 → Wp E 110 19 ls st g μ Q)) := Wp_if_eq k110_16 (by decide)
theorem k110_19 : mCode 110 19 = some (.iload 4, 2) := by decide +kernel
theorem x110_19 {E : ME} {ls : MLs} {st : List MV} {g : MG} {μ : MU} {Q : Option MV → MG → MU → Prop} {l0 l1 l2 l3 : Option MV} {v : Int} : Wp E 110 19 (l0 :: l1 :: l2 :: l3 :: some (.inl v) :: ls) st g μ Q = Wp E 110 21 (l0 :: l1 :: l2 :: l3 :: some (.inl v) :: ls) (.inl v :: st) g μ Q := Wp_nx k110_19 rfl
theorem k110_21 : mCode 110 21 = some (.ireturn, 1) := by decide +kernel
theorem x110_21 {E : ME} {ls : MLs} {g : MG} {μ : MU} {Q : Option MV → MG → MU → Prop} {v : Int} : Wp E 110 21 ls [.inl v] g μ Q = Q (some (.inl v)) g μ := Wp_retI k110_21 (by decide)
theorem k110_22 : mCode 110 22 = some (.aload_n 0, 1) := by decide +kernel
theorem x110_22 {E : ME} {ls : MLs} {st : List MV} {g : MG} {μ : MU} {Q : Option MV → MG → MU → Prop} {v : Nat ⊕ Nat} : Wp E 110 22 (some (.inr (.inr v)) :: ls) st g μ Q = Wp E 110 23 (some (.inr (.inr v)) :: ls) (.inr (.inr v) :: st) g μ Q := Wp_nx k110_22 rfl
theorem k110_23 : mCode 110 23 = some (.invokevirtual 121, 3) := by decide +kernel
theorem x110_23 {E : ME} {ls : MLs} {st : List MV} {g : MG} {μ : MU} {Q : Option MV → MG → MU → Prop} {r : Nat} : Wp E 110 23 ls (.inr (.inr (.inl r)) :: st) g μ Q = ((st.length ≤ 4 ∧ ((mKd g r).1 == 6) = true) ∧ Wp E 84 0 [some (.inr (.inr (.inl r))), none] [] g μ (fun r g' μ' => (g'.1 = g.1 ∧ g'.2.1 = g.2.1) ∧ Wp E 110 26 ls (mPush r st) g' μ' Q)) := Wp_cV k110_23 m6_121 (by decide) (as := [.inr (.inr (.inl r))]) rfl rfl rfl ⟨Nat.le_of_ble_eq_true rfl, by decide⟩
theorem k110_26 : mCode 110 26 = some (.aload_n 0, 1) := by decide +kernel
theorem x110_26 {E : ME} {ls : MLs} {st : List MV} {g : MG} {μ : MU} {Q : Option MV → MG → MU → Prop} {v : Nat ⊕ Nat} : Wp E 110 26 (some (.inr (.inr v)) :: ls) st g μ Q = Wp E 110 27 (some (.inr (.inr v)) :: ls) (.inr (.inr v) :: st) g μ Q := Wp_nx k110_26 rfl
theorem k110_27 : mCode 110 27 = some (.iload_n 1, 1) := by decide +kernel
theorem x110_27 {E : ME} {ls : MLs} {st : List MV} {g : MG} {μ : MU} {Q : Option MV → MG → MU → Prop} {l0 : Option MV} {v : Int} : Wp E 110 27 (l0 :: some (.inl v) :: ls) st g μ Q = Wp E 110 28 (l0 :: some (.inl v) :: ls) (.inl v :: st) g μ Q := Wp_nx k110_27 rfl
theorem k110_28 : mCode 110 28 = some (.iload_n 2, 1) := by decide +kernel
theorem x110_28 {E : ME} {ls : MLs} {st : List MV} {g : MG} {μ : MU} {Q : Option MV → MG → MU → Prop} {l0 l1 : Option MV} {v : Int} : Wp E 110 28 (l0 :: l1 :: some (.inl v) :: ls) st g μ Q = Wp E 110 29 (l0 :: l1 :: some (.inl v) :: ls) (.inl v :: st) g μ Q := Wp_nx k110_28 rfl
theorem k110_29 : mCode 110 29 = some (.invokevirtual 158, 3) := by decide +kernel
theorem x110_29 {E : ME} {ls : MLs} {st : List MV} {g : MG} {μ : MU} {Q : Option MV → MG → MU → Prop} {r : Nat} {a0 : Int} {a1 : Int} : Wp E 110 29 ls (.inl a1 :: .inl a0 :: .inr (.inr (.inl r)) :: st) g μ Q = ((st.length ≤ 4 ∧ ((mKd g r).1 == 6) = true) ∧ Wp E 109 0 [some (.inr (.inr (.inl r))), some (.inl a0), some (.inl a1), none] [] g μ (fun r g' μ' => (g'.1 = g.1 ∧ g'.2.1 = g.2.1) ∧ Wp E 110 32 ls (mPush r st) g' μ' Q)) := Wp_cV k110_29 m6_158 (by decide) (as := [.inr (.inr (.inl r)), .inl a0, .inl a1]) rfl rfl rfl ⟨Nat.le_of_ble_eq_true rfl, by decide⟩
theorem k110_32 : mCode 110 32 = some (.istore 5, 2) := by decide +kernel
theorem x110_32 {E : ME} {ls : MLs} {st : List MV} {g : MG} {μ : MU} {Q : Option MV → MG → MU → Prop} {l0 l1 l2 l3 l4 : Option MV} {lk : Option MV} {v : Int} : Wp E 110 32 (l0 :: l1 :: l2 :: l3 :: l4 :: lk :: ls) (.inl v :: st) g μ Q = ((mNl (some l4) = true ∧ mNl (some lk) = true) ∧ Wp E 110 34 (l0 :: l1 :: l2 :: l3 :: l4 :: some (.inl v) :: ls) st g μ Q) := Wp_sti k110_32 (fun _ => rfl) rfl rfl rfl
theorem k110_34 : mCode 110 34 = some (.aload_n 0, 1) := by decide +kernel
theorem x110_34 {E : ME} {ls : MLs} {st : List MV} {g : MG} {μ : MU} {Q : Option MV → MG → MU → Prop} {v : Nat ⊕ Nat} : Wp E 110 34 (some (.inr (.inr v)) :: ls) st g μ Q = Wp E 110 35 (some (.inr (.inr v)) :: ls) (.inr (.inr v) :: st) g μ Q := Wp_nx k110_34 rfl
theorem k110_35 : mCode 110 35 = some (.getfield 7, 3) := by decide +kernel
theorem x110_35 {E : ME} {ls : MLs} {st : List MV} {g : MG} {μ : MU} {Q : Option MV → MG → MU → Prop} {a : Nat} : Wp E 110 35 ls (.inr (.inr (.inl a)) :: st) g μ Q = ((mKd g a).1 = 6 ∧ Wp E 110 38 ls (mRv (mRf g a 1) :: st) g μ Q) := Wp_getR k110_35 f6_7 (by decide) (by decide)
theorem k110_38 : mCode 110 38 = some (.bipush 23, 2) := by decide +kernel
theorem x110_38 {E : ME} {ls : MLs} {st : List MV} {g : MG} {μ : MU} {Q : Option MV → MG → MU → Prop} : Wp E 110 38 ls st g μ Q = Wp E 110 40 ls (.inl 23 :: st) g μ Q := Wp_nx k110_38 rfl
theorem k110_40 : mCode 110 40 = some (.bipush 9, 2) := by decide +kernel
theorem x110_40 {E : ME} {ls : MLs} {st : List MV} {g : MG} {μ : MU} {Q : Option MV → MG → MU → Prop} : Wp E 110 40 ls st g μ Q = Wp E 110 42 ls (.inl 9 :: st) g μ Q := Wp_nx k110_40 rfl
theorem k110_42 : mCode 110 42 = some (.iload_n 1, 1) := by decide +kernel
theorem x110_42 {E : ME} {ls : MLs} {st : List MV} {g : MG} {μ : MU} {Q : Option MV → MG → MU → Prop} {l0 : Option MV} {v : Int} : Wp E 110 42 (l0 :: some (.inl v) :: ls) st g μ Q = Wp E 110 43 (l0 :: some (.inl v) :: ls) (.inl v :: st) g μ Q := Wp_nx k110_42 rfl
theorem k110_43 : mCode 110 43 = some (.imul, 1) := by decide +kernel
theorem x110_43 {E : ME} {ls : MLs} {st : List MV} {g : MG} {μ : MU} {Q : Option MV → MG → MU → Prop} {a b : Int} : Wp E 110 43 ls (.inl b :: .inl a :: st) g μ Q = Wp E 110 44 ls (.inl (mWr (a * b)) :: st) g μ Q := Wp_nx k110_43 rfl
theorem k110_44 : mCode 110 44 = some (.iadd, 1) := by decide +kernel
theorem x110_44 {E : ME} {ls : MLs} {st : List MV} {g : MG} {μ : MU} {Q : Option MV → MG → MU → Prop} {a b : Int} : Wp E 110 44 ls (.inl b :: .inl a :: st) g μ Q = Wp E 110 45 ls (.inl (mWr (a + b)) :: st) g μ Q := Wp_nx k110_44 rfl
theorem k110_45 : mCode 110 45 = some (.iconst 3, 1) := by decide +kernel
theorem x110_45 {E : ME} {ls : MLs} {st : List MV} {g : MG} {μ : MU} {Q : Option MV → MG → MU → Prop} : Wp E 110 45 ls st g μ Q = Wp E 110 46 ls (.inl 3 :: st) g μ Q := Wp_nx k110_45 rfl
theorem k110_46 : mCode 110 46 = some (.iadd, 1) := by decide +kernel
theorem x110_46 {E : ME} {ls : MLs} {st : List MV} {g : MG} {μ : MU} {Q : Option MV → MG → MU → Prop} {a b : Int} : Wp E 110 46 ls (.inl b :: .inl a :: st) g μ Q = Wp E 110 47 ls (.inl (mWr (a + b)) :: st) g μ Q := Wp_nx k110_46 rfl
theorem k110_47 : mCode 110 47 = some (.iload_n 2, 1) := by decide +kernel
theorem x110_47 {E : ME} {ls : MLs} {st : List MV} {g : MG} {μ : MU} {Q : Option MV → MG → MU → Prop} {l0 l1 : Option MV} {v : Int} : Wp E 110 47 (l0 :: l1 :: some (.inl v) :: ls) st g μ Q = Wp E 110 48 (l0 :: l1 :: some (.inl v) :: ls) (.inl v :: st) g μ Q := Wp_nx k110_47 rfl
theorem k110_48 : mCode 110 48 = some (.iadd, 1) := by decide +kernel
theorem x110_48 {E : ME} {ls : MLs} {st : List MV} {g : MG} {μ : MU} {Q : Option MV → MG → MU → Prop} {a b : Int} : Wp E 110 48 ls (.inl b :: .inl a :: st) g μ Q = Wp E 110 49 ls (.inl (mWr (a + b)) :: st) g μ Q := Wp_nx k110_48 rfl
theorem k110_49 : mCode 110 49 = some (.iload_n 3, 1) := by decide +kernel
theorem x110_49 {E : ME} {ls : MLs} {st : List MV} {g : MG} {μ : MU} {Q : Option MV → MG → MU → Prop} {l0 l1 l2 : Option MV} {v : Int} : Wp E 110 49 (l0 :: l1 :: l2 :: some (.inl v) :: ls) st g μ Q = Wp E 110 50 (l0 :: l1 :: l2 :: some (.inl v) :: ls) (.inl v :: st) g μ Q := Wp_nx k110_49 rfl
theorem k110_50 : mCode 110 50 = some (.iconst 1, 1) := by decide +kernel
theorem x110_50 {E : ME} {ls : MLs} {st : List MV} {g : MG} {μ : MU} {Q : Option MV → MG → MU → Prop} : Wp E 110 50 ls st g μ Q = Wp E 110 51 ls (.inl 1 :: st) g μ Q := Wp_nx k110_50 rfl
theorem k110_51 : mCode 110 51 = some (.iadd, 1) := by decide +kernel
theorem x110_51 {E : ME} {ls : MLs} {st : List MV} {g : MG} {μ : MU} {Q : Option MV → MG → MU → Prop} {a b : Int} : Wp E 110 51 ls (.inl b :: .inl a :: st) g μ Q = Wp E 110 52 ls (.inl (mWr (a + b)) :: st) g μ Q := Wp_nx k110_51 rfl
theorem k110_52 : mCode 110 52 = some (.iastore, 1) := by decide +kernel
theorem x110_52 {E : ME} {ls : MLs} {st : List MV} {g : MG} {μ : MU} {Q : Option MV → MG → MU → Prop} {a : Nat} {j v : Int} : Wp E 110 52 ls (.inl v :: .inl j :: .inr (.inr (.inl a)) :: st) g μ Q = (((mKd g a).1 = 10 ∧ 0 ≤ j ∧ j < (mKd g a).2) ∧ Wp E 110 53 ls st g (mUp μ a j.toNat v) Q) := Wp_iast k110_52
theorem k110_53 : mCode 110 53 = some (.iload 5, 2) := by decide +kernel
theorem x110_53 {E : ME} {ls : MLs} {st : List MV} {g : MG} {μ : MU} {Q : Option MV → MG → MU → Prop} {l0 l1 l2 l3 l4 : Option MV} {v : Int} : Wp E 110 53 (l0 :: l1 :: l2 :: l3 :: l4 :: some (.inl v) :: ls) st g μ Q = Wp E 110 55 (l0 :: l1 :: l2 :: l3 :: l4 :: some (.inl v) :: ls) (.inl v :: st) g μ Q := Wp_nx k110_53 rfl
theorem k110_55 : mCode 110 55 = some (.ireturn, 1) := by decide +kernel
theorem x110_55 {E : ME} {ls : MLs} {g : MG} {μ : MU} {Q : Option MV → MG → MU → Prop} {v : Int} : Wp E 110 55 ls [.inl v] g μ Q = Q (some (.inl v)) g μ := Wp_retI k110_55 (by decide)
theorem k111_0 : mCode 111 0 = some (.aload_n 0, 1) := by decide +kernel
theorem x111_0 {E : ME} {ls : MLs} {st : List MV} {g : MG} {μ : MU} {Q : Option MV → MG → MU → Prop} {v : Nat ⊕ Nat} : Wp E 111 0 (some (.inr (.inr v)) :: ls) st g μ Q = Wp E 111 1 (some (.inr (.inr v)) :: ls) (.inr (.inr v) :: st) g μ Q := Wp_nx k111_0 rfl
theorem k111_1 : mCode 111 1 = some (.iconst 0, 1) := by decide +kernel
theorem x111_1 {E : ME} {ls : MLs} {st : List MV} {g : MG} {μ : MU} {Q : Option MV → MG → MU → Prop} : Wp E 111 1 ls st g μ Q = Wp E 111 2 ls (.inl 0 :: st) g μ Q := Wp_nx k111_1 rfl
theorem k111_2 : mCode 111 2 = some (.putfield 65, 3) := by decide +kernel
theorem x111_2 {E : ME} {ls : MLs} {st : List MV} {g : MG} {μ : MU} {Q : Option MV → MG → MU → Prop} {a : Nat} {v : Int} : Wp E 111 2 ls (.inl v :: .inr (.inr (.inl a)) :: st) g μ Q = ((mKd g a).1 = 6 ∧ Wp E 111 5 ls st g (mUp μ a 0 v) Q) := Wp_putI0 k111_2 f6_65 (by decide) (by decide)
theorem k111_5 : mCode 111 5 = some (.aload_n 0, 1) := by decide +kernel
theorem x111_5 {E : ME} {ls : MLs} {st : List MV} {g : MG} {μ : MU} {Q : Option MV → MG → MU → Prop} {v : Nat ⊕ Nat} : Wp E 111 5 (some (.inr (.inr v)) :: ls) st g μ Q = Wp E 111 6 (some (.inr (.inr v)) :: ls) (.inr (.inr v) :: st) g μ Q := Wp_nx k111_5 rfl
theorem k111_6 : mCode 111 6 = some (.iload_n 1, 1) := by decide +kernel
theorem x111_6 {E : ME} {ls : MLs} {st : List MV} {g : MG} {μ : MU} {Q : Option MV → MG → MU → Prop} {l0 : Option MV} {v : Int} : Wp E 111 6 (l0 :: some (.inl v) :: ls) st g μ Q = Wp E 111 7 (l0 :: some (.inl v) :: ls) (.inl v :: st) g μ Q := Wp_nx k111_6 rfl
theorem k111_7 : mCode 111 7 = some (.iload_n 2, 1) := by decide +kernel
theorem x111_7 {E : ME} {ls : MLs} {st : List MV} {g : MG} {μ : MU} {Q : Option MV → MG → MU → Prop} {l0 l1 : Option MV} {v : Int} : Wp E 111 7 (l0 :: l1 :: some (.inl v) :: ls) st g μ Q = Wp E 111 8 (l0 :: l1 :: some (.inl v) :: ls) (.inl v :: st) g μ Q := Wp_nx k111_7 rfl
theorem k111_8 : mCode 111 8 = some (.invokevirtual 152, 3) := by decide +kernel
theorem x111_8 {E : ME} {ls : MLs} {st : List MV} {g : MG} {μ : MU} {Q : Option MV → MG → MU → Prop} {r : Nat} {a0 : Int} {a1 : Int} : Wp E 111 8 ls (.inl a1 :: .inl a0 :: .inr (.inr (.inl r)) :: st) g μ Q = ((st.length ≤ 4 ∧ ((mKd g r).1 == 6) = true) ∧ Wp E 83 0 [some (.inr (.inr (.inl r))), some (.inl a0), some (.inl a1)] [] g μ (fun r g' μ' => (g'.1 = g.1 ∧ g'.2.1 = g.2.1) ∧ Wp E 111 11 ls (mPush r st) g' μ' Q)) := Wp_cV k111_8 m6_152 (by decide) (as := [.inr (.inr (.inl r)), .inl a0, .inl a1]) rfl rfl rfl ⟨Nat.le_of_ble_eq_true rfl, by decide⟩
theorem k111_11 : mCode 111 11 = some (.ifCond .ne 5, 3) := by decide +kernel
theorem x111_11 {E : ME} {ls : MLs} {st : List MV} {g : MG} {μ : MU} {Q : Option MV → MG → MU → Prop} {a : Int} : Wp E 111 11 ls (.inl a :: st) g μ Q = ((¬ a = 0 → Wp E 111 16 ls st g μ Q) ∧ (a = 0 → Wp E 111 14 ls st g μ Q)) := Wp_if_ne k111_11 (by decide)
theorem k111_14 : mCode 111 14 = some (.iconst (-1), 1) := by decide +kernel
theorem x111_14 {E : ME} {ls : MLs} {st : List MV} {g : MG} {μ : MU} {Q : Option MV → MG → MU → Prop} : Wp E 111 14 ls st g μ Q = Wp E 111 15 ls (.inl (-1) :: st) g μ Q := Wp_nx k111_14 rfl
theorem k111_15 : mCode 111 15 = some (.ireturn, 1) := by decide +kernel
theorem x111_15 {E : ME} {ls : MLs} {g : MG} {μ : MU} {Q : Option MV → MG → MU → Prop} {v : Int} : Wp E 111 15 ls [.inl v] g μ Q = Q (some (.inl v)) g μ := Wp_retI k111_15 (by decide)
theorem k111_16 : mCode 111 16 = some (.aload_n 0, 1) := by decide +kernel
theorem x111_16 {E : ME} {ls : MLs} {st : List MV} {g : MG} {μ : MU} {Q : Option MV → MG → MU → Prop} {v : Nat ⊕ Nat} : Wp E 111 16 (some (.inr (.inr v)) :: ls) st g μ Q = Wp E 111 17 (some (.inr (.inr v)) :: ls) (.inr (.inr v) :: st) g μ Q := Wp_nx k111_16 rfl
theorem k111_17 : mCode 111 17 = some (.iload_n 1, 1) := by decide +kernel
theorem x111_17 {E : ME} {ls : MLs} {st : List MV} {g : MG} {μ : MU} {Q : Option MV → MG → MU → Prop} {l0 : Option MV} {v : Int} : Wp E 111 17 (l0 :: some (.inl v) :: ls) st g μ Q = Wp E 111 18 (l0 :: some (.inl v) :: ls) (.inl v :: st) g μ Q := Wp_nx k111_17 rfl
theorem k111_18 : mCode 111 18 = some (.iload_n 2, 1) := by decide +kernel
theorem x111_18 {E : ME} {ls : MLs} {st : List MV} {g : MG} {μ : MU} {Q : Option MV → MG → MU → Prop} {l0 l1 : Option MV} {v : Int} : Wp E 111 18 (l0 :: l1 :: some (.inl v) :: ls) st g μ Q = Wp E 111 19 (l0 :: l1 :: some (.inl v) :: ls) (.inl v :: st) g μ Q := Wp_nx k111_18 rfl
theorem k111_19 : mCode 111 19 = some (.invokevirtual 158, 3) := by decide +kernel
theorem x111_19 {E : ME} {ls : MLs} {st : List MV} {g : MG} {μ : MU} {Q : Option MV → MG → MU → Prop} {r : Nat} {a0 : Int} {a1 : Int} : Wp E 111 19 ls (.inl a1 :: .inl a0 :: .inr (.inr (.inl r)) :: st) g μ Q = ((st.length ≤ 4 ∧ ((mKd g r).1 == 6) = true) ∧ Wp E 109 0 [some (.inr (.inr (.inl r))), some (.inl a0), some (.inl a1), none] [] g μ (fun r g' μ' => (g'.1 = g.1 ∧ g'.2.1 = g.2.1) ∧ Wp E 111 22 ls (mPush r st) g' μ' Q)) := Wp_cV k111_19 m6_158 (by decide) (as := [.inr (.inr (.inl r)), .inl a0, .inl a1]) rfl rfl rfl ⟨Nat.le_of_ble_eq_true rfl, by decide⟩
theorem k111_22 : mCode 111 22 = some (.istore_n 3, 1) := by decide +kernel
theorem x111_22 {E : ME} {ls : MLs} {st : List MV} {g : MG} {μ : MU} {Q : Option MV → MG → MU → Prop} {l0 l1 l2 : Option MV} {lk : Option MV} {v : Int} : Wp E 111 22 (l0 :: l1 :: l2 :: lk :: ls) (.inl v :: st) g μ Q = ((mNl (some l2) = true ∧ mNl (some lk) = true) ∧ Wp E 111 23 (l0 :: l1 :: l2 :: some (.inl v) :: ls) st g μ Q) := Wp_sti k111_22 (fun _ => rfl) rfl rfl rfl
theorem k111_23 : mCode 111 23 = some (.iload_n 3, 1) := by decide +kernel
theorem x111_23 {E : ME} {ls : MLs} {st : List MV} {g : MG} {μ : MU} {Q : Option MV → MG → MU → Prop} {l0 l1 l2 : Option MV} {v : Int} : Wp E 111 23 (l0 :: l1 :: l2 :: some (.inl v) :: ls) st g μ Q = Wp E 111 24 (l0 :: l1 :: l2 :: some (.inl v) :: ls) (.inl v :: st) g μ Q := Wp_nx k111_23 rfl
theorem k111_24 : mCode 111 24 = some (.bipush (-6), 2) := by decide +kernel
theorem x111_24 {E : ME} {ls : MLs} {st : List MV} {g : MG} {μ : MU} {Q : Option MV → MG → MU → Prop} : Wp E 111 24 ls st g μ Q = Wp E 111 26 ls (.inl (-6) :: st) g μ Q := Wp_nx k111_24 rfl
theorem k111_26 : mCode 111 26 = some (.if_icmp .ne 6, 3) := by decide +kernel
theorem x111_26 {E : ME} {ls : MLs} {st : List MV} {g : MG} {μ : MU} {Q : Option MV → MG → MU → Prop} {a b : Int} : Wp E 111 26 ls (.inl b :: .inl a :: st) g μ Q = ((¬ a = b → Wp E 111 32 ls st g μ Q) ∧ (a = b → Wp E 111 29 ls st g μ Q)) := Wp_cmp_ne k111_26 (by decide)
theorem k111_29 : mCode 111 29 = some (.bipush (-5), 2) := by decide +kernel
theorem x111_29 {E : ME} {ls : MLs} {st : List MV} {g : MG} {μ : MU} {Q : Option MV → MG → MU → Prop} : Wp E 111 29 ls st g μ Q = Wp E 111 31 ls (.inl (-5) :: st) g μ Q := Wp_nx k111_29 rfl
theorem k111_31 : mCode 111 31 = some (.ireturn, 1) := by decide +kernel
theorem x111_31 {E : ME} {ls : MLs} {g : MG} {μ : MU} {Q : Option MV → MG → MU → Prop} {v : Int} : Wp E 111 31 ls [.inl v] g μ Q = Q (some (.inl v)) g μ := Wp_retI k111_31 (by decide)
theorem k111_32 : mCode 111 32 = some (.aload_n 0, 1) := by decide +kernel
theorem x111_32 {E : ME} {ls : MLs} {st : List MV} {g : MG} {μ : MU} {Q : Option MV → MG → MU → Prop} {v : Nat ⊕ Nat} : Wp E 111 32 (some (.inr (.inr v)) :: ls) st g μ Q = Wp E 111 33 (some (.inr (.inr v)) :: ls) (.inr (.inr v) :: st) g μ Q := Wp_nx k111_32 rfl
theorem k111_33 : mCode 111 33 = some (.invokevirtual 121, 3) := by decide +kernel
theorem x111_33 {E : ME} {ls : MLs} {st : List MV} {g : MG} {μ : MU} {Q : Option MV → MG → MU → Prop} {r : Nat} : Wp E 111 33 ls (.inr (.inr (.inl r)) :: st) g μ Q = ((st.length ≤ 4 ∧ ((mKd g r).1 == 6) = true) ∧ Wp E 84 0 [some (.inr (.inr (.inl r))), none] [] g μ (fun r g' μ' => (g'.1 = g.1 ∧ g'.2.1 = g.2.1) ∧ Wp E 111 36 ls (mPush r st) g' μ' Q)) := Wp_cV k111_33 m6_121 (by decide) (as := [.inr (.inr (.inl r))]) rfl rfl rfl ⟨Nat.le_of_ble_eq_true rfl, by decide⟩
theorem k111_36 : mCode 111 36 = some (.aload_n 0, 1) := by decide +kernel
theorem x111_36 {E : ME} {ls : MLs} {st : List MV} {g : MG} {μ : MU} {Q : Option MV → MG → MU → Prop} {v : Nat ⊕ Nat} : Wp E 111 36 (some (.inr (.inr v)) :: ls) st g μ Q = Wp E 111 37 (some (.inr (.inr v)) :: ls) (.inr (.inr v) :: st) g μ Q := Wp_nx k111_36 rfl
theorem k111_37 : mCode 111 37 = some (.getfield 7, 3) := by decide +kernel
theorem x111_37 {E : ME} {ls : MLs} {st : List MV} {g : MG} {μ : MU} {Q : Option MV → MG → MU → Prop} {a : Nat} : Wp E 111 37 ls (.inr (.inr (.inl a)) :: st) g μ Q = ((mKd g a).1 = 6 ∧ Wp E 111 40 ls (mRv (mRf g a 1) :: st) g μ Q) := Wp_getR k111_37 f6_7 (by decide) (by decide)
theorem k111_40 : mCode 111 40 = some (.bipush 23, 2) := by decide +kernel
theorem x111_40 {E : ME} {ls : MLs} {st : List MV} {g : MG} {μ : MU} {Q : Option MV → MG → MU → Prop} : Wp E 111 40 ls st g μ Q = Wp E 111 42 ls (.inl 23 :: st) g μ Q := Wp_nx k111_40 rfl
theorem k111_42 : mCode 111 42 = some (.bipush 9, 2) := by decide +kernel
theorem x111_42 {E : ME} {ls : MLs} {st : List MV} {g : MG} {μ : MU} {Q : Option MV → MG → MU → Prop} : Wp E 111 42 ls st g μ Q = Wp E 111 44 ls (.inl 9 :: st) g μ Q := Wp_nx k111_42 rfl
theorem k111_44 : mCode 111 44 = some (.iload_n 1, 1) := by decide +kernel
theorem x111_44 {E : ME} {ls : MLs} {st : List MV} {g : MG} {μ : MU} {Q : Option MV → MG → MU → Prop} {l0 : Option MV} {v : Int} : Wp E 111 44 (l0 :: some (.inl v) :: ls) st g μ Q = Wp E 111 45 (l0 :: some (.inl v) :: ls) (.inl v :: st) g μ Q := Wp_nx k111_44 rfl
theorem k111_45 : mCode 111 45 = some (.imul, 1) := by decide +kernel
theorem x111_45 {E : ME} {ls : MLs} {st : List MV} {g : MG} {μ : MU} {Q : Option MV → MG → MU → Prop} {a b : Int} : Wp E 111 45 ls (.inl b :: .inl a :: st) g μ Q = Wp E 111 46 ls (.inl (mWr (a * b)) :: st) g μ Q := Wp_nx k111_45 rfl
theorem k111_46 : mCode 111 46 = some (.iadd, 1) := by decide +kernel
theorem x111_46 {E : ME} {ls : MLs} {st : List MV} {g : MG} {μ : MU} {Q : Option MV → MG → MU → Prop} {a b : Int} : Wp E 111 46 ls (.inl b :: .inl a :: st) g μ Q = Wp E 111 47 ls (.inl (mWr (a + b)) :: st) g μ Q := Wp_nx k111_46 rfl
theorem k111_47 : mCode 111 47 = some (.iconst 3, 1) := by decide +kernel
theorem x111_47 {E : ME} {ls : MLs} {st : List MV} {g : MG} {μ : MU} {Q : Option MV → MG → MU → Prop} : Wp E 111 47 ls st g μ Q = Wp E 111 48 ls (.inl 3 :: st) g μ Q := Wp_nx k111_47 rfl
theorem k111_48 : mCode 111 48 = some (.iadd, 1) := by decide +kernel
theorem x111_48 {E : ME} {ls : MLs} {st : List MV} {g : MG} {μ : MU} {Q : Option MV → MG → MU → Prop} {a b : Int} : Wp E 111 48 ls (.inl b :: .inl a :: st) g μ Q = Wp E 111 49 ls (.inl (mWr (a + b)) :: st) g μ Q := Wp_nx k111_48 rfl
theorem k111_49 : mCode 111 49 = some (.iload_n 2, 1) := by decide +kernel
theorem x111_49 {E : ME} {ls : MLs} {st : List MV} {g : MG} {μ : MU} {Q : Option MV → MG → MU → Prop} {l0 l1 : Option MV} {v : Int} : Wp E 111 49 (l0 :: l1 :: some (.inl v) :: ls) st g μ Q = Wp E 111 50 (l0 :: l1 :: some (.inl v) :: ls) (.inl v :: st) g μ Q := Wp_nx k111_49 rfl
theorem k111_50 : mCode 111 50 = some (.iadd, 1) := by decide +kernel
theorem x111_50 {E : ME} {ls : MLs} {st : List MV} {g : MG} {μ : MU} {Q : Option MV → MG → MU → Prop} {a b : Int} : Wp E 111 50 ls (.inl b :: .inl a :: st) g μ Q = Wp E 111 51 ls (.inl (mWr (a + b)) :: st) g μ Q := Wp_nx k111_50 rfl
theorem k111_51 : mCode 111 51 = some (.iconst 0, 1) := by decide +kernel
theorem x111_51 {E : ME} {ls : MLs} {st : List MV} {g : MG} {μ : MU} {Q : Option MV → MG → MU → Prop} : Wp E 111 51 ls st g μ Q = Wp E 111 52 ls (.inl 0 :: st) g μ Q := Wp_nx k111_51 rfl
theorem k111_52 : mCode 111 52 = some (.iastore, 1) := by decide +kernel
theorem x111_52 {E : ME} {ls : MLs} {st : List MV} {g : MG} {μ : MU} {Q : Option MV → MG → MU → Prop} {a : Nat} {j v : Int} : Wp E 111 52 ls (.inl v :: .inl j :: .inr (.inr (.inl a)) :: st) g μ Q = (((mKd g a).1 = 10 ∧ 0 ≤ j ∧ j < (mKd g a).2) ∧ Wp E 111 53 ls st g (mUp μ a j.toNat v) Q) := Wp_iast k111_52
theorem k111_53 : mCode 111 53 = some (.iload_n 3, 1) := by decide +kernel
theorem x111_53 {E : ME} {ls : MLs} {st : List MV} {g : MG} {μ : MU} {Q : Option MV → MG → MU → Prop} {l0 l1 l2 : Option MV} {v : Int} : Wp E 111 53 (l0 :: l1 :: l2 :: some (.inl v) :: ls) st g μ Q = Wp E 111 54 (l0 :: l1 :: l2 :: some (.inl v) :: ls) (.inl v :: st) g μ Q := Wp_nx k111_53 rfl
theorem k111_54 : mCode 111 54 = some (.ireturn, 1) := by decide +kernel
theorem x111_54 {E : ME} {ls : MLs} {g : MG} {μ : MU} {Q : Option MV → MG → MU → Prop} {v : Int} : Wp E 111 54 ls [.inl v] g μ Q = Q (some (.inl v)) g μ := Wp_retI k111_54 (by decide)
theorem k112_0 : mCode 112 0 = some (.iconst 0, 1) := by decide +kernel
theorem x112_0 {E : ME} {ls : MLs} {st : List MV} {g : MG} {μ : MU} {Q : Option MV → MG → MU → Prop} : Wp E 112 0 ls st g μ Q = Wp E 112 1 ls (.inl 0 :: st) g μ Q := Wp_nx k112_0 rfl
theorem k112_1 : mCode 112 1 = some (.istore 4, 2) := by decide +kernel
theorem x112_1 {E : ME} {ls : MLs} {st : List MV} {g : MG} {μ : MU} {Q : Option MV → MG → MU → Prop} {l0 l1 l2 l3 : Option MV} {lk : Option MV} {v : Int} : Wp E 112 1 (l0 :: l1 :: l2 :: l3 :: lk :: ls) (.inl v :: st) g μ Q = ((mNl (some l3) = true ∧ mNl (some lk) = true) ∧ Wp E 112 3 (l0 :: l1 :: l2 :: l3 :: some (.inl v) :: ls) st g μ Q) := Wp_sti k112_1 (fun _ => rfl) rfl rfl rfl
theorem k112_3 : mCode 112 3 = some (.iconst 0, 1) := by decide +kernel
theorem x112_3 {E : ME} {ls : MLs} {st : List MV} {g : MG} {μ : MU} {Q : Option MV → MG → MU → Prop} : Wp E 112 3 ls st g μ Q = Wp E 112 4 ls (.inl 0 :: st) g μ Q := Wp_nx k112_3 rfl
theorem k112_4 : mCode 112 4 = some (.istore 5, 2) := by decide +kernel
theorem x112_4 {E : ME} {ls : MLs} {st : List MV} {g : MG} {μ : MU} {Q : Option MV → MG → MU → Prop} {l0 l1 l2 l3 l4 : Option MV} {lk : Option MV} {v : Int} : Wp E 112 4 (l0 :: l1 :: l2 :: l3 :: l4 :: lk :: ls) (.inl v :: st) g μ Q = ((mNl (some l4) = true ∧ mNl (some lk) = true) ∧ Wp E 112 6 (l0 :: l1 :: l2 :: l3 :: l4 :: some (.inl v) :: ls) st g μ Q) := Wp_sti k112_4 (fun _ => rfl) rfl rfl rfl
theorem k112_6 : mCode 112 6 = some (.iload 5, 2) := by decide +kernel
theorem x112_6 {E : ME} {ls : MLs} {st : List MV} {g : MG} {μ : MU} {Q : Option MV → MG → MU → Prop} {l0 l1 l2 l3 l4 : Option MV} {v : Int} : Wp E 112 6 (l0 :: l1 :: l2 :: l3 :: l4 :: some (.inl v) :: ls) st g μ Q = Wp E 112 8 (l0 :: l1 :: l2 :: l3 :: l4 :: some (.inl v) :: ls) (.inl v :: st) g μ Q := Wp_nx k112_6 rfl
theorem k112_8 : mCode 112 8 = some (.aload_n 0, 1) := by decide +kernel
theorem x112_8 {E : ME} {ls : MLs} {st : List MV} {g : MG} {μ : MU} {Q : Option MV → MG → MU → Prop} {v : Nat ⊕ Nat} : Wp E 112 8 (some (.inr (.inr v)) :: ls) st g μ Q = Wp E 112 9 (some (.inr (.inr v)) :: ls) (.inr (.inr v) :: st) g μ Q := Wp_nx k112_8 rfl
theorem k112_9 : mCode 112 9 = some (.getfield 7, 3) := by decide +kernel
theorem x112_9 {E : ME} {ls : MLs} {st : List MV} {g : MG} {μ : MU} {Q : Option MV → MG → MU → Prop} {a : Nat} : Wp E 112 9 ls (.inr (.inr (.inl a)) :: st) g μ Q = ((mKd g a).1 = 6 ∧ Wp E 112 12 ls (mRv (mRf g a 1) :: st) g μ Q) := Wp_getR k112_9 f6_7 (by decide) (by decide)
theorem k112_12 : mCode 112 12 = some (.bipush 6, 2) := by decide +kernel
theorem x112_12 {E : ME} {ls : MLs} {st : List MV} {g : MG} {μ : MU} {Q : Option MV → MG → MU → Prop} : Wp E 112 12 ls st g μ Q = Wp E 112 14 ls (.inl 6 :: st) g μ Q := Wp_nx k112_12 rfl
theorem k112_14 : mCode 112 14 = some (.iaload, 1) := by decide +kernel
theorem x112_14 {E : ME} {ls : MLs} {st : List MV} {g : MG} {μ : MU} {Q : Option MV → MG → MU → Prop} {a : Nat} {j : Int} : Wp E 112 14 ls (.inl j :: .inr (.inr (.inl a)) :: st) g μ Q = (((mKd g a).1 = 10 ∧ 0 ≤ j ∧ j < (mKd g a).2) ∧ Wp E 112 15 ls (.inl (μ a j.toNat) :: st) g μ Q) := Wp_ald k112_14 (fun _ => rfl)
theorem k112_15 : mCode 112 15 = some (.if_icmp .ge 129, 3) := by decide +kernel
theorem x112_15 {E : ME} {ls : MLs} {st : List MV} {g : MG} {μ : MU} {Q : Option MV → MG → MU → Prop} {a b : Int} : Wp E 112 15 ls (.inl b :: .inl a :: st) g μ Q = ((b ≤ a → Wp E 112 144 ls st g μ Q) ∧ (a < b → Wp E 112 18 ls st g μ Q)) := Wp_cmp_ge k112_15 (by decide)
theorem k112_18 : mCode 112 18 = some (.iload_n 1, 1) := by decide +kernel
theorem x112_18 {E : ME} {ls : MLs} {st : List MV} {g : MG} {μ : MU} {Q : Option MV → MG → MU → Prop} {l0 : Option MV} {v : Int} : Wp E 112 18 (l0 :: some (.inl v) :: ls) st g μ Q = Wp E 112 19 (l0 :: some (.inl v) :: ls) (.inl v :: st) g μ Q := Wp_nx k112_18 rfl
theorem k112_19 : mCode 112 19 = some (.bipush (-6), 2) := by decide +kernel
theorem x112_19 {E : ME} {ls : MLs} {st : List MV} {g : MG} {μ : MU} {Q : Option MV → MG → MU → Prop} : Wp E 112 19 ls st g μ Q = Wp E 112 21 ls (.inl (-6) :: st) g μ Q := Wp_nx k112_19 rfl
theorem k112_21 : mCode 112 21 = some (.if_icmp .eq 14, 3) := by decide +kernel
theorem x112_21 {E : ME} {ls : MLs} {st : List MV} {g : MG} {μ : MU} {Q : Option MV → MG → MU → Prop} {a b : Int} : Wp E 112 21 ls (.inl b :: .inl a :: st) g μ Q = ((a = b → Wp E 112 35 ls st g μ Q) ∧ (¬ a = b → Wp E 112 24 ls st g μ Q)) := Wp_cmp_eq k112_21 (by decide)
theorem k112_24 : mCode 112 24 = some (.aload_n 0, 1) := by decide +kernel
theorem x112_24 {E : ME} {ls : MLs} {st : List MV} {g : MG} {μ : MU} {Q : Option MV → MG → MU → Prop} {v : Nat ⊕ Nat} : Wp E 112 24 (some (.inr (.inr v)) :: ls) st g μ Q = Wp E 112 25 (some (.inr (.inr v)) :: ls) (.inr (.inr v) :: st) g μ Q := Wp_nx k112_24 rfl
theorem k112_25 : mCode 112 25 = some (.iload 5, 2) := by decide +kernel
theorem x112_25 {E : ME} {ls : MLs} {st : List MV} {g : MG} {μ : MU} {Q : Option MV → MG → MU → Prop} {l0 l1 l2 l3 l4 : Option MV} {v : Int} : Wp E 112 25 (l0 :: l1 :: l2 :: l3 :: l4 :: some (.inl v) :: ls) st g μ Q = Wp E 112 27 (l0 :: l1 :: l2 :: l3 :: l4 :: some (.inl v) :: ls) (.inl v :: st) g μ Q := Wp_nx k112_25 rfl
theorem k112_27 : mCode 112 27 = some (.iconst 0, 1) := by decide +kernel
theorem x112_27 {E : ME} {ls : MLs} {st : List MV} {g : MG} {μ : MU} {Q : Option MV → MG → MU → Prop} : Wp E 112 27 ls st g μ Q = Wp E 112 28 ls (.inl 0 :: st) g μ Q := Wp_nx k112_27 rfl
theorem k112_28 : mCode 112 28 = some (.invokevirtual 87, 3) := by decide +kernel
theorem x112_28 {E : ME} {ls : MLs} {st : List MV} {g : MG} {μ : MU} {Q : Option MV → MG → MU → Prop} {r : Nat} {a0 : Int} {a1 : Int} : Wp E 112 28 ls (.inl a1 :: .inl a0 :: .inr (.inr (.inl r)) :: st) g μ Q = ((st.length ≤ 4 ∧ ((mKd g r).1 == 6) = true) ∧ Wp E 79 0 [some (.inr (.inr (.inl r))), some (.inl a0), some (.inl a1)] [] g μ (fun r g' μ' => (g'.1 = g.1 ∧ g'.2.1 = g.2.1) ∧ Wp E 112 31 ls (mPush r st) g' μ' Q)) := Wp_cV k112_28 m6_87 (by decide) (as := [.inr (.inr (.inl r)), .inl a0, .inl a1]) rfl rfl rfl ⟨Nat.le_of_ble_eq_true rfl, by decide⟩
theorem k112_31 : mCode 112 31 = some (.iload_n 1, 1) := by decide +kernel
theorem x112_31 {E : ME} {ls : MLs} {st : List MV} {g : MG} {μ : MU} {Q : Option MV → MG → MU → Prop} {l0 : Option MV} {v : Int} : Wp E 112 31 (l0 :: some (.inl v) :: ls) st g μ Q = Wp E 112 32 (l0 :: some (.inl v) :: ls) (.inl v :: st) g μ Q := Wp_nx k112_31 rfl
theorem k112_32 : mCode 112 32 = some (.if_icmp .ne 24, 3) := by decide +kernel
theorem x112_32 {E : ME} {ls : MLs} {st : List MV} {g : MG} {μ : MU} {Q : Option MV → MG → MU → Prop} {a b : Int} : Wp E 112 32 ls (.inl b :: .inl a :: st) g μ Q = ((¬ a = b → Wp E 112 56 ls st g μ Q) ∧ (a = b → Wp E 112 35 ls st g μ Q)) := Wp_cmp_ne k112_32 (by decide)
theorem k112_35 : mCode 112 35 = some (.iload_n 2, 1) := by decide +kernel
theorem x112_35 {E : ME} {ls : MLs} {st : List MV} {g : MG} {μ : MU} {Q : Option MV → MG → MU → Prop} {l0 l1 : Option MV} {v : Int} : Wp E 112 35 (l0 :: l1 :: some (.inl v) :: ls) st g μ Q = Wp E 112 36 (l0 :: l1 :: some (.inl v) :: ls) (.inl v :: st) g μ Q := Wp_nx k112_35 rfl
theorem k112_36 : mCode 112 36 = some (.bipush (-6), 2) := by decide +kernel
theorem x112_36 {E : ME} {ls : MLs} {st : List MV} {g : MG} {μ : MU} {Q : Option MV → MG → MU → Prop} : Wp E 112 36 ls st g μ Q = Wp E 112 38 ls (.inl (-6) :: st) g μ Q := Wp_nx k112_36 rfl
theorem k112_38 : mCode 112 38 = some (.if_icmp .eq 14, 3) := by decide +kernel
theorem x112_38 {E : ME} {ls : MLs} {st : List MV} {g : MG} {μ : MU} {Q : Option MV → MG → MU → Prop} {a b : Int} : Wp E 112 38 ls (.inl b :: .inl a :: st) g μ Q = ((a = b → Wp E 112 52 ls st g μ Q) ∧ (¬ a = b → Wp E 112 41 ls st g μ Q)) := Wp_cmp_eq k112_38 (by decide)
theorem k112_41 : mCode 112 41 = some (.aload_n 0, 1) := by decide +kernel
theorem x112_41 {E : ME} {ls : MLs} {st : List MV} {g : MG} {μ : MU} {Q : Option MV → MG → MU → Prop} {v : Nat ⊕ Nat} : Wp E 112 41 (some (.inr (.inr v)) :: ls) st g μ Q = Wp E 112 42 (some (.inr (.inr v)) :: ls) (.inr (.inr v) :: st) g μ Q := Wp_nx k112_41 rfl
theorem k112_42 : mCode 112 42 = some (.iload 5, 2) := by decide +kernel
theorem x112_42 {E : ME} {ls : MLs} {st : List MV} {g : MG} {μ : MU} {Q : Option MV → MG → MU → Prop} {l0 l1 l2 l3 l4 : Option MV} {v : Int} : Wp E 112 42 (l0 :: l1 :: l2 :: l3 :: l4 :: some (.inl v) :: ls) st g μ Q = Wp E 112 44 (l0 :: l1 :: l2 :: l3 :: l4 :: some (.inl v) :: ls) (.inl v :: st) g μ Q := Wp_nx k112_42 rfl
theorem k112_44 : mCode 112 44 = some (.iconst 1, 1) := by decide +kernel
theorem x112_44 {E : ME} {ls : MLs} {st : List MV} {g : MG} {μ : MU} {Q : Option MV → MG → MU → Prop} : Wp E 112 44 ls st g μ Q = Wp E 112 45 ls (.inl 1 :: st) g μ Q := Wp_nx k112_44 rfl
theorem k112_45 : mCode 112 45 = some (.invokevirtual 87, 3) := by decide +kernel
theorem x112_45 {E : ME} {ls : MLs} {st : List MV} {g : MG} {μ : MU} {Q : Option MV → MG → MU → Prop} {r : Nat} {a0 : Int} {a1 : Int} : Wp E 112 45 ls (.inl a1 :: .inl a0 :: .inr (.inr (.inl r)) :: st) g μ Q = ((st.length ≤ 4 ∧ ((mKd g r).1 == 6) = true) ∧ Wp E 79 0 [some (.inr (.inr (.inl r))), some (.inl a0), some (.inl a1)] [] g μ (fun r g' μ' => (g'.1 = g.1 ∧ g'.2.1 = g.2.1) ∧ Wp E 112 48 ls (mPush r st) g' μ' Q)) := Wp_cV k112_45 m6_87 (by decide) (as := [.inr (.inr (.inl r)), .inl a0, .inl a1]) rfl rfl rfl ⟨Nat.le_of_ble_eq_true rfl, by decide⟩
theorem k112_48 : mCode 112 48 = some (.iload_n 2, 1) := by decide +kernel
theorem x112_48 {E : ME} {ls : MLs} {st : List MV} {g : MG} {μ : MU} {Q : Option MV → MG → MU → Prop} {l0 l1 : Option MV} {v : Int} : Wp E 112 48 (l0 :: l1 :: some (.inl v) :: ls) st g μ Q = Wp E 112 49 (l0 :: l1 :: some (.inl v) :: ls) (.inl v :: st) g μ Q := Wp_nx k112_48 rfl
theorem k112_49 : mCode 112 49 = some (.if_icmp .ne 7, 3) := by decide +kernel
theorem x112_49 {E : ME} {ls : MLs} {st : List MV} {g : MG} {μ : MU} {Q : Option MV → MG → MU → Prop} {a b : Int} : Wp E 112 49 ls (.inl b :: .inl a :: st) g μ Q = ((¬ a = b → Wp E 112 56 ls st g μ Q) ∧ (a = b → Wp E 112 52 ls st g μ Q)) := Wp_cmp_ne k112_49 (by decide)
theorem k112_52 : mCode 112 52 = some (.iconst 1, 1) := by decide +kernel
theorem x112_52 {E : ME} {ls : MLs} {st : List MV} {g : MG} {μ : MU} {Q : Option MV → MG → MU → Prop} : Wp E 112 52 ls st g μ Q = Wp E 112 53 ls (.inl 1 :: st) g μ Q := Wp_nx k112_52 rfl
theorem k112_53 : mCode 112 53 = some (.goto 4, 3) := by decide +kernel
theorem x112_53 {E : ME} {ls : MLs} {st : List MV} {g : MG} {μ : MU} {Q : Option MV → MG → MU → Prop} : Wp E 112 53 ls st g μ Q = Wp E 112 57 ls st g μ Q := Wp_goto k112_53 (by decide)
theorem k112_56 : mCode 112 56 = some (.iconst 0, 1) := by decide +kernel
theorem x112_56 {E : ME} {ls : MLs} {st : List MV} {g : MG} {μ : MU} {Q : Option MV → MG → MU → Prop} : Wp E 112 56 ls st g μ Q = Wp E 112 57 ls (.inl 0 :: st) g μ Q := Wp_nx k112_56 rfl
theorem k112_57 : mCode 112 57 = some (.istore 6, 2) := by decide +kernel
theorem x112_57 {E : ME} {ls : MLs} {st : List MV} {g : MG} {μ : MU} {Q : Option MV → MG → MU → Prop} {l0 l1 l2 l3 l4 l5 : Option MV} {lk : Option MV} {v : Int} : Wp E 112 57 (l0 :: l1 :: l2 :: l3 :: l4 :: l5 :: lk :: ls) (.inl v :: st) g μ Q = ((mNl (some l5) = true ∧ mNl (some lk) = true) ∧ Wp E 112 59 (l0 :: l1 :: l2 :: l3 :: l4 :: l5 :: some (.inl v) :: ls) st g μ Q) := Wp_sti k112_57 (fun _ => rfl) rfl rfl rfl
theorem k112_59 : mCode 112 59 = some (.iload_n 3, 1) := by decide +kernel
theorem x112_59 {E : ME} {ls : MLs} {st : List MV} {g : MG} {μ : MU} {Q : Option MV → MG → MU → Prop} {l0 l1 l2 : Option MV} {v : Int} : Wp E 112 59 (l0 :: l1 :: l2 :: some (.inl v) :: ls) st g μ Q = Wp E 112 60 (l0 :: l1 :: l2 :: some (.inl v) :: ls) (.inl v :: st) g μ Q := Wp_nx k112_59 rfl
theorem k112_60 : mCode 112 60 = some (.ifCond .ne 7, 3) := by decide +kernel
theorem x112_60 {E : ME} {ls : MLs} {st : List MV} {g : MG} {μ : MU} {Q : Option MV → MG → MU → Prop} {a : Int} : Wp E 112 60 ls (.inl a :: st) g μ Q = ((¬ a = 0 → Wp E 112 67 ls st g μ Q) ∧ (a = 0 → Wp E 112 63 ls st g μ Q)) := Wp_if_ne k112_60 (by decide)
theorem k112_63 : mCode 112 63 = some (.iconst 1, 1) := by decide +kernel
theorem x112_63 {E : ME} {ls : MLs} {st : List MV} {g : MG} {μ : MU} {Q : Option MV → MG → MU → Prop} : Wp E 112 63 ls st g μ Q = Wp E 112 64 ls (.inl 1 :: st) g μ Q := Wp_nx k112_63 rfl
theorem k112_64 : mCode 112 64 = some (.goto 56, 3) := by decide +kernel
theorem x112_64 {E : ME} {ls : MLs} {st : List MV} {g : MG} {μ : MU} {Q : Option MV → MG → MU → Prop} : Wp E 112 64 ls st g μ Q = Wp E 112 120 ls st g μ Q := Wp_goto k112_64 (by decide)
theorem k112_67 : mCode 112 67 = some (.iload_n 3, 1) := by decide +kernel
theorem x112_67 {E : ME} {ls : MLs} {st : List MV} {g : MG} {μ : MU} {Q : Option MV → MG → MU → Prop} {l0 l1 l2 : Option MV} {v : Int} : Wp E 112 67 (l0 :: l1 :: l2 :: some (.inl v) :: ls) st g μ Q = Wp E 112 68 (l0 :: l1 :: l2 :: some (.inl v) :: ls) (.inl v :: st) g μ Q := Wp_nx k112_67 rfl
theorem k112_68 : mCode 112 68 = some (.iconst 1, 1) := by decide +kernel
theorem x112_68 {E : ME} {ls : MLs} {st : List MV} {g : MG} {μ : MU} {Q : Option MV → MG → MU → Prop} : Wp E 112 68 ls st g μ Q = Wp E 112 69 ls (.inl 1 :: st) g μ Q := Wp_nx k112_68 rfl
theorem k112_69 : mCode 112 69 = some (.if_icmp .ne 12, 3) := by decide +kernel
theorem x112_69 {E : ME} {ls : MLs} {st : List MV} {g : MG} {μ : MU} {Q : Option MV → MG → MU → Prop} {a b : Int} : Wp E 112 69 ls (.inl b :: .inl a :: st) g μ Q = ((¬ a = b → Wp E 112 81 ls st g μ Q) ∧ (a = b → Wp E 112 72 ls st g μ Q)) := Wp_cmp_ne k112_69 (by decide)
theorem k112_72 : mCode 112 72 = some (.aload_n 0, 1) := by decide +kernel
theorem x112_72 {E : ME} {ls : MLs} {st : List MV} {g : MG} {μ : MU} {Q : Option MV → MG → MU → Prop} {v : Nat ⊕ Nat} : Wp E 112 72 (some (.inr (.inr v)) :: ls) st g μ Q = Wp E 112 73 (some (.inr (.inr v)) :: ls) (.inr (.inr v) :: st) g μ Q := Wp_nx k112_72 rfl
theorem k112_73 : mCode 112 73 = some (.iload 5, 2) := by decide +kernel
theorem x112_73 {E : ME} {ls : MLs} {st : List MV} {g : MG} {μ : MU} {Q : Option MV → MG → MU → Prop} {l0 l1 l2 l3 l4 : Option MV} {v : Int} : Wp E 112 73 (l0 :: l1 :: l2 :: l3 :: l4 :: some (.inl v) :: ls) st g μ Q = Wp E 112 75 (l0 :: l1 :: l2 :: l3 :: l4 :: some (.inl v) :: ls) (.inl v :: st) g μ Q := Wp_nx k112_73 rfl
theorem k112_75 : mCode 112 75 = some (.invokevirtual 114, 3) := by decide +kernel
theorem x112_75 {E : ME} {ls : MLs} {st : List MV} {g : MG} {μ : MU} {Q : Option MV → MG → MU → Prop} {r : Nat} {a0 : Int} : Wp E 112 75 ls (.inl a0 :: .inr (.inr (.inl r)) :: st) g μ Q = ((st.length ≤ 4 ∧ ((mKd g r).1 == 6) = true) ∧ Wp E 93 0 [some (.inr (.inr (.inl r))), some (.inl a0)] [] g μ (fun r g' μ' => (g'.1 = g.1 ∧ g'.2.1 = g.2.1) ∧ Wp E 112 78 ls (mPush r st) g' μ' Q)) := Wp_cV k112_75 m6_114 (by decide) (as := [.inr (.inr (.inl r)), .inl a0]) rfl rfl rfl ⟨Nat.le_of_ble_eq_true rfl, by decide⟩
theorem k112_78 : mCode 112 78 = some (.goto 42, 3) := by decide +kernel
theorem x112_78 {E : ME} {ls : MLs} {st : List MV} {g : MG} {μ : MU} {Q : Option MV → MG → MU → Prop} : Wp E 112 78 ls st g μ Q = Wp E 112 120 ls st g μ Q := Wp_goto k112_78 (by decide)
theorem k112_81 : mCode 112 81 = some (.iload_n 3, 1) := by decide +kernel
theorem x112_81 {E : ME} {ls : MLs} {st : List MV} {g : MG} {μ : MU} {Q : Option MV → MG → MU → Prop} {l0 l1 l2 : Option MV} {v : Int} : Wp E 112 81 (l0 :: l1 :: l2 :: some (.inl v) :: ls) st g μ Q = Wp E 112 82 (l0 :: l1 :: l2 :: some (.inl v) :: ls) (.inl v :: st) g μ Q := Wp_nx k112_81 rfl
theorem k112_82 : mCode 112 82 = some (.iconst 2, 1) := by decide +kernel
theorem x112_82 {E : ME} {ls : MLs} {st : List MV} {g : MG} {μ : MU} {Q : Option MV → MG → MU → Prop} : Wp E 112 82 ls st g μ Q = Wp E 112 83 ls (.inl 2 :: st) g μ Q := Wp_nx k112_82 rfl
theorem k112_83 : mCode 112 83 = some (.if_icmp .ne 12, 3) := by decide +kernel
theorem x112_83 {E : ME} {ls : MLs} {st : List MV} {g : MG} {μ : MU} {Q : Option MV → MG → MU → Prop} {a b : Int} : Wp E 112 83 ls (.inl b :: .inl a :: st) g μ Q = ((¬ a = b → Wp E 112 95 ls st g μ Q) ∧ (a = b → Wp E 112 86 ls st g μ Q)) := Wp_cmp_ne k112_83 (by decide)
theorem k112_86 : mCode 112 86 = some (.aload_n 0, 1) := by decide +kernel
theorem x112_86 {E : ME} {ls : MLs} {st : List MV} {g : MG} {μ : MU} {Q : Option MV → MG → MU → Prop} {v : Nat ⊕ Nat} : Wp E 112 86 (some (.inr (.inr v)) :: ls) st g μ Q = Wp E 112 87 (some (.inr (.inr v)) :: ls) (.inr (.inr v) :: st) g μ Q := Wp_nx k112_86 rfl
theorem k112_87 : mCode 112 87 = some (.iload 5, 2) := by decide +kernel
theorem x112_87 {E : ME} {ls : MLs} {st : List MV} {g : MG} {μ : MU} {Q : Option MV → MG → MU → Prop} {l0 l1 l2 l3 l4 : Option MV} {v : Int} : Wp E 112 87 (l0 :: l1 :: l2 :: l3 :: l4 :: some (.inl v) :: ls) st g μ Q = Wp E 112 89 (l0 :: l1 :: l2 :: l3 :: l4 :: some (.inl v) :: ls) (.inl v :: st) g μ Q := Wp_nx k112_87 rfl
theorem k112_89 : mCode 112 89 = some (.invokevirtual 161, 3) := by decide +kernel
theorem x112_89 {E : ME} {ls : MLs} {st : List MV} {g : MG} {μ : MU} {Q : Option MV → MG → MU → Prop} {r : Nat} {a0 : Int} : Wp E 112 89 ls (.inl a0 :: .inr (.inr (.inl r)) :: st) g μ Q = ((st.length ≤ 4 ∧ ((mKd g r).1 == 6) = true) ∧ Wp E 94 0 [some (.inr (.inr (.inl r))), some (.inl a0)] [] g μ (fun r g' μ' => (g'.1 = g.1 ∧ g'.2.1 = g.2.1) ∧ Wp E 112 92 ls (mPush r st) g' μ' Q)) := Wp_cV k112_89 m6_161 (by decide) (as := [.inr (.inr (.inl r)), .inl a0]) rfl rfl rfl ⟨Nat.le_of_ble_eq_true rfl, by decide⟩
theorem k112_92 : mCode 112 92 = some (.goto 28, 3) := by decide +kernel
theorem x112_92 {E : ME} {ls : MLs} {st : List MV} {g : MG} {μ : MU} {Q : Option MV → MG → MU → Prop} : Wp E 112 92 ls st g μ Q = Wp E 112 120 ls st g μ Q := Wp_goto k112_92 (by decide)
theorem k112_95 : mCode 112 95 = some (.iload_n 3, 1) := by decide +kernel
theorem x112_95 {E : ME} {ls : MLs} {st : List MV} {g : MG} {μ : MU} {Q : Option MV → MG → MU → Prop} {l0 l1 l2 : Option MV} {v : Int} : Wp E 112 95 (l0 :: l1 :: l2 :: some (.inl v) :: ls) st g μ Q = Wp E 112 96 (l0 :: l1 :: l2 :: some (.inl v) :: ls) (.inl v :: st) g μ Q := Wp_nx k112_95 rfl
theorem k112_96 : mCode 112 96 = some (.iconst 3, 1) := by decide +kernel
theorem x112_96 {E : ME} {ls : MLs} {st : List MV} {g : MG} {μ : MU} {Q : Option MV → MG → MU → Prop} : Wp E 112 96 ls st g μ Q = Wp E 112 97 ls (.inl 3 :: st) g μ Q := Wp_nx k112_96 rfl
theorem k112_97 : mCode 112 97 = some (.if_icmp .ne 13, 3) := by decide +kernel
theorem x112_97 {E : ME} {ls : MLs} {st : List MV} {g : MG} {μ : MU} {Q : Option MV → MG → MU → Prop} {a b : Int} : Wp E 112 97 ls (.inl b :: .inl a :: st) g μ Q = ((¬ a = b → Wp E 112 110 ls st g μ Q) ∧ (a = b → Wp E 112 100 ls st g μ Q)) := Wp_cmp_ne k112_97 (by decide)
theorem k112_100 : mCode 112 100 = some (.aload_n 0, 1) := by decide +kernel
theorem x112_100 {E : ME} {ls : MLs} {st : List MV} {g : MG} {μ : MU} {Q : Option MV → MG → MU → Prop} {v : Nat ⊕ Nat} : Wp E 112 100 (some (.inr (.inr v)) :: ls) st g μ Q = Wp E 112 101 (some (.inr (.inr v)) :: ls) (.inr (.inr v) :: st) g μ Q := Wp_nx k112_100 rfl
theorem k112_101 : mCode 112 101 = some (.getfield 32, 3) := by decide +kernel
theorem x112_101 {E : ME} {ls : MLs} {st : List MV} {g : MG} {μ : MU} {Q : Option MV → MG → MU → Prop} {a : Nat} : Wp E 112 101 ls (.inr (.inr (.inl a)) :: st) g μ Q = ((mKd g a).1 = 6 ∧ Wp E 112 104 ls (mRv (mRf g a 10) :: st) g μ Q) := Wp_getR k112_101 f6_32 (by decide) (by decide)
theorem k112_104 : mCode 112 104 = some (.iload 5, 2) := by decide +kernel
theorem x112_104 {E : ME} {ls : MLs} {st : List MV} {g : MG} {μ : MU} {Q : Option MV → MG → MU → Prop} {l0 l1 l2 l3 l4 : Option MV} {v : Int} : Wp E 112 104 (l0 :: l1 :: l2 :: l3 :: l4 :: some (.inl v) :: ls) st g μ Q = Wp E 112 106 (l0 :: l1 :: l2 :: l3 :: l4 :: some (.inl v) :: ls) (.inl v :: st) g μ Q := Wp_nx k112_104 rfl
theorem k112_106 : mCode 112 106 = some (.iaload, 1) := by decide +kernel
theorem x112_106 {E : ME} {ls : MLs} {st : List MV} {g : MG} {μ : MU} {Q : Option MV → MG → MU → Prop} {a : Nat} {j : Int} : Wp E 112 106 ls (.inl j :: .inr (.inr (.inl a)) :: st) g μ Q = (((mKd g a).1 = 10 ∧ 0 ≤ j ∧ j < (mKd g a).2) ∧ Wp E 112 107 ls (.inl (μ a j.toNat) :: st) g μ Q) := Wp_ald k112_106 (fun _ => rfl)
theorem k112_107 : mCode 112 107 = some (.goto 13, 3) := by decide +kernel
theorem x112_107 {E : ME} {ls : MLs} {st : List MV} {g : MG} {μ : MU} {Q : Option MV → MG → MU → Prop} : Wp E 112 107 ls st g μ Q = Wp E 112 120 ls st g μ Q := Wp_goto k112_107 (by decide)
theorem k112_110 : mCode 112 110 = some (.aload_n 0, 1) := by decide +kernel
theorem x112_110 {E : ME} {ls : MLs} {st : List MV} {g : MG} {μ : MU} {Q : Option MV → MG → MU → Prop} {v : Nat ⊕ Nat} : Wp E 112 110 (some (.inr (.inr v)) :: ls) st g μ Q = Wp E 112 111 (some (.inr (.inr v)) :: ls) (.inr (.inr v) :: st) g μ Q := Wp_nx k112_110 rfl
theorem k112_111 : mCode 112 111 = some (.getfield 35, 3) := by decide +kernel
theorem x112_111 {E : ME} {ls : MLs} {st : List MV} {g : MG} {μ : MU} {Q : Option MV → MG → MU → Prop} {a : Nat} : Wp E 112 111 ls (.inr (.inr (.inl a)) :: st) g μ Q = ((mKd g a).1 = 6 ∧ Wp E 112 114 ls (mRv (mRf g a 11) :: st) g μ Q) := Wp_getR k112_111 f6_35 (by decide) (by decide)
theorem k112_114 : mCode 112 114 = some (.iload 5, 2) := by decide +kernel
theorem x112_114 {E : ME} {ls : MLs} {st : List MV} {g : MG} {μ : MU} {Q : Option MV → MG → MU → Prop} {l0 l1 l2 l3 l4 : Option MV} {v : Int} : Wp E 112 114 (l0 :: l1 :: l2 :: l3 :: l4 :: some (.inl v) :: ls) st g μ Q = Wp E 112 116 (l0 :: l1 :: l2 :: l3 :: l4 :: some (.inl v) :: ls) (.inl v :: st) g μ Q := Wp_nx k112_114 rfl
theorem k112_116 : mCode 112 116 = some (.iaload, 1) := by decide +kernel
theorem x112_116 {E : ME} {ls : MLs} {st : List MV} {g : MG} {μ : MU} {Q : Option MV → MG → MU → Prop} {a : Nat} {j : Int} : Wp E 112 116 ls (.inl j :: .inr (.inr (.inl a)) :: st) g μ Q = (((mKd g a).1 = 10 ∧ 0 ≤ j ∧ j < (mKd g a).2) ∧ Wp E 112 117 ls (.inl (μ a j.toNat) :: st) g μ Q) := Wp_ald k112_116 (fun _ => rfl)
theorem k112_117 : mCode 112 117 = some (.invokestatic 108, 3) := by decide +kernel
theorem x112_117 {E : ME} {ls : MLs} {st : List MV} {g : MG} {μ : MU} {Q : Option MV → MG → MU → Prop} {a0 : Int} : Wp E 112 117 ls (.inl a0 :: st) g μ Q = (st.length ≤ 4 ∧ Wp E 90 0 [some (.inl a0), none, none] [] g μ (fun r g' μ' => (g'.1 = g.1 ∧ g'.2.1 = g.2.1) ∧ Wp E 112 120 ls (mPush r st) g' μ' Q)) := Wp_cS k112_117 m6_108 (by decide) (as := [.inl a0]) rfl rfl rfl ⟨Nat.le_of_ble_eq_true rfl, by decide⟩
theorem k112_120 : mCode 112 120 = some (.istore 7, 2) := by decide +kernel
theorem x112_120 {E : ME} {ls : MLs} {st : List MV} {g : MG} {μ : MU} {Q : Option MV → MG → MU → Prop} {l0 l1 l2 l3 l4 l5 l6 : Option MV} {lk : Option MV} {v : Int} : Wp E 112 120 (l0 :: l1 :: l2 :: l3 :: l4 :: l5 :: l6 :: lk :: ls) (.inl v :: st) g μ Q = ((mNl (some l6) = true ∧ mNl (some lk) = true) ∧ Wp E 112 122 (l0 :: l1 :: l2 :: l3 :: l4 :: l5 :: l6 :: some (.inl v) :: ls) st g μ Q) := Wp_sti k112_120 (fun _ => rfl) rfl rfl rfl
theorem k112_122 : mCode 112 122 = some (.iload 4, 2) := by decide +kernel
theorem x112_122 {E : ME} {ls : MLs} {st : List MV} {g : MG} {μ : MU} {Q : Option MV → MG → MU → Prop} {l0 l1 l2 l3 : Option MV} {v : Int} : Wp E 112 122 (l0 :: l1 :: l2 :: l3 :: some (.inl v) :: ls) st g μ Q = Wp E 112 124 (l0 :: l1 :: l2 :: l3 :: some (.inl v) :: ls) (.inl v :: st) g μ Q := Wp_nx k112_122 rfl
theorem k112_124 : mCode 112 124 = some (.iload 6, 2) := by decide +kernel
theorem x112_124 {E : ME} {ls : MLs} {st : List MV} {g : MG} {μ : MU} {Q : Option MV → MG → MU → Prop} {l0 l1 l2 l3 l4 l5 : Option MV} {v : Int} : Wp E 112 124 (l0 :: l1 :: l2 :: l3 :: l4 :: l5 :: some (.inl v) :: ls) st g μ Q = Wp E 112 126 (l0 :: l1 :: l2 :: l3 :: l4 :: l5 :: some (.inl v) :: ls) (.inl v :: st) g μ Q := Wp_nx k112_124 rfl
theorem k112_126 : mCode 112 126 = some (.ifCond .eq 8, 3) := by decide +kernel
theorem x112_126 {E : ME} {ls : MLs} {st : List MV} {g : MG} {μ : MU} {Q : Option MV → MG → MU → Prop} {a : Int} : Wp E 112 126 ls (.inl a :: st) g μ Q = ((a = 0 → Wp E 112 134 ls st g μ Q) ∧ (¬ a = 0 → Wp E 112 129 ls st g μ Q)) := Wp_if_eq k112_126 (by decide)
theorem k112_129 : mCode 112 129 = some (.iload 7, 2) := by decide +kernel
theorem x112_129 {E : ME} {ls : MLs} {st : List MV} {g : MG} {μ : MU} {Q : Option MV → MG → MU → Prop} {l0 l1 l2 l3 l4 l5 l6 : Option MV} {v : Int} : Wp E 112 129 (l0 :: l1 :: l2 :: l3 :: l4 :: l5 :: l6 :: some (.inl v) :: ls) st g μ Q = Wp E 112 131 (l0 :: l1 :: l2 :: l3 :: l4 :: l5 :: l6 :: some (.inl v) :: ls) (.inl v :: st) g μ Q := Wp_nx k112_129 rfl
theorem k112_131 : mCode 112 131 = some (.goto 4, 3) := by decide +kernel
theorem x112_131 {E : ME} {ls : MLs} {st : List MV} {g : MG} {μ : MU} {Q : Option MV → MG → MU → Prop} : Wp E 112 131 ls st g μ Q = Wp E 112 135 ls st g μ Q := Wp_goto k112_131 (by decide)
theorem k112_134 : mCode 112 134 = some (.iconst 0, 1) := by decide +kernel
theorem x112_134 {E : ME} {ls : MLs} {st : List MV} {g : MG} {μ : MU} {Q : Option MV → MG → MU → Prop} : Wp E 112 134 ls st g μ Q = Wp E 112 135 ls (.inl 0 :: st) g μ Q := Wp_nx k112_134 rfl
theorem k112_135 : mCode 112 135 = some (.iadd, 1) := by decide +kernel
theorem x112_135 {E : ME} {ls : MLs} {st : List MV} {g : MG} {μ : MU} {Q : Option MV → MG → MU → Prop} {a b : Int} : Wp E 112 135 ls (.inl b :: .inl a :: st) g μ Q = Wp E 112 136 ls (.inl (mWr (a + b)) :: st) g μ Q := Wp_nx k112_135 rfl
theorem k112_136 : mCode 112 136 = some (.istore 4, 2) := by decide +kernel
theorem x112_136 {E : ME} {ls : MLs} {st : List MV} {g : MG} {μ : MU} {Q : Option MV → MG → MU → Prop} {l0 l1 l2 l3 : Option MV} {lk : Option MV} {v : Int} : Wp E 112 136 (l0 :: l1 :: l2 :: l3 :: lk :: ls) (.inl v :: st) g μ Q = ((mNl (some l3) = true ∧ mNl (some lk) = true) ∧ Wp E 112 138 (l0 :: l1 :: l2 :: l3 :: some (.inl v) :: ls) st g μ Q) := Wp_sti k112_136 (fun _ => rfl) rfl rfl rfl
theorem k112_138 : mCode 112 138 = some (.iinc 5 1, 3) := by decide +kernel
theorem x112_138 {E : ME} {ls : MLs} {st : List MV} {g : MG} {μ : MU} {Q : Option MV → MG → MU → Prop} {l0 l1 l2 l3 l4 : Option MV} {v : Int} : Wp E 112 138 (l0 :: l1 :: l2 :: l3 :: l4 :: some (.inl v) :: ls) st g μ Q = (mNl (some l4) = true ∧ Wp E 112 141 (l0 :: l1 :: l2 :: l3 :: l4 :: some (.inl (mWr (v + 1))) :: ls) st g μ Q) := Wp_inc k112_138 rfl rfl rfl
theorem k112_141 : mCode 112 141 = some (.goto (-135), 3) := by decide +kernel
theorem x112_141 {E : ME} {ls : MLs} {st : List MV} {g : MG} {μ : MU} {Q : Option MV → MG → MU → Prop} : Wp E 112 141 ls st g μ Q = Wp E 112 6 ls st g μ Q := Wp_goto k112_141 (by decide)
theorem k112_144 : mCode 112 144 = some (.iload 4, 2) := by decide +kernel
theorem x112_144 {E : ME} {ls : MLs} {st : List MV} {g : MG} {μ : MU} {Q : Option MV → MG → MU → Prop} {l0 l1 l2 l3 : Option MV} {v : Int} : Wp E 112 144 (l0 :: l1 :: l2 :: l3 :: some (.inl v) :: ls) st g μ Q = Wp E 112 146 (l0 :: l1 :: l2 :: l3 :: some (.inl v) :: ls) (.inl v :: st) g μ Q := Wp_nx k112_144 rfl
theorem k112_146 : mCode 112 146 = some (.ireturn, 1) := by decide +kernel
theorem x112_146 {E : ME} {ls : MLs} {g : MG} {μ : MU} {Q : Option MV → MG → MU → Prop} {v : Int} : Wp E 112 146 ls [.inl v] g μ Q = Q (some (.inl v)) g μ := Wp_retI k112_146 (by decide)
theorem k113_0 : mCode 113 0 = some (.aload_n 0, 1) := by decide +kernel
theorem x113_0 {E : ME} {ls : MLs} {st : List MV} {g : MG} {μ : MU} {Q : Option MV → MG → MU → Prop} {v : Nat ⊕ Nat} : Wp E 113 0 (some (.inr (.inr v)) :: ls) st g μ Q = Wp E 113 1 (some (.inr (.inr v)) :: ls) (.inr (.inr v) :: st) g μ Q := Wp_nx k113_0 rfl
theorem k113_1 : mCode 113 1 = some (.iconst 0, 1) := by decide +kernel
theorem x113_1 {E : ME} {ls : MLs} {st : List MV} {g : MG} {μ : MU} {Q : Option MV → MG → MU → Prop} : Wp E 113 1 ls st g μ Q = Wp E 113 2 ls (.inl 0 :: st) g μ Q := Wp_nx k113_1 rfl
theorem k113_2 : mCode 113 2 = some (.putfield 65, 3) := by decide +kernel
theorem x113_2 {E : ME} {ls : MLs} {st : List MV} {g : MG} {μ : MU} {Q : Option MV → MG → MU → Prop} {a : Nat} {v : Int} : Wp E 113 2 ls (.inl v :: .inr (.inr (.inl a)) :: st) g μ Q = ((mKd g a).1 = 6 ∧ Wp E 113 5 ls st g (mUp μ a 0 v) Q) := Wp_putI0 k113_2 f6_65 (by decide) (by decide)
theorem k113_5 : mCode 113 5 = some (.aload_n 0, 1) := by decide +kernel
theorem x113_5 {E : ME} {ls : MLs} {st : List MV} {g : MG} {μ : MU} {Q : Option MV → MG → MU → Prop} {v : Nat ⊕ Nat} : Wp E 113 5 (some (.inr (.inr v)) :: ls) st g μ Q = Wp E 113 6 (some (.inr (.inr v)) :: ls) (.inr (.inr v) :: st) g μ Q := Wp_nx k113_5 rfl
theorem k113_6 : mCode 113 6 = some (.iload_n 1, 1) := by decide +kernel
theorem x113_6 {E : ME} {ls : MLs} {st : List MV} {g : MG} {μ : MU} {Q : Option MV → MG → MU → Prop} {l0 : Option MV} {v : Int} : Wp E 113 6 (l0 :: some (.inl v) :: ls) st g μ Q = Wp E 113 7 (l0 :: some (.inl v) :: ls) (.inl v :: st) g μ Q := Wp_nx k113_6 rfl
theorem k113_7 : mCode 113 7 = some (.invokevirtual 73, 3) := by decide +kernel
theorem x113_7 {E : ME} {ls : MLs} {st : List MV} {g : MG} {μ : MU} {Q : Option MV → MG → MU → Prop} {r : Nat} {a0 : Int} : Wp E 113 7 ls (.inl a0 :: .inr (.inr (.inl r)) :: st) g μ Q = ((st.length ≤ 4 ∧ ((mKd g r).1 == 6) = true) ∧ Wp E 80 0 [some (.inr (.inr (.inl r))), some (.inl a0)] [] g μ (fun r g' μ' => (g'.1 = g.1 ∧ g'.2.1 = g.2.1) ∧ Wp E 113 10 ls (mPush r st) g' μ' Q)) := Wp_cV k113_7 m6_73 (by decide) (as := [.inr (.inr (.inl r)), .inl a0]) rfl rfl rfl ⟨Nat.le_of_ble_eq_true rfl, by decide⟩
theorem k113_10 : mCode 113 10 = some (.ifCond .ne 5, 3) := by decide +kernel
theorem x113_10 {E : ME} {ls : MLs} {st : List MV} {g : MG} {μ : MU} {Q : Option MV → MG → MU → Prop} {a : Int} : Wp E 113 10 ls (.inl a :: st) g μ Q = ((¬ a = 0 → Wp E 113 15 ls st g μ Q) ∧ (a = 0 → Wp E 113 13 ls st g μ Q)) := Wp_if_ne k113_10 (by decide)
theorem k113_13 : mCode 113 13 = some (.iconst (-1), 1) := by decide +kernel
theorem x113_13 {E : ME} {ls : MLs} {st : List MV} {g : MG} {μ : MU} {Q : Option MV → MG → MU → Prop} : Wp E 113 13 ls st g μ Q = Wp E 113 14 ls (.inl (-1) :: st) g μ Q := Wp_nx k113_13 rfl
theorem k113_14 : mCode 113 14 = some (.ireturn, 1) := by decide +kernel
theorem x113_14 {E : ME} {ls : MLs} {g : MG} {μ : MU} {Q : Option MV → MG → MU → Prop} {v : Int} : Wp E 113 14 ls [.inl v] g μ Q = Q (some (.inl v)) g μ := Wp_retI k113_14 (by decide)
theorem k113_15 : mCode 113 15 = some (.iload_n 2, 1) := by decide +kernel
theorem x113_15 {E : ME} {ls : MLs} {st : List MV} {g : MG} {μ : MU} {Q : Option MV → MG → MU → Prop} {l0 l1 : Option MV} {v : Int} : Wp E 113 15 (l0 :: l1 :: some (.inl v) :: ls) st g μ Q = Wp E 113 16 (l0 :: l1 :: some (.inl v) :: ls) (.inl v :: st) g μ Q := Wp_nx k113_15 rfl
theorem k113_16 : mCode 113 16 = some (.iconst 0, 1) := by decide +kernel
theorem x113_16 {E : ME} {ls : MLs} {st : List MV} {g : MG} {μ : MU} {Q : Option MV → MG → MU → Prop} : Wp E 113 16 ls st g μ Q = Wp E 113 17 ls (.inl 0 :: st) g μ Q := Wp_nx k113_16 rfl
theorem k113_17 : mCode 113 17 = some (.iconst 5, 1) := by decide +kernel
theorem x113_17 {E : ME} {ls : MLs} {st : List MV} {g : MG} {μ : MU} {Q : Option MV → MG → MU → Prop} : Wp E 113 17 ls st g μ Q = Wp E 113 18 ls (.inl 5 :: st) g μ Q := Wp_nx k113_17 rfl
theorem k113_18 : mCode 113 18 = some (.invokestatic 69, 3) := by decide +kernel
theorem x113_18 {E : ME} {ls : MLs} {st : List MV} {g : MG} {μ : MU} {Q : Option MV → MG → MU → Prop} {a0 : Int} {a1 : Int} {a2 : Int} : Wp E 113 18 ls (.inl a2 :: .inl a1 :: .inl a0 :: st) g μ Q = (st.length ≤ 4 ∧ Wp E 77 0 [some (.inl a0), some (.inl a1), some (.inl a2)] [] g μ (fun r g' μ' => (g'.1 = g.1 ∧ g'.2.1 = g.2.1) ∧ Wp E 113 21 ls (mPush r st) g' μ' Q)) := Wp_cS k113_18 m6_69 (by decide) (as := [.inl a0, .inl a1, .inl a2]) rfl rfl rfl ⟨Nat.le_of_ble_eq_true rfl, by decide⟩
theorem k113_21 : mCode 113 21 = some (.ifCond .ne 6, 3) := by decide +kernel
theorem x113_21 {E : ME} {ls : MLs} {st : List MV} {g : MG} {μ : MU} {Q : Option MV → MG → MU → Prop} {a : Int} : Wp E 113 21 ls (.inl a :: st) g μ Q = ((¬ a = 0 → Wp E 113 27 ls st g μ Q) ∧ (a = 0 → Wp E 113 24 ls st g μ Q)) := Wp_if_ne k113_21 (by decide)
theorem k113_24 : mCode 113 24 = some (.bipush (-2), 2) := by decide +kernel
theorem x113_24 {E : ME} {ls : MLs} {st : List MV} {g : MG} {μ : MU} {Q : Option MV → MG → MU → Prop} : Wp E 113 24 ls st g μ Q = Wp E 113 26 ls (.inl (-2) :: st) g μ Q := Wp_nx k113_24 rfl
theorem k113_26 : mCode 113 26 = some (.ireturn, 1) := by decide +kernel
theorem x113_26 {E : ME} {ls : MLs} {g : MG} {μ : MU} {Q : Option MV → MG → MU → Prop} {v : Int} : Wp E 113 26 ls [.inl v] g μ Q = Q (some (.inl v)) g μ := Wp_retI k113_26 (by decide)
theorem k113_27 : mCode 113 27 = some (.aload_n 0, 1) := by decide +kernel
theorem x113_27 {E : ME} {ls : MLs} {st : List MV} {g : MG} {μ : MU} {Q : Option MV → MG → MU → Prop} {v : Nat ⊕ Nat} : Wp E 113 27 (some (.inr (.inr v)) :: ls) st g μ Q = Wp E 113 28 (some (.inr (.inr v)) :: ls) (.inr (.inr v) :: st) g μ Q := Wp_nx k113_27 rfl
theorem k113_28 : mCode 113 28 = some (.iconst 0, 1) := by decide +kernel
theorem x113_28 {E : ME} {ls : MLs} {st : List MV} {g : MG} {μ : MU} {Q : Option MV → MG → MU → Prop} : Wp E 113 28 ls st g μ Q = Wp E 113 29 ls (.inl 0 :: st) g μ Q := Wp_nx k113_28 rfl
theorem k113_29 : mCode 113 29 = some (.invokevirtual 164, 3) := by decide +kernel
theorem x113_29 {E : ME} {ls : MLs} {st : List MV} {g : MG} {μ : MU} {Q : Option MV → MG → MU → Prop} {r : Nat} {a0 : Int} : Wp E 113 29 ls (.inl a0 :: .inr (.inr (.inl r)) :: st) g μ Q = ((st.length ≤ 4 ∧ ((mKd g r).1 == 6) = true) ∧ Wp E 89 0 [some (.inr (.inr (.inl r))), some (.inl a0), none, none] [] g μ (fun r g' μ' => (g'.1 = g.1 ∧ g'.2.1 = g.2.1) ∧ Wp E 113 32 ls (mPush r st) g' μ' Q)) := Wp_cV k113_29 m6_164 (by decide) (as := [.inr (.inr (.inl r)), .inl a0]) rfl rfl rfl ⟨Nat.le_of_ble_eq_true rfl, by decide⟩
theorem k113_32 : mCode 113 32 = some (.iload_n 2, 1) := by decide +kernel
theorem x113_32 {E : ME} {ls : MLs} {st : List MV} {g : MG} {μ : MU} {Q : Option MV → MG → MU → Prop} {l0 l1 : Option MV} {v : Int} : Wp E 113 32 (l0 :: l1 :: some (.inl v) :: ls) st g μ Q = Wp E 113 33 (l0 :: l1 :: some (.inl v) :: ls) (.inl v :: st) g μ Q := Wp_nx k113_32 rfl
theorem k113_33 : mCode 113 33 = some (.iconst 3, 1) := by decide +kernel
theorem x113_33 {E : ME} {ls : MLs} {st : List MV} {g : MG} {μ : MU} {Q : Option MV → MG → MU → Prop} : Wp E 113 33 ls st g μ Q = Wp E 113 34 ls (.inl 3 :: st) g μ Q := Wp_nx k113_33 rfl
theorem k113_34 : mCode 113 34 = some (.if_icmp .ge 12, 3) := by decide +kernel
theorem x113_34 {E : ME} {ls : MLs} {st : List MV} {g : MG} {μ : MU} {Q : Option MV → MG → MU → Prop} {a b : Int} : Wp E 113 34 ls (.inl b :: .inl a :: st) g μ Q = ((b ≤ a → Wp E 113 46 ls st g μ Q) ∧ (a < b → Wp E 113 37 ls st g μ Q)) := Wp_cmp_ge k113_34 (by decide)
theorem k113_37 : mCode 113 37 = some (.aload_n 0, 1) := by decide +kernel
theorem x113_37 {E : ME} {ls : MLs} {st : List MV} {g : MG} {μ : MU} {Q : Option MV → MG → MU → Prop} {v : Nat ⊕ Nat} : Wp E 113 37 (some (.inr (.inr v)) :: ls) st g μ Q = Wp E 113 38 (some (.inr (.inr v)) :: ls) (.inr (.inr v) :: st) g μ Q := Wp_nx k113_37 rfl
theorem k113_38 : mCode 113 38 = some (.iload_n 1, 1) := by decide +kernel
theorem x113_38 {E : ME} {ls : MLs} {st : List MV} {g : MG} {μ : MU} {Q : Option MV → MG → MU → Prop} {l0 : Option MV} {v : Int} : Wp E 113 38 (l0 :: some (.inl v) :: ls) st g μ Q = Wp E 113 39 (l0 :: some (.inl v) :: ls) (.inl v :: st) g μ Q := Wp_nx k113_38 rfl
theorem k113_39 : mCode 113 39 = some (.iload_n 2, 1) := by decide +kernel
theorem x113_39 {E : ME} {ls : MLs} {st : List MV} {g : MG} {μ : MU} {Q : Option MV → MG → MU → Prop} {l0 l1 : Option MV} {v : Int} : Wp E 113 39 (l0 :: l1 :: some (.inl v) :: ls) st g μ Q = Wp E 113 40 (l0 :: l1 :: some (.inl v) :: ls) (.inl v :: st) g μ Q := Wp_nx k113_39 rfl
theorem k113_40 : mCode 113 40 = some (.invokevirtual 77, 3) := by decide +kernel
theorem x113_40 {E : ME} {ls : MLs} {st : List MV} {g : MG} {μ : MU} {Q : Option MV → MG → MU → Prop} {r : Nat} {a0 : Int} {a1 : Int} : Wp E 113 40 ls (.inl a1 :: .inl a0 :: .inr (.inr (.inl r)) :: st) g μ Q = ((st.length ≤ 4 ∧ ((mKd g r).1 == 6) = true) ∧ Wp E 78 0 [some (.inr (.inr (.inl r))), some (.inl a0), some (.inl a1)] [] g μ (fun r g' μ' => (g'.1 = g.1 ∧ g'.2.1 = g.2.1) ∧ Wp E 113 43 ls (mPush r st) g' μ' Q)) := Wp_cV k113_40 m6_77 (by decide) (as := [.inr (.inr (.inl r)), .inl a0, .inl a1]) rfl rfl rfl ⟨Nat.le_of_ble_eq_true rfl, by decide⟩
theorem k113_43 : mCode 113 43 = some (.goto 34, 3) := by decide +kernel
theorem x113_43 {E : ME} {ls : MLs} {st : List MV} {g : MG} {μ : MU} {Q : Option MV → MG → MU → Prop} : Wp E 113 43 ls st g μ Q = Wp E 113 77 ls st g μ Q := Wp_goto k113_43 (by decide)
theorem k113_46 : mCode 113 46 = some (.iload_n 2, 1) := by decide +kernel
theorem x113_46 {E : ME} {ls : MLs} {st : List MV} {g : MG} {μ : MU} {Q : Option MV → MG → MU → Prop} {l0 l1 : Option MV} {v : Int} : Wp E 113 46 (l0 :: l1 :: some (.inl v) :: ls) st g μ Q = Wp E 113 47 (l0 :: l1 :: some (.inl v) :: ls) (.inl v :: st) g μ Q := Wp_nx k113_46 rfl
theorem k113_47 : mCode 113 47 = some (.iconst 4, 1) := by decide +kernel
theorem x113_47 {E : ME} {ls : MLs} {st : List MV} {g : MG} {μ : MU} {Q : Option MV → MG → MU → Prop} : Wp E 113 47 ls st g μ Q = Wp E 113 48 ls (.inl 4 :: st) g μ Q := Wp_nx k113_47 rfl
theorem k113_48 : mCode 113 48 = some (.if_icmp .ne 12, 3) := by decide +kernel
theorem x113_48 {E : ME} {ls : MLs} {st : List MV} {g : MG} {μ : MU} {Q : Option MV → MG → MU → Prop} {a b : Int} : Wp E 113 48 ls (.inl b :: .inl a :: st) g μ Q = ((¬ a = b → Wp E 113 60 ls st g μ Q) ∧ (a = b → Wp E 113 51 ls st g μ Q)) := Wp_cmp_ne k113_48 (by decide)
theorem k113_51 : mCode 113 51 = some (.aload_n 0, 1) := by decide +kernel
theorem x113_51 {E : ME} {ls : MLs} {st : List MV} {g : MG} {μ : MU} {Q : Option MV → MG → MU → Prop} {v : Nat ⊕ Nat} : Wp E 113 51 (some (.inr (.inr v)) :: ls) st g μ Q = Wp E 113 52 (some (.inr (.inr v)) :: ls) (.inr (.inr v) :: st) g μ Q := Wp_nx k113_51 rfl
theorem k113_52 : mCode 113 52 = some (.getfield 44, 3) := by decide +kernel
theorem x113_52 {E : ME} {ls : MLs} {st : List MV} {g : MG} {μ : MU} {Q : Option MV → MG → MU → Prop} {a : Nat} : Wp E 113 52 ls (.inr (.inr (.inl a)) :: st) g μ Q = ((mKd g a).1 = 6 ∧ Wp E 113 55 ls (mRv (mRf g a 14) :: st) g μ Q) := Wp_getR k113_52 f6_44 (by decide) (by decide)
theorem k113_55 : mCode 113 55 = some (.iload_n 1, 1) := by decide +kernel
theorem x113_55 {E : ME} {ls : MLs} {st : List MV} {g : MG} {μ : MU} {Q : Option MV → MG → MU → Prop} {l0 : Option MV} {v : Int} : Wp E 113 55 (l0 :: some (.inl v) :: ls) st g μ Q = Wp E 113 56 (l0 :: some (.inl v) :: ls) (.inl v :: st) g μ Q := Wp_nx k113_55 rfl
theorem k113_56 : mCode 113 56 = some (.iaload, 1) := by decide +kernel
theorem x113_56 {E : ME} {ls : MLs} {st : List MV} {g : MG} {μ : MU} {Q : Option MV → MG → MU → Prop} {a : Nat} {j : Int} : Wp E 113 56 ls (.inl j :: .inr (.inr (.inl a)) :: st) g μ Q = (((mKd g a).1 = 10 ∧ 0 ≤ j ∧ j < (mKd g a).2) ∧ Wp E 113 57 ls (.inl (μ a j.toNat) :: st) g μ Q) := Wp_ald k113_56 (fun _ => rfl)
theorem k113_57 : mCode 113 57 = some (.goto 20, 3) := by decide +kernel
theorem x113_57 {E : ME} {ls : MLs} {st : List MV} {g : MG} {μ : MU} {Q : Option MV → MG → MU → Prop} : Wp E 113 57 ls st g μ Q = Wp E 113 77 ls st g μ Q := Wp_goto k113_57 (by decide)
theorem k113_60 : mCode 113 60 = some (.aload_n 0, 1) := by decide +kernel
theorem x113_60 {E : ME} {ls : MLs} {st : List MV} {g : MG} {μ : MU} {Q : Option MV → MG → MU → Prop} {v : Nat ⊕ Nat} : Wp E 113 60 (some (.inr (.inr v)) :: ls) st g μ Q = Wp E 113 61 (some (.inr (.inr v)) :: ls) (.inr (.inr v) :: st) g μ Q := Wp_nx k113_60 rfl
theorem k113_61 : mCode 113 61 = some (.iload_n 1, 1) := by decide +kernel
theorem x113_61 {E : ME} {ls : MLs} {st : List MV} {g : MG} {μ : MU} {Q : Option MV → MG → MU → Prop} {l0 : Option MV} {v : Int} : Wp E 113 61 (l0 :: some (.inl v) :: ls) st g μ Q = Wp E 113 62 (l0 :: some (.inl v) :: ls) (.inl v :: st) g μ Q := Wp_nx k113_61 rfl
theorem k113_62 : mCode 113 62 = some (.bipush (-6), 2) := by decide +kernel
theorem x113_62 {E : ME} {ls : MLs} {st : List MV} {g : MG} {μ : MU} {Q : Option MV → MG → MU → Prop} : Wp E 113 62 ls st g μ Q = Wp E 113 64 ls (.inl (-6) :: st) g μ Q := Wp_nx k113_62 rfl
theorem k113_64 : mCode 113 64 = some (.iload_n 2, 1) := by decide +kernel
theorem x113_64 {E : ME} {ls : MLs} {st : List MV} {g : MG} {μ : MU} {Q : Option MV → MG → MU → Prop} {l0 l1 : Option MV} {v : Int} : Wp E 113 64 (l0 :: l1 :: some (.inl v) :: ls) st g μ Q = Wp E 113 65 (l0 :: l1 :: some (.inl v) :: ls) (.inl v :: st) g μ Q := Wp_nx k113_64 rfl
theorem k113_65 : mCode 113 65 = some (.iconst 3, 1) := by decide +kernel
theorem x113_65 {E : ME} {ls : MLs} {st : List MV} {g : MG} {μ : MU} {Q : Option MV → MG → MU → Prop} : Wp E 113 65 ls st g μ Q = Wp E 113 66 ls (.inl 3 :: st) g μ Q := Wp_nx k113_65 rfl
theorem k113_66 : mCode 113 66 = some (.if_icmp .ne 7, 3) := by decide +kernel
theorem x113_66 {E : ME} {ls : MLs} {st : List MV} {g : MG} {μ : MU} {Q : Option MV → MG → MU → Prop} {a b : Int} : Wp E 113 66 ls (.inl b :: .inl a :: st) g μ Q = ((¬ a = b → Wp E 113 73 ls st g μ Q) ∧ (a = b → Wp E 113 69 ls st g μ Q)) := Wp_cmp_ne k113_66 (by decide)
theorem k113_69 : mCode 113 69 = some (.iconst 0, 1) := by decide +kernel
theorem x113_69 {E : ME} {ls : MLs} {st : List MV} {g : MG} {μ : MU} {Q : Option MV → MG → MU → Prop} : Wp E 113 69 ls st g μ Q = Wp E 113 70 ls (.inl 0 :: st) g μ Q := Wp_nx k113_69 rfl
theorem k113_70 : mCode 113 70 = some (.goto 4, 3) := by decide +kernel
theorem x113_70 {E : ME} {ls : MLs} {st : List MV} {g : MG} {μ : MU} {Q : Option MV → MG → MU → Prop} : Wp E 113 70 ls st g μ Q = Wp E 113 74 ls st g μ Q := Wp_goto k113_70 (by decide)
theorem k113_73 : mCode 113 73 = some (.iconst 2, 1) := by decide +kernel
theorem x113_73 {E : ME} {ls : MLs} {st : List MV} {g : MG} {μ : MU} {Q : Option MV → MG → MU → Prop} : Wp E 113 73 ls st g μ Q = Wp E 113 74 ls (.inl 2 :: st) g μ Q := Wp_nx k113_73 rfl
theorem k113_74 : mCode 113 74 = some (.invokevirtual 167, 3) := by decide +kernel
theorem x113_74 {E : ME} {ls : MLs} {st : List MV} {g : MG} {μ : MU} {Q : Option MV → MG → MU → Prop} {r : Nat} {a0 : Int} {a1 : Int} {a2 : Int} : Wp E 113 74 ls (.inl a2 :: .inl a1 :: .inl a0 :: .inr (.inr (.inl r)) :: st) g μ Q = ((st.length ≤ 4 ∧ ((mKd g r).1 == 6) = true) ∧ Wp E 112 0 [some (.inr (.inr (.inl r))), some (.inl a0), some (.inl a1), some (.inl a2), none, none, none, none] [] g μ (fun r g' μ' => (g'.1 = g.1 ∧ g'.2.1 = g.2.1) ∧ Wp E 113 77 ls (mPush r st) g' μ' Q)) := Wp_cV k113_74 m6_167 (by decide) (as := [.inr (.inr (.inl r)), .inl a0, .inl a1, .inl a2]) rfl rfl rfl ⟨Nat.le_of_ble_eq_true rfl, by decide⟩
theorem k113_77 : mCode 113 77 = some (.ireturn, 1) := by decide +kernel
theorem x113_77 {E : ME} {ls : MLs} {g : MG} {μ : MU} {Q : Option MV → MG → MU → Prop} {v : Int} : Wp E 113 77 ls [.inl v] g μ Q = Q (some (.inl v)) g μ := Wp_retI k113_77 (by decide)
theorem k114_0 : mCode 114 0 = some (.aload_n 0, 1) := by decide +kernel
theorem x114_0 {E : ME} {ls : MLs} {st : List MV} {g : MG} {μ : MU} {Q : Option MV → MG → MU → Prop} {v : Nat ⊕ Nat} : Wp E 114 0 (some (.inr (.inr v)) :: ls) st g μ Q = Wp E 114 1 (some (.inr (.inr v)) :: ls) (.inr (.inr v) :: st) g μ Q := Wp_nx k114_0 rfl
theorem k114_1 : mCode 114 1 = some (.getfield 7, 3) := by decide +kernel
theorem x114_1 {E : ME} {ls : MLs} {st : List MV} {g : MG} {μ : MU} {Q : Option MV → MG → MU → Prop} {a : Nat} : Wp E 114 1 ls (.inr (.inr (.inl a)) :: st) g μ Q = ((mKd g a).1 = 6 ∧ Wp E 114 4 ls (mRv (mRf g a 1) :: st) g μ Q) := Wp_getR k114_1 f6_7 (by decide) (by decide)
theorem k114_4 : mCode 114 4 = some (.iconst 3, 1) := by decide +kernel
theorem x114_4 {E : ME} {ls : MLs} {st : List MV} {g : MG} {μ : MU} {Q : Option MV → MG → MU → Prop} : Wp E 114 4 ls st g μ Q = Wp E 114 5 ls (.inl 3 :: st) g μ Q := Wp_nx k114_4 rfl
theorem k114_5 : mCode 114 5 = some (.iaload, 1) := by decide +kernel
theorem x114_5 {E : ME} {ls : MLs} {st : List MV} {g : MG} {μ : MU} {Q : Option MV → MG → MU → Prop} {a : Nat} {j : Int} : Wp E 114 5 ls (.inl j :: .inr (.inr (.inl a)) :: st) g μ Q = (((mKd g a).1 = 10 ∧ 0 ≤ j ∧ j < (mKd g a).2) ∧ Wp E 114 6 ls (.inl (μ a j.toNat) :: st) g μ Q) := Wp_ald k114_5 (fun _ => rfl)
theorem k114_6 : mCode 114 6 = some (.ifCond .ne 8, 3) := by decide +kernel
theorem x114_6 {E : ME} {ls : MLs} {st : List MV} {g : MG} {μ : MU} {Q : Option MV → MG → MU → Prop} {a : Int} : Wp E 114 6 ls (.inl a :: st) g μ Q = ((¬ a = 0 → Wp E 114 14 ls st g μ Q) ∧ (a = 0 → Wp E 114 9 ls st g μ Q)) := Wp_if_ne k114_6 (by decide)
theorem k114_9 : mCode 114 9 = some (.bipush (-6), 2) := by decide +kernel
theorem x114_9 {E : ME} {ls : MLs} {st : List MV} {g : MG} {μ : MU} {Q : Option MV → MG → MU → Prop} : Wp E 114 9 ls st g μ Q = Wp E 114 11 ls (.inl (-6) :: st) g μ Q := Wp_nx k114_9 rfl
theorem k114_11 : mCode 114 11 = some (.goto 18, 3) := by decide +kernel
theorem x114_11 {E : ME} {ls : MLs} {st : List MV} {g : MG} {μ : MU} {Q : Option MV → MG → MU → Prop} : Wp E 114 11 ls st g μ Q = Wp E 114 29 ls st g μ Q := Wp_goto k114_11 (by decide)
theorem k114_14 : mCode 114 14 = some (.aload_n 0, 1) := by decide +kernel
theorem x114_14 {E : ME} {ls : MLs} {st : List MV} {g : MG} {μ : MU} {Q : Option MV → MG → MU → Prop} {v : Nat ⊕ Nat} : Wp E 114 14 (some (.inr (.inr v)) :: ls) st g μ Q = Wp E 114 15 (some (.inr (.inr v)) :: ls) (.inr (.inr v) :: st) g μ Q := Wp_nx k114_14 rfl
theorem k114_15 : mCode 114 15 = some (.iload_n 1, 1) := by decide +kernel
theorem x114_15 {E : ME} {ls : MLs} {st : List MV} {g : MG} {μ : MU} {Q : Option MV → MG → MU → Prop} {l0 : Option MV} {v : Int} : Wp E 114 15 (l0 :: some (.inl v) :: ls) st g μ Q = Wp E 114 16 (l0 :: some (.inl v) :: ls) (.inl v :: st) g μ Q := Wp_nx k114_15 rfl
theorem k114_16 : mCode 114 16 = some (.invokevirtual 97, 3) := by decide +kernel
theorem x114_16 {E : ME} {ls : MLs} {st : List MV} {g : MG} {μ : MU} {Q : Option MV → MG → MU → Prop} {r : Nat} {a0 : Int} : Wp E 114 16 ls (.inl a0 :: .inr (.inr (.inl r)) :: st) g μ Q = ((st.length ≤ 4 ∧ ((mKd g r).1 == 6) = true) ∧ Wp E 86 0 [some (.inr (.inr (.inl r))), some (.inl a0), none, none, none] [] g μ (fun r g' μ' => (g'.1 = g.1 ∧ g'.2.1 = g.2.1) ∧ Wp E 114 19 ls (mPush r st) g' μ' Q)) := Wp_cV k114_16 m6_97 (by decide) (as := [.inr (.inr (.inl r)), .inl a0]) rfl rfl rfl ⟨Nat.le_of_ble_eq_true rfl, by decide⟩
theorem k114_19 : mCode 114 19 = some (.aload_n 0, 1) := by decide +kernel
theorem x114_19 {E : ME} {ls : MLs} {st : List MV} {g : MG} {μ : MU} {Q : Option MV → MG → MU → Prop} {v : Nat ⊕ Nat} : Wp E 114 19 (some (.inr (.inr v)) :: ls) st g μ Q = Wp E 114 20 (some (.inr (.inr v)) :: ls) (.inr (.inr v) :: st) g μ Q := Wp_nx k114_19 rfl
theorem k114_20 : mCode 114 20 = some (.getfield 7, 3) := by decide +kernel
theorem x114_20 {E : ME} {ls : MLs} {st : List MV} {g : MG} {μ : MU} {Q : Option MV → MG → MU → Prop} {a : Nat} : Wp E 114 20 ls (.inr (.inr (.inl a)) :: st) g μ Q = ((mKd g a).1 = 6 ∧ Wp E 114 23 ls (mRv (mRf g a 1) :: st) g μ Q) := Wp_getR k114_20 f6_7 (by decide) (by decide)
theorem k114_23 : mCode 114 23 = some (.iconst 3, 1) := by decide +kernel
theorem x114_23 {E : ME} {ls : MLs} {st : List MV} {g : MG} {μ : MU} {Q : Option MV → MG → MU → Prop} : Wp E 114 23 ls st g μ Q = Wp E 114 24 ls (.inl 3 :: st) g μ Q := Wp_nx k114_23 rfl
theorem k114_24 : mCode 114 24 = some (.iaload, 1) := by decide +kernel
theorem x114_24 {E : ME} {ls : MLs} {st : List MV} {g : MG} {μ : MU} {Q : Option MV → MG → MU → Prop} {a : Nat} {j : Int} : Wp E 114 24 ls (.inl j :: .inr (.inr (.inl a)) :: st) g μ Q = (((mKd g a).1 = 10 ∧ 0 ≤ j ∧ j < (mKd g a).2) ∧ Wp E 114 25 ls (.inl (μ a j.toNat) :: st) g μ Q) := Wp_ald k114_24 (fun _ => rfl)
theorem k114_25 : mCode 114 25 = some (.imul, 1) := by decide +kernel
theorem x114_25 {E : ME} {ls : MLs} {st : List MV} {g : MG} {μ : MU} {Q : Option MV → MG → MU → Prop} {a b : Int} : Wp E 114 25 ls (.inl b :: .inl a :: st) g μ Q = Wp E 114 26 ls (.inl (mWr (a * b)) :: st) g μ Q := Wp_nx k114_25 rfl
theorem k114_26 : mCode 114 26 = some (.bipush 7, 2) := by decide +kernel
theorem x114_26 {E : ME} {ls : MLs} {st : List MV} {g : MG} {μ : MU} {Q : Option MV → MG → MU → Prop} : Wp E 114 26 ls st g μ Q = Wp E 114 28 ls (.inl 7 :: st) g μ Q := Wp_nx k114_26 rfl
theorem k114_28 : mCode 114 28 = some (.irem, 1) := by decide +kernel
theorem x114_28 {E : ME} {ls : MLs} {st : List MV} {g : MG} {μ : MU} {Q : Option MV → MG → MU → Prop} {a b : Int} : Wp E 114 28 ls (.inl b :: .inl a :: st) g μ Q = (¬ b = 0 ∧ Wp E 114 29 ls (.inl (a.tmod b) :: st) g μ Q) := Wp_div (f := mIrem) k114_28 (fun _ => rfl)
theorem k114_29 : mCode 114 29 = some (.ireturn, 1) := by decide +kernel
theorem x114_29 {E : ME} {ls : MLs} {g : MG} {μ : MU} {Q : Option MV → MG → MU → Prop} {v : Int} : Wp E 114 29 ls [.inl v] g μ Q = Q (some (.inl v)) g μ := Wp_retI k114_29 (by decide)
theorem k115_0 : mCode 115 0 = some (.aload_n 0, 1) := by decide +kernel
theorem x115_0 {E : ME} {ls : MLs} {st : List MV} {g : MG} {μ : MU} {Q : Option MV → MG → MU → Prop} {v : Nat ⊕ Nat} : Wp E 115 0 (some (.inr (.inr v)) :: ls) st g μ Q = Wp E 115 1 (some (.inr (.inr v)) :: ls) (.inr (.inr v) :: st) g μ Q := Wp_nx k115_0 rfl
theorem k115_1 : mCode 115 1 = some (.iconst 0, 1) := by decide +kernel
theorem x115_1 {E : ME} {ls : MLs} {st : List MV} {g : MG} {μ : MU} {Q : Option MV → MG → MU → Prop} : Wp E 115 1 ls st g μ Q = Wp E 115 2 ls (.inl 0 :: st) g μ Q := Wp_nx k115_1 rfl
theorem k115_2 : mCode 115 2 = some (.putfield 65, 3) := by decide +kernel
theorem x115_2 {E : ME} {ls : MLs} {st : List MV} {g : MG} {μ : MU} {Q : Option MV → MG → MU → Prop} {a : Nat} {v : Int} : Wp E 115 2 ls (.inl v :: .inr (.inr (.inl a)) :: st) g μ Q = ((mKd g a).1 = 6 ∧ Wp E 115 5 ls st g (mUp μ a 0 v) Q) := Wp_putI0 k115_2 f6_65 (by decide) (by decide)
theorem k115_5 : mCode 115 5 = some (.aload_n 0, 1) := by decide +kernel
theorem x115_5 {E : ME} {ls : MLs} {st : List MV} {g : MG} {μ : MU} {Q : Option MV → MG → MU → Prop} {v : Nat ⊕ Nat} : Wp E 115 5 (some (.inr (.inr v)) :: ls) st g μ Q = Wp E 115 6 (some (.inr (.inr v)) :: ls) (.inr (.inr v) :: st) g μ Q := Wp_nx k115_5 rfl
theorem k115_6 : mCode 115 6 = some (.iload_n 1, 1) := by decide +kernel
theorem x115_6 {E : ME} {ls : MLs} {st : List MV} {g : MG} {μ : MU} {Q : Option MV → MG → MU → Prop} {l0 : Option MV} {v : Int} : Wp E 115 6 (l0 :: some (.inl v) :: ls) st g μ Q = Wp E 115 7 (l0 :: some (.inl v) :: ls) (.inl v :: st) g μ Q := Wp_nx k115_6 rfl
theorem k115_7 : mCode 115 7 = some (.invokevirtual 146, 3) := by decide +kernel
theorem x115_7 {E : ME} {ls : MLs} {st : List MV} {g : MG} {μ : MU} {Q : Option MV → MG → MU → Prop} {r : Nat} {a0 : Int} : Wp E 115 7 ls (.inl a0 :: .inr (.inr (.inl r)) :: st) g μ Q = ((st.length ≤ 4 ∧ ((mKd g r).1 == 6) = true) ∧ Wp E 81 0 [some (.inr (.inr (.inl r))), some (.inl a0)] [] g μ (fun r g' μ' => (g'.1 = g.1 ∧ g'.2.1 = g.2.1) ∧ Wp E 115 10 ls (mPush r st) g' μ' Q)) := Wp_cV k115_7 m6_146 (by decide) (as := [.inr (.inr (.inl r)), .inl a0]) rfl rfl rfl ⟨Nat.le_of_ble_eq_true rfl, by decide⟩
theorem k115_10 : mCode 115 10 = some (.ifCond .ne 5, 3) := by decide +kernel
theorem x115_10 {E : ME} {ls : MLs} {st : List MV} {g : MG} {μ : MU} {Q : Option MV → MG → MU → Prop} {a : Int} : Wp E 115 10 ls (.inl a :: st) g μ Q = ((¬ a = 0 → Wp E 115 15 ls st g μ Q) ∧ (a = 0 → Wp E 115 13 ls st g μ Q)) := Wp_if_ne k115_10 (by decide)
theorem k115_13 : mCode 115 13 = some (.iconst (-1), 1) := by decide +kernel
theorem x115_13 {E : ME} {ls : MLs} {st : List MV} {g : MG} {μ : MU} {Q : Option MV → MG → MU → Prop} : Wp E 115 13 ls st g μ Q = Wp E 115 14 ls (.inl (-1) :: st) g μ Q := Wp_nx k115_13 rfl
theorem k115_14 : mCode 115 14 = some (.ireturn, 1) := by decide +kernel
theorem x115_14 {E : ME} {ls : MLs} {g : MG} {μ : MU} {Q : Option MV → MG → MU → Prop} {v : Int} : Wp E 115 14 ls [.inl v] g μ Q = Q (some (.inl v)) g μ := Wp_retI k115_14 (by decide)
theorem k115_15 : mCode 115 15 = some (.aload_n 0, 1) := by decide +kernel
theorem x115_15 {E : ME} {ls : MLs} {st : List MV} {g : MG} {μ : MU} {Q : Option MV → MG → MU → Prop} {v : Nat ⊕ Nat} : Wp E 115 15 (some (.inr (.inr v)) :: ls) st g μ Q = Wp E 115 16 (some (.inr (.inr v)) :: ls) (.inr (.inr v) :: st) g μ Q := Wp_nx k115_15 rfl
theorem k115_16 : mCode 115 16 = some (.iconst 0, 1) := by decide +kernel
theorem x115_16 {E : ME} {ls : MLs} {st : List MV} {g : MG} {μ : MU} {Q : Option MV → MG → MU → Prop} : Wp E 115 16 ls st g μ Q = Wp E 115 17 ls (.inl 0 :: st) g μ Q := Wp_nx k115_16 rfl
theorem k115_17 : mCode 115 17 = some (.invokevirtual 164, 3) := by decide +kernel
theorem x115_17 {E : ME} {ls : MLs} {st : List MV} {g : MG} {μ : MU} {Q : Option MV → MG → MU → Prop} {r : Nat} {a0 : Int} : Wp E 115 17 ls (.inl a0 :: .inr (.inr (.inl r)) :: st) g μ Q = ((st.length ≤ 4 ∧ ((mKd g r).1 == 6) = true) ∧ Wp E 89 0 [some (.inr (.inr (.inl r))), some (.inl a0), none, none] [] g μ (fun r g' μ' => (g'.1 = g.1 ∧ g'.2.1 = g.2.1) ∧ Wp E 115 20 ls (mPush r st) g' μ' Q)) := Wp_cV k115_17 m6_164 (by decide) (as := [.inr (.inr (.inl r)), .inl a0]) rfl rfl rfl ⟨Nat.le_of_ble_eq_true rfl, by decide⟩
theorem k115_20 : mCode 115 20 = some (.iload_n 2, 1) := by decide +kernel
theorem x115_20 {E : ME} {ls : MLs} {st : List MV} {g : MG} {μ : MU} {Q : Option MV → MG → MU → Prop} {l0 l1 : Option MV} {v : Int} : Wp E 115 20 (l0 :: l1 :: some (.inl v) :: ls) st g μ Q = Wp E 115 21 (l0 :: l1 :: some (.inl v) :: ls) (.inl v :: st) g μ Q := Wp_nx k115_20 rfl
theorem k115_21 : mCode 115 21 = some (.tableswitch 98 4 11 #[47, 53, 60, 67, 74, 80, 86, 92], 47) := by decide +kernel
theorem x115_21_4 {E : ME} {ls : MLs} {st : List MV} {g : MG} {μ : MU} {Q : Option MV → MG → MU → Prop} : Wp E 115 21 ls (.inl 4 :: st) g μ Q = Wp E 115 68 ls st g μ Q := Wp_nx k115_21 rfl
theorem x115_21_5 {E : ME} {ls : MLs} {st : List MV} {g : MG} {μ : MU} {Q : Option MV → MG → MU → Prop} : Wp E 115 21 ls (.inl 5 :: st) g μ Q = Wp E 115 74 ls st g μ Q := Wp_nx k115_21 rfl
theorem x115_21_6 {E : ME} {ls : MLs} {st : List MV} {g : MG} {μ : MU} {Q : Option MV → MG → MU → Prop} : Wp E 115 21 ls (.inl 6 :: st) g μ Q = Wp E 115 81 ls st g μ Q := Wp_nx k115_21 rfl
theorem x115_21_7 {E : ME} {ls : MLs} {st : List MV} {g : MG} {μ : MU} {Q : Option MV → MG → MU → Prop} : Wp E 115 21 ls (.inl 7 :: st) g μ Q = Wp E 115 88 ls st g μ Q := Wp_nx k115_21 rfl
theorem x115_21_8 {E : ME} {ls : MLs} {st : List MV} {g : MG} {μ : MU} {Q : Option MV → MG → MU → Prop} : Wp E 115 21 ls (.inl 8 :: st) g μ Q = Wp E 115 95 ls st g μ Q := Wp_nx k115_21 rfl
theorem x115_21_9 {E : ME} {ls : MLs} {st : List MV} {g : MG} {μ : MU} {Q : Option MV → MG → MU → Prop} : Wp E 115 21 ls (.inl 9 :: st) g μ Q = Wp E 115 101 ls st g μ Q := Wp_nx k115_21 rfl
theorem x115_21_10 {E : ME} {ls : MLs} {st : List MV} {g : MG} {μ : MU} {Q : Option MV → MG → MU → Prop} : Wp E 115 21 ls (.inl 10 :: st) g μ Q = Wp E 115 107 ls st g μ Q := Wp_nx k115_21 rfl
theorem x115_21_11 {E : ME} {ls : MLs} {st : List MV} {g : MG} {μ : MU} {Q : Option MV → MG → MU → Prop} : Wp E 115 21 ls (.inl 11 :: st) g μ Q = Wp E 115 113 ls st g μ Q := Wp_nx k115_21 rfl
theorem x115_21_d {E : ME} {ls : MLs} {st : List MV} {g : MG} {μ : MU} {Q : Option MV → MG → MU → Prop} {a : Int} (h : a < 4 ∨ 11 < a) : Wp E 115 21 ls (.inl a :: st) g μ Q = Wp E 115 119 ls st g μ Q := Wp_tswD k115_21 h (by decide)
theorem k115_68 : mCode 115 68 = some (.aload_n 0, 1) := by decide +kernel
theorem x115_68 {E : ME} {ls : MLs} {st : List MV} {g : MG} {μ : MU} {Q : Option MV → MG → MU → Prop} {v : Nat ⊕ Nat} : Wp E 115 68 (some (.inr (.inr v)) :: ls) st g μ Q = Wp E 115 69 (some (.inr (.inr v)) :: ls) (.inr (.inr v) :: st) g μ Q := Wp_nx k115_68 rfl
theorem k115_69 : mCode 115 69 = some (.iload_n 1, 1) := by decide +kernel
theorem x115_69 {E : ME} {ls : MLs} {st : List MV} {g : MG} {μ : MU} {Q : Option MV → MG → MU → Prop} {l0 : Option MV} {v : Int} : Wp E 115 69 (l0 :: some (.inl v) :: ls) st g μ Q = Wp E 115 70 (l0 :: some (.inl v) :: ls) (.inl v :: st) g μ Q := Wp_nx k115_69 rfl
theorem k115_70 : mCode 115 70 = some (.invokevirtual 97, 3) := by decide +kernel
theorem x115_70 {E : ME} {ls : MLs} {st : List MV} {g : MG} {μ : MU} {Q : Option MV → MG → MU → Prop} {r : Nat} {a0 : Int} : Wp E 115 70 ls (.inl a0 :: .inr (.inr (.inl r)) :: st) g μ Q = ((st.length ≤ 4 ∧ ((mKd g r).1 == 6) = true) ∧ Wp E 86 0 [some (.inr (.inr (.inl r))), some (.inl a0), none, none, none] [] g μ (fun r g' μ' => (g'.1 = g.1 ∧ g'.2.1 = g.2.1) ∧ Wp E 115 73 ls (mPush r st) g' μ' Q)) := Wp_cV k115_70 m6_97 (by decide) (as := [.inr (.inr (.inl r)), .inl a0]) rfl rfl rfl ⟨Nat.le_of_ble_eq_true rfl, by decide⟩
theorem k115_73 : mCode 115 73 = some (.ireturn, 1) := by decide +kernel
theorem x115_73 {E : ME} {ls : MLs} {g : MG} {μ : MU} {Q : Option MV → MG → MU → Prop} {v : Int} : Wp E 115 73 ls [.inl v] g μ Q = Q (some (.inl v)) g μ := Wp_retI k115_73 (by decide)
theorem k115_74 : mCode 115 74 = some (.aload_n 0, 1) := by decide +kernel
theorem x115_74 {E : ME} {ls : MLs} {st : List MV} {g : MG} {μ : MU} {Q : Option MV → MG → MU → Prop} {v : Nat ⊕ Nat} : Wp E 115 74 (some (.inr (.inr v)) :: ls) st g μ Q = Wp E 115 75 (some (.inr (.inr v)) :: ls) (.inr (.inr v) :: st) g μ Q := Wp_nx k115_74 rfl
theorem k115_75 : mCode 115 75 = some (.getfield 29, 3) := by decide +kernel
theorem x115_75 {E : ME} {ls : MLs} {st : List MV} {g : MG} {μ : MU} {Q : Option MV → MG → MU → Prop} {a : Nat} : Wp E 115 75 ls (.inr (.inr (.inl a)) :: st) g μ Q = ((mKd g a).1 = 6 ∧ Wp E 115 78 ls (mRv (mRf g a 9) :: st) g μ Q) := Wp_getR k115_75 f6_29 (by decide) (by decide)
theorem k115_78 : mCode 115 78 = some (.iload_n 1, 1) := by decide +kernel
theorem x115_78 {E : ME} {ls : MLs} {st : List MV} {g : MG} {μ : MU} {Q : Option MV → MG → MU → Prop} {l0 : Option MV} {v : Int} : Wp E 115 78 (l0 :: some (.inl v) :: ls) st g μ Q = Wp E 115 79 (l0 :: some (.inl v) :: ls) (.inl v :: st) g μ Q := Wp_nx k115_78 rfl
theorem k115_79 : mCode 115 79 = some (.iaload, 1) := by decide +kernel
theorem x115_79 {E : ME} {ls : MLs} {st : List MV} {g : MG} {μ : MU} {Q : Option MV → MG → MU → Prop} {a : Nat} {j : Int} : Wp E 115 79 ls (.inl j :: .inr (.inr (.inl a)) :: st) g μ Q = (((mKd g a).1 = 10 ∧ 0 ≤ j ∧ j < (mKd g a).2) ∧ Wp E 115 80 ls (.inl (μ a j.toNat) :: st) g μ Q) := Wp_ald k115_79 (fun _ => rfl)
theorem k115_80 : mCode 115 80 = some (.ireturn, 1) := by decide +kernel
theorem x115_80 {E : ME} {ls : MLs} {g : MG} {μ : MU} {Q : Option MV → MG → MU → Prop} {v : Int} : Wp E 115 80 ls [.inl v] g μ Q = Q (some (.inl v)) g μ := Wp_retI k115_80 (by decide)
theorem k115_81 : mCode 115 81 = some (.aload_n 0, 1) := by decide +kernel
theorem x115_81 {E : ME} {ls : MLs} {st : List MV} {g : MG} {μ : MU} {Q : Option MV → MG → MU → Prop} {v : Nat ⊕ Nat} : Wp E 115 81 (some (.inr (.inr v)) :: ls) st g μ Q = Wp E 115 82 (some (.inr (.inr v)) :: ls) (.inr (.inr v) :: st) g μ Q := Wp_nx k115_81 rfl
theorem k115_82 : mCode 115 82 = some (.getfield 32, 3) := by decide +kernel
theorem x115_82 {E : ME} {ls : MLs} {st : List MV} {g : MG} {μ : MU} {Q : Option MV → MG → MU → Prop} {a : Nat} : Wp E 115 82 ls (.inr (.inr (.inl a)) :: st) g μ Q = ((mKd g a).1 = 6 ∧ Wp E 115 85 ls (mRv (mRf g a 10) :: st) g μ Q) := Wp_getR k115_82 f6_32 (by decide) (by decide)
theorem k115_85 : mCode 115 85 = some (.iload_n 1, 1) := by decide +kernel
theorem x115_85 {E : ME} {ls : MLs} {st : List MV} {g : MG} {μ : MU} {Q : Option MV → MG → MU → Prop} {l0 : Option MV} {v : Int} : Wp E 115 85 (l0 :: some (.inl v) :: ls) st g μ Q = Wp E 115 86 (l0 :: some (.inl v) :: ls) (.inl v :: st) g μ Q := Wp_nx k115_85 rfl
theorem k115_86 : mCode 115 86 = some (.iaload, 1) := by decide +kernel
theorem x115_86 {E : ME} {ls : MLs} {st : List MV} {g : MG} {μ : MU} {Q : Option MV → MG → MU → Prop} {a : Nat} {j : Int} : Wp E 115 86 ls (.inl j :: .inr (.inr (.inl a)) :: st) g μ Q = (((mKd g a).1 = 10 ∧ 0 ≤ j ∧ j < (mKd g a).2) ∧ Wp E 115 87 ls (.inl (μ a j.toNat) :: st) g μ Q) := Wp_ald k115_86 (fun _ => rfl)
theorem k115_87 : mCode 115 87 = some (.ireturn, 1) := by decide +kernel
theorem x115_87 {E : ME} {ls : MLs} {g : MG} {μ : MU} {Q : Option MV → MG → MU → Prop} {v : Int} : Wp E 115 87 ls [.inl v] g μ Q = Q (some (.inl v)) g μ := Wp_retI k115_87 (by decide)
theorem k115_88 : mCode 115 88 = some (.aload_n 0, 1) := by decide +kernel
theorem x115_88 {E : ME} {ls : MLs} {st : List MV} {g : MG} {μ : MU} {Q : Option MV → MG → MU → Prop} {v : Nat ⊕ Nat} : Wp E 115 88 (some (.inr (.inr v)) :: ls) st g μ Q = Wp E 115 89 (some (.inr (.inr v)) :: ls) (.inr (.inr v) :: st) g μ Q := Wp_nx k115_88 rfl
theorem k115_89 : mCode 115 89 = some (.getfield 35, 3) := by decide +kernel
theorem x115_89 {E : ME} {ls : MLs} {st : List MV} {g : MG} {μ : MU} {Q : Option MV → MG → MU → Prop} {a : Nat} : Wp E 115 89 ls (.inr (.inr (.inl a)) :: st) g μ Q = ((mKd g a).1 = 6 ∧ Wp E 115 92 ls (mRv (mRf g a 11) :: st) g μ Q) := Wp_getR k115_89 f6_35 (by decide) (by decide)
theorem k115_92 : mCode 115 92 = some (.iload_n 1, 1) := by decide +kernel
theorem x115_92 {E : ME} {ls : MLs} {st : List MV} {g : MG} {μ : MU} {Q : Option MV → MG → MU → Prop} {l0 : Option MV} {v : Int} : Wp E 115 92 (l0 :: some (.inl v) :: ls) st g μ Q = Wp E 115 93 (l0 :: some (.inl v) :: ls) (.inl v :: st) g μ Q := Wp_nx k115_92 rfl
theorem k115_93 : mCode 115 93 = some (.iaload, 1) := by decide +kernel
theorem x115_93 {E : ME} {ls : MLs} {st : List MV} {g : MG} {μ : MU} {Q : Option MV → MG → MU → Prop} {a : Nat} {j : Int} : Wp E 115 93 ls (.inl j :: .inr (.inr (.inl a)) :: st) g μ Q = (((mKd g a).1 = 10 ∧ 0 ≤ j ∧ j < (mKd g a).2) ∧ Wp E 115 94 ls (.inl (μ a j.toNat) :: st) g μ Q) := Wp_ald k115_93 (fun _ => rfl)
theorem k115_94 : mCode 115 94 = some (.ireturn, 1) := by decide +kernel
theorem x115_94 {E : ME} {ls : MLs} {g : MG} {μ : MU} {Q : Option MV → MG → MU → Prop} {v : Int} : Wp E 115 94 ls [.inl v] g μ Q = Q (some (.inl v)) g μ := Wp_retI k115_94 (by decide)
theorem k115_95 : mCode 115 95 = some (.aload_n 0, 1) := by decide +kernel
theorem x115_95 {E : ME} {ls : MLs} {st : List MV} {g : MG} {μ : MU} {Q : Option MV → MG → MU → Prop} {v : Nat ⊕ Nat} : Wp E 115 95 (some (.inr (.inr v)) :: ls) st g μ Q = Wp E 115 96 (some (.inr (.inr v)) :: ls) (.inr (.inr v) :: st) g μ Q := Wp_nx k115_95 rfl
theorem k115_96 : mCode 115 96 = some (.iload_n 1, 1) := by decide +kernel
theorem x115_96 {E : ME} {ls : MLs} {st : List MV} {g : MG} {μ : MU} {Q : Option MV → MG → MU → Prop} {l0 : Option MV} {v : Int} : Wp E 115 96 (l0 :: some (.inl v) :: ls) st g μ Q = Wp E 115 97 (l0 :: some (.inl v) :: ls) (.inl v :: st) g μ Q := Wp_nx k115_96 rfl
theorem k115_97 : mCode 115 97 = some (.invokevirtual 105, 3) := by decide +kernel
theorem x115_97 {E : ME} {ls : MLs} {st : List MV} {g : MG} {μ : MU} {Q : Option MV → MG → MU → Prop} {r : Nat} {a0 : Int} : Wp E 115 97 ls (.inl a0 :: .inr (.inr (.inl r)) :: st) g μ Q = ((st.length ≤ 4 ∧ ((mKd g r).1 == 6) = true) ∧ Wp E 91 0 [some (.inr (.inr (.inl r))), some (.inl a0)] [] g μ (fun r g' μ' => (g'.1 = g.1 ∧ g'.2.1 = g.2.1) ∧ Wp E 115 100 ls (mPush r st) g' μ' Q)) := Wp_cV k115_97 m6_105 (by decide) (as := [.inr (.inr (.inl r)), .inl a0]) rfl rfl rfl ⟨Nat.le_of_ble_eq_true rfl, by decide⟩
theorem k115_100 : mCode 115 100 = some (.ireturn, 1) := by decide +kernel
theorem x115_100 {E : ME} {ls : MLs} {g : MG} {μ : MU} {Q : Option MV → MG → MU → Prop} {v : Int} : Wp E 115 100 ls [.inl v] g μ Q = Q (some (.inl v)) g μ := Wp_retI k115_100 (by decide)
theorem k115_101 : mCode 115 101 = some (.aload_n 0, 1) := by decide +kernel
theorem x115_101 {E : ME} {ls : MLs} {st : List MV} {g : MG} {μ : MU} {Q : Option MV → MG → MU → Prop} {v : Nat ⊕ Nat} : Wp E 115 101 (some (.inr (.inr v)) :: ls) st g μ Q = Wp E 115 102 (some (.inr (.inr v)) :: ls) (.inr (.inr v) :: st) g μ Q := Wp_nx k115_101 rfl
theorem k115_102 : mCode 115 102 = some (.iload_n 1, 1) := by decide +kernel
theorem x115_102 {E : ME} {ls : MLs} {st : List MV} {g : MG} {μ : MU} {Q : Option MV → MG → MU → Prop} {l0 : Option MV} {v : Int} : Wp E 115 102 (l0 :: some (.inl v) :: ls) st g μ Q = Wp E 115 103 (l0 :: some (.inl v) :: ls) (.inl v :: st) g μ Q := Wp_nx k115_102 rfl
theorem k115_103 : mCode 115 103 = some (.invokevirtual 111, 3) := by decide +kernel
theorem x115_103 {E : ME} {ls : MLs} {st : List MV} {g : MG} {μ : MU} {Q : Option MV → MG → MU → Prop} {r : Nat} {a0 : Int} : Wp E 115 103 ls (.inl a0 :: .inr (.inr (.inl r)) :: st) g μ Q = ((st.length ≤ 4 ∧ ((mKd g r).1 == 6) = true) ∧ Wp E 92 0 [some (.inr (.inr (.inl r))), some (.inl a0)] [] g μ (fun r g' μ' => (g'.1 = g.1 ∧ g'.2.1 = g.2.1) ∧ Wp E 115 106 ls (mPush r st) g' μ' Q)) := Wp_cV k115_103 m6_111 (by decide) (as := [.inr (.inr (.inl r)), .inl a0]) rfl rfl rfl ⟨Nat.le_of_ble_eq_true rfl, by decide⟩
theorem k115_106 : mCode 115 106 = some (.ireturn, 1) := by decide +kernel
theorem x115_106 {E : ME} {ls : MLs} {g : MG} {μ : MU} {Q : Option MV → MG → MU → Prop} {v : Int} : Wp E 115 106 ls [.inl v] g μ Q = Q (some (.inl v)) g μ := Wp_retI k115_106 (by decide)
theorem k115_107 : mCode 115 107 = some (.aload_n 0, 1) := by decide +kernel
theorem x115_107 {E : ME} {ls : MLs} {st : List MV} {g : MG} {μ : MU} {Q : Option MV → MG → MU → Prop} {v : Nat ⊕ Nat} : Wp E 115 107 (some (.inr (.inr v)) :: ls) st g μ Q = Wp E 115 108 (some (.inr (.inr v)) :: ls) (.inr (.inr v) :: st) g μ Q := Wp_nx k115_107 rfl
theorem k115_108 : mCode 115 108 = some (.iload_n 1, 1) := by decide +kernel
theorem x115_108 {E : ME} {ls : MLs} {st : List MV} {g : MG} {μ : MU} {Q : Option MV → MG → MU → Prop} {l0 : Option MV} {v : Int} : Wp E 115 108 (l0 :: some (.inl v) :: ls) st g μ Q = Wp E 115 109 (l0 :: some (.inl v) :: ls) (.inl v :: st) g μ Q := Wp_nx k115_108 rfl
theorem k115_109 : mCode 115 109 = some (.invokevirtual 161, 3) := by decide +kernel
theorem x115_109 {E : ME} {ls : MLs} {st : List MV} {g : MG} {μ : MU} {Q : Option MV → MG → MU → Prop} {r : Nat} {a0 : Int} : Wp E 115 109 ls (.inl a0 :: .inr (.inr (.inl r)) :: st) g μ Q = ((st.length ≤ 4 ∧ ((mKd g r).1 == 6) = true) ∧ Wp E 94 0 [some (.inr (.inr (.inl r))), some (.inl a0)] [] g μ (fun r g' μ' => (g'.1 = g.1 ∧ g'.2.1 = g.2.1) ∧ Wp E 115 112 ls (mPush r st) g' μ' Q)) := Wp_cV k115_109 m6_161 (by decide) (as := [.inr (.inr (.inl r)), .inl a0]) rfl rfl rfl ⟨Nat.le_of_ble_eq_true rfl, by decide⟩
theorem k115_112 : mCode 115 112 = some (.ireturn, 1) := by decide +kernel
theorem x115_112 {E : ME} {ls : MLs} {g : MG} {μ : MU} {Q : Option MV → MG → MU → Prop} {v : Int} : Wp E 115 112 ls [.inl v] g μ Q = Q (some (.inl v)) g μ := Wp_retI k115_112 (by decide)
theorem k115_113 : mCode 115 113 = some (.aload_n 0, 1) := by decide +kernel
theorem x115_113 {E : ME} {ls : MLs} {st : List MV} {g : MG} {μ : MU} {Q : Option MV → MG → MU → Prop} {v : Nat ⊕ Nat} : Wp E 115 113 (some (.inr (.inr v)) :: ls) st g μ Q = Wp E 115 114 (some (.inr (.inr v)) :: ls) (.inr (.inr v) :: st) g μ Q := Wp_nx k115_113 rfl
theorem k115_114 : mCode 115 114 = some (.iload_n 1, 1) := by decide +kernel
theorem x115_114 {E : ME} {ls : MLs} {st : List MV} {g : MG} {μ : MU} {Q : Option MV → MG → MU → Prop} {l0 : Option MV} {v : Int} : Wp E 115 114 (l0 :: some (.inl v) :: ls) st g μ Q = Wp E 115 115 (l0 :: some (.inl v) :: ls) (.inl v :: st) g μ Q := Wp_nx k115_114 rfl
theorem k115_115 : mCode 115 115 = some (.invokevirtual 170, 3) := by decide +kernel
theorem x115_115 {E : ME} {ls : MLs} {st : List MV} {g : MG} {μ : MU} {Q : Option MV → MG → MU → Prop} {r : Nat} {a0 : Int} : Wp E 115 115 ls (.inl a0 :: .inr (.inr (.inl r)) :: st) g μ Q = ((st.length ≤ 4 ∧ ((mKd g r).1 == 6) = true) ∧ Wp E 114 0 [some (.inr (.inr (.inl r))), some (.inl a0)] [] g μ (fun r g' μ' => (g'.1 = g.1 ∧ g'.2.1 = g.2.1) ∧ Wp E 115 118 ls (mPush r st) g' μ' Q)) := Wp_cV k115_115 m6_170 (by decide) (as := [.inr (.inr (.inl r)), .inl a0]) rfl rfl rfl ⟨Nat.le_of_ble_eq_true rfl, by decide⟩
theorem k115_118 : mCode 115 118 = some (.ireturn, 1) := by decide +kernel
theorem x115_118 {E : ME} {ls : MLs} {g : MG} {μ : MU} {Q : Option MV → MG → MU → Prop} {v : Int} : Wp E 115 118 ls [.inl v] g μ Q = Q (some (.inl v)) g μ := Wp_retI k115_118 (by decide)
theorem k115_119 : mCode 115 119 = some (.iload_n 2, 1) := by decide +kernel
theorem x115_119 {E : ME} {ls : MLs} {st : List MV} {g : MG} {μ : MU} {Q : Option MV → MG → MU → Prop} {l0 l1 : Option MV} {v : Int} : Wp E 115 119 (l0 :: l1 :: some (.inl v) :: ls) st g μ Q = Wp E 115 120 (l0 :: l1 :: some (.inl v) :: ls) (.inl v :: st) g μ Q := Wp_nx k115_119 rfl
theorem k115_120 : mCode 115 120 = some (.iconst 0, 1) := by decide +kernel
theorem x115_120 {E : ME} {ls : MLs} {st : List MV} {g : MG} {μ : MU} {Q : Option MV → MG → MU → Prop} : Wp E 115 120 ls st g μ Q = Wp E 115 121 ls (.inl 0 :: st) g μ Q := Wp_nx k115_120 rfl
theorem k115_121 : mCode 115 121 = some (.iconst 3, 1) := by decide +kernel
theorem x115_121 {E : ME} {ls : MLs} {st : List MV} {g : MG} {μ : MU} {Q : Option MV → MG → MU → Prop} : Wp E 115 121 ls st g μ Q = Wp E 115 122 ls (.inl 3 :: st) g μ Q := Wp_nx k115_121 rfl
theorem k115_122 : mCode 115 122 = some (.invokestatic 69, 3) := by decide +kernel
theorem x115_122 {E : ME} {ls : MLs} {st : List MV} {g : MG} {μ : MU} {Q : Option MV → MG → MU → Prop} {a0 : Int} {a1 : Int} {a2 : Int} : Wp E 115 122 ls (.inl a2 :: .inl a1 :: .inl a0 :: st) g μ Q = (st.length ≤ 4 ∧ Wp E 77 0 [some (.inl a0), some (.inl a1), some (.inl a2)] [] g μ (fun r g' μ' => (g'.1 = g.1 ∧ g'.2.1 = g.2.1) ∧ Wp E 115 125 ls (mPush r st) g' μ' Q)) := Wp_cS k115_122 m6_69 (by decide) (as := [.inl a0, .inl a1, .inl a2]) rfl rfl rfl ⟨Nat.le_of_ble_eq_true rfl, by decide⟩
theorem k115_125 : mCode 115 125 = some (.ifCond .eq 12, 3) := by decide +kernel
theorem x115_125 {E : ME} {ls : MLs} {st : List MV} {g : MG} {μ : MU} {Q : Option MV → MG → MU → Prop} {a : Int} : Wp E 115 125 ls (.inl a :: st) g μ Q = ((a = 0 → Wp E 115 137 ls st g μ Q) ∧ (¬ a = 0 → Wp E 115 128 ls st g μ Q)) := Wp_if_eq k115_125 (by decide)
theorem k115_128 : mCode 115 128 = some (.aload_n 0, 1) := by decide +kernel
theorem x115_128 {E : ME} {ls : MLs} {st : List MV} {g : MG} {μ : MU} {Q : Option MV → MG → MU → Prop} {v : Nat ⊕ Nat} : Wp E 115 128 (some (.inr (.inr v)) :: ls) st g μ Q = Wp E 115 129 (some (.inr (.inr v)) :: ls) (.inr (.inr v) :: st) g μ Q := Wp_nx k115_128 rfl
theorem k115_129 : mCode 115 129 = some (.iload_n 1, 1) := by decide +kernel
theorem x115_129 {E : ME} {ls : MLs} {st : List MV} {g : MG} {μ : MU} {Q : Option MV → MG → MU → Prop} {l0 : Option MV} {v : Int} : Wp E 115 129 (l0 :: some (.inl v) :: ls) st g μ Q = Wp E 115 130 (l0 :: some (.inl v) :: ls) (.inl v :: st) g μ Q := Wp_nx k115_129 rfl
theorem k115_130 : mCode 115 130 = some (.iload_n 2, 1) := by decide +kernel
theorem x115_130 {E : ME} {ls : MLs} {st : List MV} {g : MG} {μ : MU} {Q : Option MV → MG → MU → Prop} {l0 l1 : Option MV} {v : Int} : Wp E 115 130 (l0 :: l1 :: some (.inl v) :: ls) st g μ Q = Wp E 115 131 (l0 :: l1 :: some (.inl v) :: ls) (.inl v :: st) g μ Q := Wp_nx k115_130 rfl
theorem k115_131 : mCode 115 131 = some (.invokevirtual 87, 3) := by decide +kernel
theorem x115_131 {E : ME} {ls : MLs} {st : List MV} {g : MG} {μ : MU} {Q : Option MV → MG → MU → Prop} {r : Nat} {a0 : Int} {a1 : Int} : Wp E 115 131 ls (.inl a1 :: .inl a0 :: .inr (.inr (.inl r)) :: st) g μ Q = ((st.length ≤ 4 ∧ ((mKd g r).1 == 6) = true) ∧ Wp E 79 0 [some (.inr (.inr (.inl r))), some (.inl a0), some (.inl a1)] [] g μ (fun r g' μ' => (g'.1 = g.1 ∧ g'.2.1 = g.2.1) ∧ Wp E 115 134 ls (mPush r st) g' μ' Q)) := Wp_cV k115_131 m6_87 (by decide) (as := [.inr (.inr (.inl r)), .inl a0, .inl a1]) rfl rfl rfl ⟨Nat.le_of_ble_eq_true rfl, by decide⟩
theorem k115_134 : mCode 115 134 = some (.goto 5, 3) := by decide +kernel
theorem x115_134 {E : ME} {ls : MLs} {st : List MV} {g : MG} {μ : MU} {Q : Option MV → MG → MU → Prop} : Wp E 115 134 ls st g μ Q = Wp E 115 139 ls st g μ Q := Wp_goto k115_134 (by decide)
theorem k115_137 : mCode 115 137 = some (.bipush (-2), 2) := by decide +kernel
theorem x115_137 {E : ME} {ls : MLs} {st : List MV} {g : MG} {μ : MU} {Q : Option MV → MG → MU → Prop} : Wp E 115 137 ls st g μ Q = Wp E 115 139 ls (.inl (-2) :: st) g μ Q := Wp_nx k115_137 rfl
theorem k115_139 : mCode 115 139 = some (.ireturn, 1) := by decide +kernel
theorem x115_139 {E : ME} {ls : MLs} {g : MG} {μ : MU} {Q : Option MV → MG → MU → Prop} {v : Int} : Wp E 115 139 ls [.inl v] g μ Q = Q (some (.inl v)) g μ := Wp_retI k115_139 (by decide)
theorem k116_0 : mCode 116 0 = some (.aload_n 0, 1) := by decide +kernel
theorem x116_0 {E : ME} {ls : MLs} {st : List MV} {g : MG} {μ : MU} {Q : Option MV → MG → MU → Prop} {v : Nat ⊕ Nat} : Wp E 116 0 (some (.inr (.inr v)) :: ls) st g μ Q = Wp E 116 1 (some (.inr (.inr v)) :: ls) (.inr (.inr v) :: st) g μ Q := Wp_nx k116_0 rfl
theorem k116_1 : mCode 116 1 = some (.iconst 0, 1) := by decide +kernel
theorem x116_1 {E : ME} {ls : MLs} {st : List MV} {g : MG} {μ : MU} {Q : Option MV → MG → MU → Prop} : Wp E 116 1 ls st g μ Q = Wp E 116 2 ls (.inl 0 :: st) g μ Q := Wp_nx k116_1 rfl
theorem k116_2 : mCode 116 2 = some (.putfield 65, 3) := by decide +kernel
theorem x116_2 {E : ME} {ls : MLs} {st : List MV} {g : MG} {μ : MU} {Q : Option MV → MG → MU → Prop} {a : Nat} {v : Int} : Wp E 116 2 ls (.inl v :: .inr (.inr (.inl a)) :: st) g μ Q = ((mKd g a).1 = 6 ∧ Wp E 116 5 ls st g (mUp μ a 0 v) Q) := Wp_putI0 k116_2 f6_65 (by decide) (by decide)
theorem k116_5 : mCode 116 5 = some (.aload_n 0, 1) := by decide +kernel
theorem x116_5 {E : ME} {ls : MLs} {st : List MV} {g : MG} {μ : MU} {Q : Option MV → MG → MU → Prop} {v : Nat ⊕ Nat} : Wp E 116 5 (some (.inr (.inr v)) :: ls) st g μ Q = Wp E 116 6 (some (.inr (.inr v)) :: ls) (.inr (.inr v) :: st) g μ Q := Wp_nx k116_5 rfl
theorem k116_6 : mCode 116 6 = some (.iload_n 1, 1) := by decide +kernel
theorem x116_6 {E : ME} {ls : MLs} {st : List MV} {g : MG} {μ : MU} {Q : Option MV → MG → MU → Prop} {l0 : Option MV} {v : Int} : Wp E 116 6 (l0 :: some (.inl v) :: ls) st g μ Q = Wp E 116 7 (l0 :: some (.inl v) :: ls) (.inl v :: st) g μ Q := Wp_nx k116_6 rfl
theorem k116_7 : mCode 116 7 = some (.invokevirtual 146, 3) := by decide +kernel
theorem x116_7 {E : ME} {ls : MLs} {st : List MV} {g : MG} {μ : MU} {Q : Option MV → MG → MU → Prop} {r : Nat} {a0 : Int} : Wp E 116 7 ls (.inl a0 :: .inr (.inr (.inl r)) :: st) g μ Q = ((st.length ≤ 4 ∧ ((mKd g r).1 == 6) = true) ∧ Wp E 81 0 [some (.inr (.inr (.inl r))), some (.inl a0)] [] g μ (fun r g' μ' => (g'.1 = g.1 ∧ g'.2.1 = g.2.1) ∧ Wp E 116 10 ls (mPush r st) g' μ' Q)) := Wp_cV k116_7 m6_146 (by decide) (as := [.inr (.inr (.inl r)), .inl a0]) rfl rfl rfl ⟨Nat.le_of_ble_eq_true rfl, by decide⟩
theorem k116_10 : mCode 116 10 = some (.ifCond .eq 17, 3) := by decide +kernel
theorem x116_10 {E : ME} {ls : MLs} {st : List MV} {g : MG} {μ : MU} {Q : Option MV → MG → MU → Prop} {a : Int} : Wp E 116 10 ls (.inl a :: st) g μ Q = ((a = 0 → Wp E 116 27 ls st g μ Q) ∧ (¬ a = 0 → Wp E 116 13 ls st g μ Q)) := Wp_if_eq k116_10 (by decide)
theorem k116_13 : mCode 116 13 = some (.aload_n 0, 1) := by decide +kernel
theorem x116_13 {E : ME} {ls : MLs} {st : List MV} {g : MG} {μ : MU} {Q : Option MV → MG → MU → Prop} {v : Nat ⊕ Nat} : Wp E 116 13 (some (.inr (.inr v)) :: ls) st g μ Q = Wp E 116 14 (some (.inr (.inr v)) :: ls) (.inr (.inr v) :: st) g μ Q := Wp_nx k116_13 rfl
theorem k116_14 : mCode 116 14 = some (.aload_n 0, 1) := by decide +kernel
theorem x116_14 {E : ME} {ls : MLs} {st : List MV} {g : MG} {μ : MU} {Q : Option MV → MG → MU → Prop} {v : Nat ⊕ Nat} : Wp E 116 14 (some (.inr (.inr v)) :: ls) st g μ Q = Wp E 116 15 (some (.inr (.inr v)) :: ls) (.inr (.inr v) :: st) g μ Q := Wp_nx k116_14 rfl
theorem k116_15 : mCode 116 15 = some (.iload_n 1, 1) := by decide +kernel
theorem x116_15 {E : ME} {ls : MLs} {st : List MV} {g : MG} {μ : MU} {Q : Option MV → MG → MU → Prop} {l0 : Option MV} {v : Int} : Wp E 116 15 (l0 :: some (.inl v) :: ls) st g μ Q = Wp E 116 16 (l0 :: some (.inl v) :: ls) (.inl v :: st) g μ Q := Wp_nx k116_15 rfl
theorem k116_16 : mCode 116 16 = some (.iconst 0, 1) := by decide +kernel
theorem x116_16 {E : ME} {ls : MLs} {st : List MV} {g : MG} {μ : MU} {Q : Option MV → MG → MU → Prop} : Wp E 116 16 ls st g μ Q = Wp E 116 17 ls (.inl 0 :: st) g μ Q := Wp_nx k116_16 rfl
theorem k116_17 : mCode 116 17 = some (.invokevirtual 87, 3) := by decide +kernel
theorem x116_17 {E : ME} {ls : MLs} {st : List MV} {g : MG} {μ : MU} {Q : Option MV → MG → MU → Prop} {r : Nat} {a0 : Int} {a1 : Int} : Wp E 116 17 ls (.inl a1 :: .inl a0 :: .inr (.inr (.inl r)) :: st) g μ Q = ((st.length ≤ 4 ∧ ((mKd g r).1 == 6) = true) ∧ Wp E 79 0 [some (.inr (.inr (.inl r))), some (.inl a0), some (.inl a1)] [] g μ (fun r g' μ' => (g'.1 = g.1 ∧ g'.2.1 = g.2.1) ∧ Wp E 116 20 ls (mPush r st) g' μ' Q)) := Wp_cV k116_17 m6_87 (by decide) (as := [.inr (.inr (.inl r)), .inl a0, .inl a1]) rfl rfl rfl ⟨Nat.le_of_ble_eq_true rfl, by decide⟩
theorem k116_20 : mCode 116 20 = some (.iload_n 2, 1) := by decide +kernel
theorem x116_20 {E : ME} {ls : MLs} {st : List MV} {g : MG} {μ : MU} {Q : Option MV → MG → MU → Prop} {l0 l1 : Option MV} {v : Int} : Wp E 116 20 (l0 :: l1 :: some (.inl v) :: ls) st g μ Q = Wp E 116 21 (l0 :: l1 :: some (.inl v) :: ls) (.inl v :: st) g μ Q := Wp_nx k116_20 rfl
theorem k116_21 : mCode 116 21 = some (.invokevirtual 152, 3) := by decide +kernel
theorem x116_21 {E : ME} {ls : MLs} {st : List MV} {g : MG} {μ : MU} {Q : Option MV → MG → MU → Prop} {r : Nat} {a0 : Int} {a1 : Int} : Wp E 116 21 ls (.inl a1 :: .inl a0 :: .inr (.inr (.inl r)) :: st) g μ Q = ((st.length ≤ 4 ∧ ((mKd g r).1 == 6) = true) ∧ Wp E 83 0 [some (.inr (.inr (.inl r))), some (.inl a0), some (.inl a1)] [] g μ (fun r g' μ' => (g'.1 = g.1 ∧ g'.2.1 = g.2.1) ∧ Wp E 116 24 ls (mPush r st) g' μ' Q)) := Wp_cV k116_21 m6_152 (by decide) (as := [.inr (.inr (.inl r)), .inl a0, .inl a1]) rfl rfl rfl ⟨Nat.le_of_ble_eq_true rfl, by decide⟩
theorem k116_24 : mCode 116 24 = some (.ifCond .ne 5, 3) := by decide +kernel
theorem x116_24 {E : ME} {ls : MLs} {st : List MV} {g : MG} {μ : MU} {Q : Option MV → MG → MU → Prop} {a : Int} : Wp E 116 24 ls (.inl a :: st) g μ Q = ((¬ a = 0 → Wp E 116 29 ls st g μ Q) ∧ (a = 0 → Wp E 116 27 ls st g μ Q)) := Wp_if_ne k116_24 (by decide)
theorem k116_27 : mCode 116 27 = some (.iconst (-1), 1) := by decide +kernel
theorem x116_27 {E : ME} {ls : MLs} {st : List MV} {g : MG} {μ : MU} {Q : Option MV → MG → MU → Prop} : Wp E 116 27 ls st g μ Q = Wp E 116 28 ls (.inl (-1) :: st) g μ Q := Wp_nx k116_27 rfl
theorem k116_28 : mCode 116 28 = some (.ireturn, 1) := by decide +kernel
theorem x116_28 {E : ME} {ls : MLs} {g : MG} {μ : MU} {Q : Option MV → MG → MU → Prop} {v : Int} : Wp E 116 28 ls [.inl v] g μ Q = Q (some (.inl v)) g μ := Wp_retI k116_28 (by decide)
theorem k116_29 : mCode 116 29 = some (.aload_n 0, 1) := by decide +kernel
theorem x116_29 {E : ME} {ls : MLs} {st : List MV} {g : MG} {μ : MU} {Q : Option MV → MG → MU → Prop} {v : Nat ⊕ Nat} : Wp E 116 29 (some (.inr (.inr v)) :: ls) st g μ Q = Wp E 116 30 (some (.inr (.inr v)) :: ls) (.inr (.inr v) :: st) g μ Q := Wp_nx k116_29 rfl
theorem k116_30 : mCode 116 30 = some (.iconst 0, 1) := by decide +kernel
theorem x116_30 {E : ME} {ls : MLs} {st : List MV} {g : MG} {μ : MU} {Q : Option MV → MG → MU → Prop} : Wp E 116 30 ls st g μ Q = Wp E 116 31 ls (.inl 0 :: st) g μ Q := Wp_nx k116_30 rfl
theorem k116_31 : mCode 116 31 = some (.invokevirtual 164, 3) := by decide +kernel
theorem x116_31 {E : ME} {ls : MLs} {st : List MV} {g : MG} {μ : MU} {Q : Option MV → MG → MU → Prop} {r : Nat} {a0 : Int} : Wp E 116 31 ls (.inl a0 :: .inr (.inr (.inl r)) :: st) g μ Q = ((st.length ≤ 4 ∧ ((mKd g r).1 == 6) = true) ∧ Wp E 89 0 [some (.inr (.inr (.inl r))), some (.inl a0), none, none] [] g μ (fun r g' μ' => (g'.1 = g.1 ∧ g'.2.1 = g.2.1) ∧ Wp E 116 34 ls (mPush r st) g' μ' Q)) := Wp_cV k116_31 m6_164 (by decide) (as := [.inr (.inr (.inl r)), .inl a0]) rfl rfl rfl ⟨Nat.le_of_ble_eq_true rfl, by decide⟩
theorem k116_34 : mCode 116 34 = some (.aload_n 0, 1) := by decide +kernel
theorem x116_34 {E : ME} {ls : MLs} {st : List MV} {g : MG} {μ : MU} {Q : Option MV → MG → MU → Prop} {v : Nat ⊕ Nat} : Wp E 116 34 (some (.inr (.inr v)) :: ls) st g μ Q = Wp E 116 35 (some (.inr (.inr v)) :: ls) (.inr (.inr v) :: st) g μ Q := Wp_nx k116_34 rfl
theorem k116_35 : mCode 116 35 = some (.getfield 38, 3) := by decide +kernel
theorem x116_35 {E : ME} {ls : MLs} {st : List MV} {g : MG} {μ : MU} {Q : Option MV → MG → MU → Prop} {a : Nat} : Wp E 116 35 ls (.inr (.inr (.inl a)) :: st) g μ Q = ((mKd g a).1 = 6 ∧ Wp E 116 38 ls (mRv (mRf g a 12) :: st) g μ Q) := Wp_getR k116_35 f6_38 (by decide) (by decide)
theorem k116_38 : mCode 116 38 = some (.bipush 6, 2) := by decide +kernel
theorem x116_38 {E : ME} {ls : MLs} {st : List MV} {g : MG} {μ : MU} {Q : Option MV → MG → MU → Prop} : Wp E 116 38 ls st g μ Q = Wp E 116 40 ls (.inl 6 :: st) g μ Q := Wp_nx k116_38 rfl
theorem k116_40 : mCode 116 40 = some (.iload_n 1, 1) := by decide +kernel
theorem x116_40 {E : ME} {ls : MLs} {st : List MV} {g : MG} {μ : MU} {Q : Option MV → MG → MU → Prop} {l0 : Option MV} {v : Int} : Wp E 116 40 (l0 :: some (.inl v) :: ls) st g μ Q = Wp E 116 41 (l0 :: some (.inl v) :: ls) (.inl v :: st) g μ Q := Wp_nx k116_40 rfl
theorem k116_41 : mCode 116 41 = some (.imul, 1) := by decide +kernel
theorem x116_41 {E : ME} {ls : MLs} {st : List MV} {g : MG} {μ : MU} {Q : Option MV → MG → MU → Prop} {a b : Int} : Wp E 116 41 ls (.inl b :: .inl a :: st) g μ Q = Wp E 116 42 ls (.inl (mWr (a * b)) :: st) g μ Q := Wp_nx k116_41 rfl
theorem k116_42 : mCode 116 42 = some (.iload_n 2, 1) := by decide +kernel
theorem x116_42 {E : ME} {ls : MLs} {st : List MV} {g : MG} {μ : MU} {Q : Option MV → MG → MU → Prop} {l0 l1 : Option MV} {v : Int} : Wp E 116 42 (l0 :: l1 :: some (.inl v) :: ls) st g μ Q = Wp E 116 43 (l0 :: l1 :: some (.inl v) :: ls) (.inl v :: st) g μ Q := Wp_nx k116_42 rfl
theorem k116_43 : mCode 116 43 = some (.iadd, 1) := by decide +kernel
theorem x116_43 {E : ME} {ls : MLs} {st : List MV} {g : MG} {μ : MU} {Q : Option MV → MG → MU → Prop} {a b : Int} : Wp E 116 43 ls (.inl b :: .inl a :: st) g μ Q = Wp E 116 44 ls (.inl (mWr (a + b)) :: st) g μ Q := Wp_nx k116_43 rfl
theorem k116_44 : mCode 116 44 = some (.iaload, 1) := by decide +kernel
theorem x116_44 {E : ME} {ls : MLs} {st : List MV} {g : MG} {μ : MU} {Q : Option MV → MG → MU → Prop} {a : Nat} {j : Int} : Wp E 116 44 ls (.inl j :: .inr (.inr (.inl a)) :: st) g μ Q = (((mKd g a).1 = 10 ∧ 0 ≤ j ∧ j < (mKd g a).2) ∧ Wp E 116 45 ls (.inl (μ a j.toNat) :: st) g μ Q) := Wp_ald k116_44 (fun _ => rfl)
theorem k116_45 : mCode 116 45 = some (.ireturn, 1) := by decide +kernel
theorem x116_45 {E : ME} {ls : MLs} {g : MG} {μ : MU} {Q : Option MV → MG → MU → Prop} {v : Int} : Wp E 116 45 ls [.inl v] g μ Q = Q (some (.inl v)) g μ := Wp_retI k116_45 (by decide)
theorem k117_0 : mCode 117 0 = some (.aload_n 0, 1) := by decide +kernel
theorem x117_0 {E : ME} {ls : MLs} {st : List MV} {g : MG} {μ : MU} {Q : Option MV → MG → MU → Prop} {v : Nat ⊕ Nat} : Wp E 117 0 (some (.inr (.inr v)) :: ls) st g μ Q = Wp E 117 1 (some (.inr (.inr v)) :: ls) (.inr (.inr v) :: st) g μ Q := Wp_nx k117_0 rfl
theorem k117_1 : mCode 117 1 = some (.iload_n 1, 1) := by decide +kernel
theorem x117_1 {E : ME} {ls : MLs} {st : List MV} {g : MG} {μ : MU} {Q : Option MV → MG → MU → Prop} {l0 : Option MV} {v : Int} : Wp E 117 1 (l0 :: some (.inl v) :: ls) st g μ Q = Wp E 117 2 (l0 :: some (.inl v) :: ls) (.inl v :: st) g μ Q := Wp_nx k117_1 rfl
theorem k117_2 : mCode 117 2 = some (.iconst 1, 1) := by decide +kernel
theorem x117_2 {E : ME} {ls : MLs} {st : List MV} {g : MG} {μ : MU} {Q : Option MV → MG → MU → Prop} : Wp E 117 2 ls st g μ Q = Wp E 117 3 ls (.inl 1 :: st) g μ Q := Wp_nx k117_2 rfl
theorem k117_3 : mCode 117 3 = some (.invokevirtual 77, 3) := by decide +kernel
theorem x117_3 {E : ME} {ls : MLs} {st : List MV} {g : MG} {μ : MU} {Q : Option MV → MG → MU → Prop} {r : Nat} {a0 : Int} {a1 : Int} : Wp E 117 3 ls (.inl a1 :: .inl a0 :: .inr (.inr (.inl r)) :: st) g μ Q = ((st.length ≤ 4 ∧ ((mKd g r).1 == 6) = true) ∧ Wp E 78 0 [some (.inr (.inr (.inl r))), some (.inl a0), some (.inl a1)] [] g μ (fun r g' μ' => (g'.1 = g.1 ∧ g'.2.1 = g.2.1) ∧ Wp E 117 6 ls (mPush r st) g' μ' Q)) := Wp_cV k117_3 m6_77 (by decide) (as := [.inr (.inr (.inl r)), .inl a0, .inl a1]) rfl rfl rfl ⟨Nat.le_of_ble_eq_true rfl, by decide⟩
theorem k117_6 : mCode 117 6 = some (.istore 4, 2) := by decide +kernel
theorem x117_6 {E : ME} {ls : MLs} {st : List MV} {g : MG} {μ : MU} {Q : Option MV → MG → MU → Prop} {l0 l1 l2 l3 : Option MV} {lk : Option MV} {v : Int} : Wp E 117 6 (l0 :: l1 :: l2 :: l3 :: lk :: ls) (.inl v :: st) g μ Q = ((mNl (some l3) = true ∧ mNl (some lk) = true) ∧ Wp E 117 8 (l0 :: l1 :: l2 :: l3 :: some (.inl v) :: ls) st g μ Q) := Wp_sti k117_6 (fun _ => rfl) rfl rfl rfl
theorem k117_8 : mCode 117 8 = some (.iconst 0, 1) := by decide +kernel
theorem x117_8 {E : ME} {ls : MLs} {st : List MV} {g : MG} {μ : MU} {Q : Option MV → MG → MU → Prop} : Wp E 117 8 ls st g μ Q = Wp E 117 9 ls (.inl 0 :: st) g μ Q := Wp_nx k117_8 rfl
theorem k117_9 : mCode 117 9 = some (.istore 5, 2) := by decide +kernel
theorem x117_9 {E : ME} {ls : MLs} {st : List MV} {g : MG} {μ : MU} {Q : Option MV → MG → MU → Prop} {l0 l1 l2 l3 l4 : Option MV} {lk : Option MV} {v : Int} : Wp E 117 9 (l0 :: l1 :: l2 :: l3 :: l4 :: lk :: ls) (.inl v :: st) g μ Q = ((mNl (some l4) = true ∧ mNl (some lk) = true) ∧ Wp E 117 11 (l0 :: l1 :: l2 :: l3 :: l4 :: some (.inl v) :: ls) st g μ Q) := Wp_sti k117_9 (fun _ => rfl) rfl rfl rfl
theorem k117_11 : mCode 117 11 = some (.iconst 0, 1) := by decide +kernel
theorem x117_11 {E : ME} {ls : MLs} {st : List MV} {g : MG} {μ : MU} {Q : Option MV → MG → MU → Prop} : Wp E 117 11 ls st g μ Q = Wp E 117 12 ls (.inl 0 :: st) g μ Q := Wp_nx k117_11 rfl
theorem k117_12 : mCode 117 12 = some (.istore 6, 2) := by decide +kernel
theorem x117_12 {E : ME} {ls : MLs} {st : List MV} {g : MG} {μ : MU} {Q : Option MV → MG → MU → Prop} {l0 l1 l2 l3 l4 l5 : Option MV} {lk : Option MV} {v : Int} : Wp E 117 12 (l0 :: l1 :: l2 :: l3 :: l4 :: l5 :: lk :: ls) (.inl v :: st) g μ Q = ((mNl (some l5) = true ∧ mNl (some lk) = true) ∧ Wp E 117 14 (l0 :: l1 :: l2 :: l3 :: l4 :: l5 :: some (.inl v) :: ls) st g μ Q) := Wp_sti k117_12 (fun _ => rfl) rfl rfl rfl
theorem k117_14 : mCode 117 14 = some (.iload 6, 2) := by decide +kernel
theorem x117_14 {E : ME} {ls : MLs} {st : List MV} {g : MG} {μ : MU} {Q : Option MV → MG → MU → Prop} {l0 l1 l2 l3 l4 l5 : Option MV} {v : Int} : Wp E 117 14 (l0 :: l1 :: l2 :: l3 :: l4 :: l5 :: some (.inl v) :: ls) st g μ Q = Wp E 117 16 (l0 :: l1 :: l2 :: l3 :: l4 :: l5 :: some (.inl v) :: ls) (.inl v :: st) g μ Q := Wp_nx k117_14 rfl
theorem k117_16 : mCode 117 16 = some (.aload_n 0, 1) := by decide +kernel
theorem x117_16 {E : ME} {ls : MLs} {st : List MV} {g : MG} {μ : MU} {Q : Option MV → MG → MU → Prop} {v : Nat ⊕ Nat} : Wp E 117 16 (some (.inr (.inr v)) :: ls) st g μ Q = Wp E 117 17 (some (.inr (.inr v)) :: ls) (.inr (.inr v) :: st) g μ Q := Wp_nx k117_16 rfl
theorem k117_17 : mCode 117 17 = some (.getfield 7, 3) := by decide +kernel
theorem x117_17 {E : ME} {ls : MLs} {st : List MV} {g : MG} {μ : MU} {Q : Option MV → MG → MU → Prop} {a : Nat} : Wp E 117 17 ls (.inr (.inr (.inl a)) :: st) g μ Q = ((mKd g a).1 = 6 ∧ Wp E 117 20 ls (mRv (mRf g a 1) :: st) g μ Q) := Wp_getR k117_17 f6_7 (by decide) (by decide)
theorem k117_20 : mCode 117 20 = some (.bipush 6, 2) := by decide +kernel
theorem x117_20 {E : ME} {ls : MLs} {st : List MV} {g : MG} {μ : MU} {Q : Option MV → MG → MU → Prop} : Wp E 117 20 ls st g μ Q = Wp E 117 22 ls (.inl 6 :: st) g μ Q := Wp_nx k117_20 rfl
theorem k117_22 : mCode 117 22 = some (.iaload, 1) := by decide +kernel
theorem x117_22 {E : ME} {ls : MLs} {st : List MV} {g : MG} {μ : MU} {Q : Option MV → MG → MU → Prop} {a : Nat} {j : Int} : Wp E 117 22 ls (.inl j :: .inr (.inr (.inl a)) :: st) g μ Q = (((mKd g a).1 = 10 ∧ 0 ≤ j ∧ j < (mKd g a).2) ∧ Wp E 117 23 ls (.inl (μ a j.toNat) :: st) g μ Q) := Wp_ald k117_22 (fun _ => rfl)
theorem k117_23 : mCode 117 23 = some (.if_icmp .ge 123, 3) := by decide +kernel
theorem x117_23 {E : ME} {ls : MLs} {st : List MV} {g : MG} {μ : MU} {Q : Option MV → MG → MU → Prop} {a b : Int} : Wp E 117 23 ls (.inl b :: .inl a :: st) g μ Q = ((b ≤ a → Wp E 117 146 ls st g μ Q) ∧ (a < b → Wp E 117 26 ls st g μ Q)) := Wp_cmp_ge k117_23 (by decide)
theorem k117_26 : mCode 117 26 = some (.aload_n 0, 1) := by decide +kernel
theorem x117_26 {E : ME} {ls : MLs} {st : List MV} {g : MG} {μ : MU} {Q : Option MV → MG → MU → Prop} {v : Nat ⊕ Nat} : Wp E 117 26 (some (.inr (.inr v)) :: ls) st g μ Q = Wp E 117 27 (some (.inr (.inr v)) :: ls) (.inr (.inr v) :: st) g μ Q := Wp_nx k117_26 rfl
theorem k117_27 : mCode 117 27 = some (.getfield 26, 3) := by decide +kernel
theorem x117_27 {E : ME} {ls : MLs} {st : List MV} {g : MG} {μ : MU} {Q : Option MV → MG → MU → Prop} {a : Nat} : Wp E 117 27 ls (.inr (.inr (.inl a)) :: st) g μ Q = ((mKd g a).1 = 6 ∧ Wp E 117 30 ls (mRv (mRf g a 8) :: st) g μ Q) := Wp_getR k117_27 f6_26 (by decide) (by decide)
theorem k117_30 : mCode 117 30 = some (.iload 6, 2) := by decide +kernel
theorem x117_30 {E : ME} {ls : MLs} {st : List MV} {g : MG} {μ : MU} {Q : Option MV → MG → MU → Prop} {l0 l1 l2 l3 l4 l5 : Option MV} {v : Int} : Wp E 117 30 (l0 :: l1 :: l2 :: l3 :: l4 :: l5 :: some (.inl v) :: ls) st g μ Q = Wp E 117 32 (l0 :: l1 :: l2 :: l3 :: l4 :: l5 :: some (.inl v) :: ls) (.inl v :: st) g μ Q := Wp_nx k117_30 rfl
theorem k117_32 : mCode 117 32 = some (.iaload, 1) := by decide +kernel
theorem x117_32 {E : ME} {ls : MLs} {st : List MV} {g : MG} {μ : MU} {Q : Option MV → MG → MU → Prop} {a : Nat} {j : Int} : Wp E 117 32 ls (.inl j :: .inr (.inr (.inl a)) :: st) g μ Q = (((mKd g a).1 = 10 ∧ 0 ≤ j ∧ j < (mKd g a).2) ∧ Wp E 117 33 ls (.inl (μ a j.toNat) :: st) g μ Q) := Wp_ald k117_32 (fun _ => rfl)
theorem k117_33 : mCode 117 33 = some (.istore 7, 2) := by decide +kernel
theorem x117_33 {E : ME} {ls : MLs} {st : List MV} {g : MG} {μ : MU} {Q : Option MV → MG → MU → Prop} {l0 l1 l2 l3 l4 l5 l6 : Option MV} {lk : Option MV} {v : Int} : Wp E 117 33 (l0 :: l1 :: l2 :: l3 :: l4 :: l5 :: l6 :: lk :: ls) (.inl v :: st) g μ Q = ((mNl (some l6) = true ∧ mNl (some lk) = true) ∧ Wp E 117 35 (l0 :: l1 :: l2 :: l3 :: l4 :: l5 :: l6 :: some (.inl v) :: ls) st g μ Q) := Wp_sti k117_33 (fun _ => rfl) rfl rfl rfl
theorem k117_35 : mCode 117 35 = some (.aload_n 0, 1) := by decide +kernel
theorem x117_35 {E : ME} {ls : MLs} {st : List MV} {g : MG} {μ : MU} {Q : Option MV → MG → MU → Prop} {v : Nat ⊕ Nat} : Wp E 117 35 (some (.inr (.inr v)) :: ls) st g μ Q = Wp E 117 36 (some (.inr (.inr v)) :: ls) (.inr (.inr v) :: st) g μ Q := Wp_nx k117_35 rfl
theorem k117_36 : mCode 117 36 = some (.iload 7, 2) := by decide +kernel
theorem x117_36 {E : ME} {ls : MLs} {st : List MV} {g : MG} {μ : MU} {Q : Option MV → MG → MU → Prop} {l0 l1 l2 l3 l4 l5 l6 : Option MV} {v : Int} : Wp E 117 36 (l0 :: l1 :: l2 :: l3 :: l4 :: l5 :: l6 :: some (.inl v) :: ls) st g μ Q = Wp E 117 38 (l0 :: l1 :: l2 :: l3 :: l4 :: l5 :: l6 :: some (.inl v) :: ls) (.inl v :: st) g μ Q := Wp_nx k117_36 rfl
theorem k117_38 : mCode 117 38 = some (.iconst 0, 1) := by decide +kernel
theorem x117_38 {E : ME} {ls : MLs} {st : List MV} {g : MG} {μ : MU} {Q : Option MV → MG → MU → Prop} : Wp E 117 38 ls st g μ Q = Wp E 117 39 ls (.inl 0 :: st) g μ Q := Wp_nx k117_38 rfl
theorem k117_39 : mCode 117 39 = some (.invokevirtual 87, 3) := by decide +kernel
theorem x117_39 {E : ME} {ls : MLs} {st : List MV} {g : MG} {μ : MU} {Q : Option MV → MG → MU → Prop} {r : Nat} {a0 : Int} {a1 : Int} : Wp E 117 39 ls (.inl a1 :: .inl a0 :: .inr (.inr (.inl r)) :: st) g μ Q = ((st.length ≤ 4 ∧ ((mKd g r).1 == 6) = true) ∧ Wp E 79 0 [some (.inr (.inr (.inl r))), some (.inl a0), some (.inl a1)] [] g μ (fun r g' μ' => (g'.1 = g.1 ∧ g'.2.1 = g.2.1) ∧ Wp E 117 42 ls (mPush r st) g' μ' Q)) := Wp_cV k117_39 m6_87 (by decide) (as := [.inr (.inr (.inl r)), .inl a0, .inl a1]) rfl rfl rfl ⟨Nat.le_of_ble_eq_true rfl, by decide⟩
theorem k117_42 : mCode 117 42 = some (.iload_n 1, 1) := by decide +kernel
theorem x117_42 {E : ME} {ls : MLs} {st : List MV} {g : MG} {μ : MU} {Q : Option MV → MG → MU → Prop} {l0 : Option MV} {v : Int} : Wp E 117 42 (l0 :: some (.inl v) :: ls) st g μ Q = Wp E 117 43 (l0 :: some (.inl v) :: ls) (.inl v :: st) g μ Q := Wp_nx k117_42 rfl
theorem k117_43 : mCode 117 43 = some (.if_icmp .ne 97, 3) := by decide +kernel
theorem x117_43 {E : ME} {ls : MLs} {st : List MV} {g : MG} {μ : MU} {Q : Option MV → MG → MU → Prop} {a b : Int} : Wp E 117 43 ls (.inl b :: .inl a :: st) g μ Q = ((¬ a = b → Wp E 117 140 ls st g μ Q) ∧ (a = b → Wp E 117 46 ls st g μ Q)) := Wp_cmp_ne k117_43 (by decide)
theorem k117_46 : mCode 117 46 = some (.aload_n 0, 1) := by decide +kernel
theorem x117_46 {E : ME} {ls : MLs} {st : List MV} {g : MG} {μ : MU} {Q : Option MV → MG → MU → Prop} {v : Nat ⊕ Nat} : Wp E 117 46 (some (.inr (.inr v)) :: ls) st g μ Q = Wp E 117 47 (some (.inr (.inr v)) :: ls) (.inr (.inr v) :: st) g μ Q := Wp_nx k117_46 rfl
theorem k117_47 : mCode 117 47 = some (.getfield 38, 3) := by decide +kernel
theorem x117_47 {E : ME} {ls : MLs} {st : List MV} {g : MG} {μ : MU} {Q : Option MV → MG → MU → Prop} {a : Nat} : Wp E 117 47 ls (.inr (.inr (.inl a)) :: st) g μ Q = ((mKd g a).1 = 6 ∧ Wp E 117 50 ls (mRv (mRf g a 12) :: st) g μ Q) := Wp_getR k117_47 f6_38 (by decide) (by decide)
theorem k117_50 : mCode 117 50 = some (.bipush 6, 2) := by decide +kernel
theorem x117_50 {E : ME} {ls : MLs} {st : List MV} {g : MG} {μ : MU} {Q : Option MV → MG → MU → Prop} : Wp E 117 50 ls st g μ Q = Wp E 117 52 ls (.inl 6 :: st) g μ Q := Wp_nx k117_50 rfl
theorem k117_52 : mCode 117 52 = some (.iload 7, 2) := by decide +kernel
theorem x117_52 {E : ME} {ls : MLs} {st : List MV} {g : MG} {μ : MU} {Q : Option MV → MG → MU → Prop} {l0 l1 l2 l3 l4 l5 l6 : Option MV} {v : Int} : Wp E 117 52 (l0 :: l1 :: l2 :: l3 :: l4 :: l5 :: l6 :: some (.inl v) :: ls) st g μ Q = Wp E 117 54 (l0 :: l1 :: l2 :: l3 :: l4 :: l5 :: l6 :: some (.inl v) :: ls) (.inl v :: st) g μ Q := Wp_nx k117_52 rfl
theorem k117_54 : mCode 117 54 = some (.imul, 1) := by decide +kernel
theorem x117_54 {E : ME} {ls : MLs} {st : List MV} {g : MG} {μ : MU} {Q : Option MV → MG → MU → Prop} {a b : Int} : Wp E 117 54 ls (.inl b :: .inl a :: st) g μ Q = Wp E 117 55 ls (.inl (mWr (a * b)) :: st) g μ Q := Wp_nx k117_54 rfl
theorem k117_55 : mCode 117 55 = some (.iload_n 2, 1) := by decide +kernel
theorem x117_55 {E : ME} {ls : MLs} {st : List MV} {g : MG} {μ : MU} {Q : Option MV → MG → MU → Prop} {l0 l1 : Option MV} {v : Int} : Wp E 117 55 (l0 :: l1 :: some (.inl v) :: ls) st g μ Q = Wp E 117 56 (l0 :: l1 :: some (.inl v) :: ls) (.inl v :: st) g μ Q := Wp_nx k117_55 rfl
theorem k117_56 : mCode 117 56 = some (.iadd, 1) := by decide +kernel
theorem x117_56 {E : ME} {ls : MLs} {st : List MV} {g : MG} {μ : MU} {Q : Option MV → MG → MU → Prop} {a b : Int} : Wp E 117 56 ls (.inl b :: .inl a :: st) g μ Q = Wp E 117 57 ls (.inl (mWr (a + b)) :: st) g μ Q := Wp_nx k117_56 rfl
theorem k117_57 : mCode 117 57 = some (.iaload, 1) := by decide +kernel
theorem x117_57 {E : ME} {ls : MLs} {st : List MV} {g : MG} {μ : MU} {Q : Option MV → MG → MU → Prop} {a : Nat} {j : Int} : Wp E 117 57 ls (.inl j :: .inr (.inr (.inl a)) :: st) g μ Q = (((mKd g a).1 = 10 ∧ 0 ≤ j ∧ j < (mKd g a).2) ∧ Wp E 117 58 ls (.inl (μ a j.toNat) :: st) g μ Q) := Wp_ald k117_57 (fun _ => rfl)
theorem k117_58 : mCode 117 58 = some (.bipush (-6), 2) := by decide +kernel
theorem x117_58 {E : ME} {ls : MLs} {st : List MV} {g : MG} {μ : MU} {Q : Option MV → MG → MU → Prop} : Wp E 117 58 ls st g μ Q = Wp E 117 60 ls (.inl (-6) :: st) g μ Q := Wp_nx k117_58 rfl
theorem k117_60 : mCode 117 60 = some (.if_icmp .eq 80, 3) := by decide +kernel
theorem x117_60 {E : ME} {ls : MLs} {st : List MV} {g : MG} {μ : MU} {Q : Option MV → MG → MU → Prop} {a b : Int} : Wp E 117 60 ls (.inl b :: .inl a :: st) g μ Q = ((a = b → Wp E 117 140 ls st g μ Q) ∧ (¬ a = b → Wp E 117 63 ls st g μ Q)) := Wp_cmp_eq k117_60 (by decide)
theorem k117_63 : mCode 117 63 = some (.aload_n 0, 1) := by decide +kernel
theorem x117_63 {E : ME} {ls : MLs} {st : List MV} {g : MG} {μ : MU} {Q : Option MV → MG → MU → Prop} {v : Nat ⊕ Nat} : Wp E 117 63 (some (.inr (.inr v)) :: ls) st g μ Q = Wp E 117 64 (some (.inr (.inr v)) :: ls) (.inr (.inr v) :: st) g μ Q := Wp_nx k117_63 rfl
theorem k117_64 : mCode 117 64 = some (.iload 7, 2) := by decide +kernel
theorem x117_64 {E : ME} {ls : MLs} {st : List MV} {g : MG} {μ : MU} {Q : Option MV → MG → MU → Prop} {l0 l1 l2 l3 l4 l5 l6 : Option MV} {v : Int} : Wp E 117 64 (l0 :: l1 :: l2 :: l3 :: l4 :: l5 :: l6 :: some (.inl v) :: ls) st g μ Q = Wp E 117 66 (l0 :: l1 :: l2 :: l3 :: l4 :: l5 :: l6 :: some (.inl v) :: ls) (.inl v :: st) g μ Q := Wp_nx k117_64 rfl
theorem k117_66 : mCode 117 66 = some (.iconst 1, 1) := by decide +kernel
theorem x117_66 {E : ME} {ls : MLs} {st : List MV} {g : MG} {μ : MU} {Q : Option MV → MG → MU → Prop} : Wp E 117 66 ls st g μ Q = Wp E 117 67 ls (.inl 1 :: st) g μ Q := Wp_nx k117_66 rfl
theorem k117_67 : mCode 117 67 = some (.invokevirtual 87, 3) := by decide +kernel
theorem x117_67 {E : ME} {ls : MLs} {st : List MV} {g : MG} {μ : MU} {Q : Option MV → MG → MU → Prop} {r : Nat} {a0 : Int} {a1 : Int} : Wp E 117 67 ls (.inl a1 :: .inl a0 :: .inr (.inr (.inl r)) :: st) g μ Q = ((st.length ≤ 4 ∧ ((mKd g r).1 == 6) = true) ∧ Wp E 79 0 [some (.inr (.inr (.inl r))), some (.inl a0), some (.inl a1)] [] g μ (fun r g' μ' => (g'.1 = g.1 ∧ g'.2.1 = g.2.1) ∧ Wp E 117 70 ls (mPush r st) g' μ' Q)) := Wp_cV k117_67 m6_87 (by decide) (as := [.inr (.inr (.inl r)), .inl a0, .inl a1]) rfl rfl rfl ⟨Nat.le_of_ble_eq_true rfl, by decide⟩
theorem k117_70 : mCode 117 70 = some (.istore 8, 2) := by decide +kernel
theorem x117_70 {E : ME} {ls : MLs} {st : List MV} {g : MG} {μ : MU} {Q : Option MV → MG → MU → Prop} {l0 l1 l2 l3 l4 l5 l6 l7 : Option MV} {lk : Option MV} {v : Int} : Wp E 117 70 (l0 :: l1 :: l2 :: l3 :: l4 :: l5 :: l6 :: l7 :: lk :: ls) (.inl v :: st) g μ Q = ((mNl (some l7) = true ∧ mNl (some lk) = true) ∧ Wp E 117 72 (l0 :: l1 :: l2 :: l3 :: l4 :: l5 :: l6 :: l7 :: some (.inl v) :: ls) st g μ Q) := Wp_sti k117_70 (fun _ => rfl) rfl rfl rfl
theorem k117_72 : mCode 117 72 = some (.iload_n 3, 1) := by decide +kernel
theorem x117_72 {E : ME} {ls : MLs} {st : List MV} {g : MG} {μ : MU} {Q : Option MV → MG → MU → Prop} {l0 l1 l2 : Option MV} {v : Int} : Wp E 117 72 (l0 :: l1 :: l2 :: some (.inl v) :: ls) st g μ Q = Wp E 117 73 (l0 :: l1 :: l2 :: some (.inl v) :: ls) (.inl v :: st) g μ Q := Wp_nx k117_72 rfl
theorem k117_73 : mCode 117 73 = some (.iload 5, 2) := by decide +kernel
theorem x117_73 {E : ME} {ls : MLs} {st : List MV} {g : MG} {μ : MU} {Q : Option MV → MG → MU → Prop} {l0 l1 l2 l3 l4 : Option MV} {v : Int} : Wp E 117 73 (l0 :: l1 :: l2 :: l3 :: l4 :: some (.inl v) :: ls) st g μ Q = Wp E 117 75 (l0 :: l1 :: l2 :: l3 :: l4 :: some (.inl v) :: ls) (.inl v :: st) g μ Q := Wp_nx k117_73 rfl
theorem k117_75 : mCode 117 75 = some (.if_icmp .lt 26, 3) := by decide +kernel
theorem x117_75 {E : ME} {ls : MLs} {st : List MV} {g : MG} {μ : MU} {Q : Option MV → MG → MU → Prop} {a b : Int} : Wp E 117 75 ls (.inl b :: .inl a :: st) g μ Q = ((a < b → Wp E 117 101 ls st g μ Q) ∧ (b ≤ a → Wp E 117 78 ls st g μ Q)) := Wp_cmp_lt k117_75 (by decide)
theorem k117_78 : mCode 117 78 = some (.iload 8, 2) := by decide +kernel
theorem x117_78 {E : ME} {ls : MLs} {st : List MV} {g : MG} {μ : MU} {Q : Option MV → MG → MU → Prop} {l0 l1 l2 l3 l4 l5 l6 l7 : Option MV} {v : Int} : Wp E 117 78 (l0 :: l1 :: l2 :: l3 :: l4 :: l5 :: l6 :: l7 :: some (.inl v) :: ls) st g μ Q = Wp E 117 80 (l0 :: l1 :: l2 :: l3 :: l4 :: l5 :: l6 :: l7 :: some (.inl v) :: ls) (.inl v :: st) g μ Q := Wp_nx k117_78 rfl
theorem k117_80 : mCode 117 80 = some (.iload 4, 2) := by decide +kernel
theorem x117_80 {E : ME} {ls : MLs} {st : List MV} {g : MG} {μ : MU} {Q : Option MV → MG → MU → Prop} {l0 l1 l2 l3 : Option MV} {v : Int} : Wp E 117 80 (l0 :: l1 :: l2 :: l3 :: some (.inl v) :: ls) st g μ Q = Wp E 117 82 (l0 :: l1 :: l2 :: l3 :: some (.inl v) :: ls) (.inl v :: st) g μ Q := Wp_nx k117_80 rfl
theorem k117_82 : mCode 117 82 = some (.if_icmp .ne 22, 3) := by decide +kernel
theorem x117_82 {E : ME} {ls : MLs} {st : List MV} {g : MG} {μ : MU} {Q : Option MV → MG → MU → Prop} {a b : Int} : Wp E 117 82 ls (.inl b :: .inl a :: st) g μ Q = ((¬ a = b → Wp E 117 104 ls st g μ Q) ∧ (a = b → Wp E 117 85 ls st g μ Q)) := Wp_cmp_ne k117_82 (by decide)
theorem k117_85 : mCode 117 85 = some (.iload_n 3, 1) := by decide +kernel
theorem x117_85 {E : ME} {ls : MLs} {st : List MV} {g : MG} {μ : MU} {Q : Option MV → MG → MU → Prop} {l0 l1 l2 : Option MV} {v : Int} : Wp E 117 85 (l0 :: l1 :: l2 :: some (.inl v) :: ls) st g μ Q = Wp E 117 86 (l0 :: l1 :: l2 :: some (.inl v) :: ls) (.inl v :: st) g μ Q := Wp_nx k117_85 rfl
theorem k117_86 : mCode 117 86 = some (.aload_n 0, 1) := by decide +kernel
theorem x117_86 {E : ME} {ls : MLs} {st : List MV} {g : MG} {μ : MU} {Q : Option MV → MG → MU → Prop} {v : Nat ⊕ Nat} : Wp E 117 86 (some (.inr (.inr v)) :: ls) st g μ Q = Wp E 117 87 (some (.inr (.inr v)) :: ls) (.inr (.inr v) :: st) g μ Q := Wp_nx k117_86 rfl
theorem k117_87 : mCode 117 87 = some (.getfield 41, 3) := by decide +kernel
theorem x117_87 {E : ME} {ls : MLs} {st : List MV} {g : MG} {μ : MU} {Q : Option MV → MG → MU → Prop} {a : Nat} : Wp E 117 87 ls (.inr (.inr (.inl a)) :: st) g μ Q = ((mKd g a).1 = 6 ∧ Wp E 117 90 ls (mRv (mRf g a 13) :: st) g μ Q) := Wp_getR k117_87 f6_41 (by decide) (by decide)
theorem k117_90 : mCode 117 90 = some (.bipush 6, 2) := by decide +kernel
theorem x117_90 {E : ME} {ls : MLs} {st : List MV} {g : MG} {μ : MU} {Q : Option MV → MG → MU → Prop} : Wp E 117 90 ls st g μ Q = Wp E 117 92 ls (.inl 6 :: st) g μ Q := Wp_nx k117_90 rfl
theorem k117_92 : mCode 117 92 = some (.iload 7, 2) := by decide +kernel
theorem x117_92 {E : ME} {ls : MLs} {st : List MV} {g : MG} {μ : MU} {Q : Option MV → MG → MU → Prop} {l0 l1 l2 l3 l4 l5 l6 : Option MV} {v : Int} : Wp E 117 92 (l0 :: l1 :: l2 :: l3 :: l4 :: l5 :: l6 :: some (.inl v) :: ls) st g μ Q = Wp E 117 94 (l0 :: l1 :: l2 :: l3 :: l4 :: l5 :: l6 :: some (.inl v) :: ls) (.inl v :: st) g μ Q := Wp_nx k117_92 rfl
theorem k117_94 : mCode 117 94 = some (.imul, 1) := by decide +kernel
theorem x117_94 {E : ME} {ls : MLs} {st : List MV} {g : MG} {μ : MU} {Q : Option MV → MG → MU → Prop} {a b : Int} : Wp E 117 94 ls (.inl b :: .inl a :: st) g μ Q = Wp E 117 95 ls (.inl (mWr (a * b)) :: st) g μ Q := Wp_nx k117_94 rfl
theorem k117_95 : mCode 117 95 = some (.iload_n 2, 1) := by decide +kernel
theorem x117_95 {E : ME} {ls : MLs} {st : List MV} {g : MG} {μ : MU} {Q : Option MV → MG → MU → Prop} {l0 l1 : Option MV} {v : Int} : Wp E 117 95 (l0 :: l1 :: some (.inl v) :: ls) st g μ Q = Wp E 117 96 (l0 :: l1 :: some (.inl v) :: ls) (.inl v :: st) g μ Q := Wp_nx k117_95 rfl
theorem k117_96 : mCode 117 96 = some (.iadd, 1) := by decide +kernel
theorem x117_96 {E : ME} {ls : MLs} {st : List MV} {g : MG} {μ : MU} {Q : Option MV → MG → MU → Prop} {a b : Int} : Wp E 117 96 ls (.inl b :: .inl a :: st) g μ Q = Wp E 117 97 ls (.inl (mWr (a + b)) :: st) g μ Q := Wp_nx k117_96 rfl
theorem k117_97 : mCode 117 97 = some (.iaload, 1) := by decide +kernel
theorem x117_97 {E : ME} {ls : MLs} {st : List MV} {g : MG} {μ : MU} {Q : Option MV → MG → MU → Prop} {a : Nat} {j : Int} : Wp E 117 97 ls (.inl j :: .inr (.inr (.inl a)) :: st) g μ Q = (((mKd g a).1 = 10 ∧ 0 ≤ j ∧ j < (mKd g a).2) ∧ Wp E 117 98 ls (.inl (μ a j.toNat) :: st) g μ Q) := Wp_ald k117_97 (fun _ => rfl)
theorem k117_98 : mCode 117 98 = some (.if_icmp .ge 6, 3) := by decide +kernel
theorem x117_98 {E : ME} {ls : MLs} {st : List MV} {g : MG} {μ : MU} {Q : Option MV → MG → MU → Prop} {a b : Int} : Wp E 117 98 ls (.inl b :: .inl a :: st) g μ Q = ((b ≤ a → Wp E 117 104 ls st g μ Q) ∧ (a < b → Wp E 117 101 ls st g μ Q)) := Wp_cmp_ge k117_98 (by decide)
theorem k117_101 : mCode 117 101 = some (.iload 4, 2) := by decide +kernel
theorem x117_101 {E : ME} {ls : MLs} {st : List MV} {g : MG} {μ : MU} {Q : Option MV → MG → MU → Prop} {l0 l1 l2 l3 : Option MV} {v : Int} : Wp E 117 101 (l0 :: l1 :: l2 :: l3 :: some (.inl v) :: ls) st g μ Q = Wp E 117 103 (l0 :: l1 :: l2 :: l3 :: some (.inl v) :: ls) (.inl v :: st) g μ Q := Wp_nx k117_101 rfl
theorem k117_103 : mCode 117 103 = some (.ireturn, 1) := by decide +kernel
theorem x117_103 {E : ME} {ls : MLs} {g : MG} {μ : MU} {Q : Option MV → MG → MU → Prop} {v : Int} : Wp E 117 103 ls [.inl v] g μ Q = Q (some (.inl v)) g μ := Wp_retI k117_103 (by decide)
theorem k117_104 : mCode 117 104 = some (.iload_n 3, 1) := by decide +kernel
theorem x117_104 {E : ME} {ls : MLs} {st : List MV} {g : MG} {μ : MU} {Q : Option MV → MG → MU → Prop} {l0 l1 l2 : Option MV} {v : Int} : Wp E 117 104 (l0 :: l1 :: l2 :: some (.inl v) :: ls) st g μ Q = Wp E 117 105 (l0 :: l1 :: l2 :: some (.inl v) :: ls) (.inl v :: st) g μ Q := Wp_nx k117_104 rfl
theorem k117_105 : mCode 117 105 = some (.iload 5, 2) := by decide +kernel
theorem x117_105 {E : ME} {ls : MLs} {st : List MV} {g : MG} {μ : MU} {Q : Option MV → MG → MU → Prop} {l0 l1 l2 l3 l4 : Option MV} {v : Int} : Wp E 117 105 (l0 :: l1 :: l2 :: l3 :: l4 :: some (.inl v) :: ls) st g μ Q = Wp E 117 107 (l0 :: l1 :: l2 :: l3 :: l4 :: some (.inl v) :: ls) (.inl v :: st) g μ Q := Wp_nx k117_105 rfl
theorem k117_107 : mCode 117 107 = some (.aload_n 0, 1) := by decide +kernel
theorem x117_107 {E : ME} {ls : MLs} {st : List MV} {g : MG} {μ : MU} {Q : Option MV → MG → MU → Prop} {v : Nat ⊕ Nat} : Wp E 117 107 (some (.inr (.inr v)) :: ls) st g μ Q = Wp E 117 108 (some (.inr (.inr v)) :: ls) (.inr (.inr v) :: st) g μ Q := Wp_nx k117_107 rfl
theorem k117_108 : mCode 117 108 = some (.iload 4, 2) := by decide +kernel
theorem x117_108 {E : ME} {ls : MLs} {st : List MV} {g : MG} {μ : MU} {Q : Option MV → MG → MU → Prop} {l0 l1 l2 l3 : Option MV} {v : Int} : Wp E 117 108 (l0 :: l1 :: l2 :: l3 :: some (.inl v) :: ls) st g μ Q = Wp E 117 110 (l0 :: l1 :: l2 :: l3 :: some (.inl v) :: ls) (.inl v :: st) g μ Q := Wp_nx k117_108 rfl
theorem k117_110 : mCode 117 110 = some (.iload 8, 2) := by decide +kernel
theorem x117_110 {E : ME} {ls : MLs} {st : List MV} {g : MG} {μ : MU} {Q : Option MV → MG → MU → Prop} {l0 l1 l2 l3 l4 l5 l6 l7 : Option MV} {v : Int} : Wp E 117 110 (l0 :: l1 :: l2 :: l3 :: l4 :: l5 :: l6 :: l7 :: some (.inl v) :: ls) st g μ Q = Wp E 117 112 (l0 :: l1 :: l2 :: l3 :: l4 :: l5 :: l6 :: l7 :: some (.inl v) :: ls) (.inl v :: st) g μ Q := Wp_nx k117_110 rfl
theorem k117_112 : mCode 117 112 = some (.invokevirtual 90, 3) := by decide +kernel
theorem x117_112 {E : ME} {ls : MLs} {st : List MV} {g : MG} {μ : MU} {Q : Option MV → MG → MU → Prop} {r : Nat} {a0 : Int} {a1 : Int} : Wp E 117 112 ls (.inl a1 :: .inl a0 :: .inr (.inr (.inl r)) :: st) g μ Q = ((st.length ≤ 4 ∧ ((mKd g r).1 == 6) = true) ∧ Wp E 85 0 [some (.inr (.inr (.inl r))), some (.inl a0), some (.inl a1)] [] g μ (fun r g' μ' => (g'.1 = g.1 ∧ g'.2.1 = g.2.1) ∧ Wp E 117 115 ls (mPush r st) g' μ' Q)) := Wp_cV k117_112 m6_90 (by decide) (as := [.inr (.inr (.inl r)), .inl a0, .inl a1]) rfl rfl rfl ⟨Nat.le_of_ble_eq_true rfl, by decide⟩
theorem k117_115 : mCode 117 115 = some (.iadd, 1) := by decide +kernel
theorem x117_115 {E : ME} {ls : MLs} {st : List MV} {g : MG} {μ : MU} {Q : Option MV → MG → MU → Prop} {a b : Int} : Wp E 117 115 ls (.inl b :: .inl a :: st) g μ Q = Wp E 117 116 ls (.inl (mWr (a + b)) :: st) g μ Q := Wp_nx k117_115 rfl
theorem k117_116 : mCode 117 116 = some (.if_icmp .ge 6, 3) := by decide +kernel
theorem x117_116 {E : ME} {ls : MLs} {st : List MV} {g : MG} {μ : MU} {Q : Option MV → MG → MU → Prop} {a b : Int} : Wp E 117 116 ls (.inl b :: .inl a :: st) g μ Q = ((b ≤ a → Wp E 117 122 ls st g μ Q) ∧ (a < b → Wp E 117 119 ls st g μ Q)) := Wp_cmp_ge k117_116 (by decide)
theorem k117_119 : mCode 117 119 = some (.bipush (-6), 2) := by decide +kernel
theorem x117_119 {E : ME} {ls : MLs} {st : List MV} {g : MG} {μ : MU} {Q : Option MV → MG → MU → Prop} : Wp E 117 119 ls st g μ Q = Wp E 117 121 ls (.inl (-6) :: st) g μ Q := Wp_nx k117_119 rfl
theorem k117_121 : mCode 117 121 = some (.ireturn, 1) := by decide +kernel
theorem x117_121 {E : ME} {ls : MLs} {g : MG} {μ : MU} {Q : Option MV → MG → MU → Prop} {v : Int} : Wp E 117 121 ls [.inl v] g μ Q = Q (some (.inl v)) g μ := Wp_retI k117_121 (by decide)
theorem k117_122 : mCode 117 122 = some (.iload 8, 2) := by decide +kernel
theorem x117_122 {E : ME} {ls : MLs} {st : List MV} {g : MG} {μ : MU} {Q : Option MV → MG → MU → Prop} {l0 l1 l2 l3 l4 l5 l6 l7 : Option MV} {v : Int} : Wp E 117 122 (l0 :: l1 :: l2 :: l3 :: l4 :: l5 :: l6 :: l7 :: some (.inl v) :: ls) st g μ Q = Wp E 117 124 (l0 :: l1 :: l2 :: l3 :: l4 :: l5 :: l6 :: l7 :: some (.inl v) :: ls) (.inl v :: st) g μ Q := Wp_nx k117_122 rfl
theorem k117_124 : mCode 117 124 = some (.istore 4, 2) := by decide +kernel
theorem x117_124 {E : ME} {ls : MLs} {st : List MV} {g : MG} {μ : MU} {Q : Option MV → MG → MU → Prop} {l0 l1 l2 l3 : Option MV} {lk : Option MV} {v : Int} : Wp E 117 124 (l0 :: l1 :: l2 :: l3 :: lk :: ls) (.inl v :: st) g μ Q = ((mNl (some l3) = true ∧ mNl (some lk) = true) ∧ Wp E 117 126 (l0 :: l1 :: l2 :: l3 :: some (.inl v) :: ls) st g μ Q) := Wp_sti k117_124 (fun _ => rfl) rfl rfl rfl
theorem k117_126 : mCode 117 126 = some (.aload_n 0, 1) := by decide +kernel
theorem x117_126 {E : ME} {ls : MLs} {st : List MV} {g : MG} {μ : MU} {Q : Option MV → MG → MU → Prop} {v : Nat ⊕ Nat} : Wp E 117 126 (some (.inr (.inr v)) :: ls) st g μ Q = Wp E 117 127 (some (.inr (.inr v)) :: ls) (.inr (.inr v) :: st) g μ Q := Wp_nx k117_126 rfl
theorem k117_127 : mCode 117 127 = some (.getfield 41, 3) := by decide +kernel
theorem x117_127 {E : ME} {ls : MLs} {st : List MV} {g : MG} {μ : MU} {Q : Option MV → MG → MU → Prop} {a : Nat} : Wp E 117 127 ls (.inr (.inr (.inl a)) :: st) g μ Q = ((mKd g a).1 = 6 ∧ Wp E 117 130 ls (mRv (mRf g a 13) :: st) g μ Q) := Wp_getR k117_127 f6_41 (by decide) (by decide)
theorem k117_130 : mCode 117 130 = some (.bipush 6, 2) := by decide +kernel
theorem x117_130 {E : ME} {ls : MLs} {st : List MV} {g : MG} {μ : MU} {Q : Option MV → MG → MU → Prop} : Wp E 117 130 ls st g μ Q = Wp E 117 132 ls (.inl 6 :: st) g μ Q := Wp_nx k117_130 rfl
theorem k117_132 : mCode 117 132 = some (.iload 7, 2) := by decide +kernel
theorem x117_132 {E : ME} {ls : MLs} {st : List MV} {g : MG} {μ : MU} {Q : Option MV → MG → MU → Prop} {l0 l1 l2 l3 l4 l5 l6 : Option MV} {v : Int} : Wp E 117 132 (l0 :: l1 :: l2 :: l3 :: l4 :: l5 :: l6 :: some (.inl v) :: ls) st g μ Q = Wp E 117 134 (l0 :: l1 :: l2 :: l3 :: l4 :: l5 :: l6 :: some (.inl v) :: ls) (.inl v :: st) g μ Q := Wp_nx k117_132 rfl
theorem k117_134 : mCode 117 134 = some (.imul, 1) := by decide +kernel
theorem x117_134 {E : ME} {ls : MLs} {st : List MV} {g : MG} {μ : MU} {Q : Option MV → MG → MU → Prop} {a b : Int} : Wp E 117 134 ls (.inl b :: .inl a :: st) g μ Q = Wp E 117 135 ls (.inl (mWr (a * b)) :: st) g μ Q := Wp_nx k117_134 rfl
theorem k117_135 : mCode 117 135 = some (.iload_n 2, 1) := by decide +kernel
theorem x117_135 {E : ME} {ls : MLs} {st : List MV} {g : MG} {μ : MU} {Q : Option MV → MG → MU → Prop} {l0 l1 : Option MV} {v : Int} : Wp E 117 135 (l0 :: l1 :: some (.inl v) :: ls) st g μ Q = Wp E 117 136 (l0 :: l1 :: some (.inl v) :: ls) (.inl v :: st) g μ Q := Wp_nx k117_135 rfl
theorem k117_136 : mCode 117 136 = some (.iadd, 1) := by decide +kernel
theorem x117_136 {E : ME} {ls : MLs} {st : List MV} {g : MG} {μ : MU} {Q : Option MV → MG → MU → Prop} {a b : Int} : Wp E 117 136 ls (.inl b :: .inl a :: st) g μ Q = Wp E 117 137 ls (.inl (mWr (a + b)) :: st) g μ Q := Wp_nx k117_136 rfl
theorem k117_137 : mCode 117 137 = some (.iaload, 1) := by decide +kernel
theorem x117_137 {E : ME} {ls : MLs} {st : List MV} {g : MG} {μ : MU} {Q : Option MV → MG → MU → Prop} {a : Nat} {j : Int} : Wp E 117 137 ls (.inl j :: .inr (.inr (.inl a)) :: st) g μ Q = (((mKd g a).1 = 10 ∧ 0 ≤ j ∧ j < (mKd g a).2) ∧ Wp E 117 138 ls (.inl (μ a j.toNat) :: st) g μ Q) := Wp_ald k117_137 (fun _ => rfl)
theorem k117_138 : mCode 117 138 = some (.istore 5, 2) := by decide +kernel
theorem x117_138 {E : ME} {ls : MLs} {st : List MV} {g : MG} {μ : MU} {Q : Option MV → MG → MU → Prop} {l0 l1 l2 l3 l4 : Option MV} {lk : Option MV} {v : Int} : Wp E 117 138 (l0 :: l1 :: l2 :: l3 :: l4 :: lk :: ls) (.inl v :: st) g μ Q = ((mNl (some l4) = true ∧ mNl (some lk) = true) ∧ Wp E 117 140 (l0 :: l1 :: l2 :: l3 :: l4 :: some (.inl v) :: ls) st g μ Q) := Wp_sti k117_138 (fun _ => rfl) rfl rfl rfl
theorem k117_140 : mCode 117 140 = some (.iinc 6 1, 3) := by decide +kernel
theorem x117_140 {E : ME} {ls : MLs} {st : List MV} {g : MG} {μ : MU} {Q : Option MV → MG → MU → Prop} {l0 l1 l2 l3 l4 l5 : Option MV} {v : Int} : Wp E 117 140 (l0 :: l1 :: l2 :: l3 :: l4 :: l5 :: some (.inl v) :: ls) st g μ Q = (mNl (some l5) = true ∧ Wp E 117 143 (l0 :: l1 :: l2 :: l3 :: l4 :: l5 :: some (.inl (mWr (v + 1))) :: ls) st g μ Q) := Wp_inc k117_140 rfl rfl rfl
theorem k117_143 : mCode 117 143 = some (.goto (-129), 3) := by decide +kernel
theorem x117_143 {E : ME} {ls : MLs} {st : List MV} {g : MG} {μ : MU} {Q : Option MV → MG → MU → Prop} : Wp E 117 143 ls st g μ Q = Wp E 117 14 ls st g μ Q := Wp_goto k117_143 (by decide)
theorem k117_146 : mCode 117 146 = some (.iload 4, 2) := by decide +kernel
theorem x117_146 {E : ME} {ls : MLs} {st : List MV} {g : MG} {μ : MU} {Q : Option MV → MG → MU → Prop} {l0 l1 l2 l3 : Option MV} {v : Int} : Wp E 117 146 (l0 :: l1 :: l2 :: l3 :: some (.inl v) :: ls) st g μ Q = Wp E 117 148 (l0 :: l1 :: l2 :: l3 :: some (.inl v) :: ls) (.inl v :: st) g μ Q := Wp_nx k117_146 rfl
theorem k117_148 : mCode 117 148 = some (.ireturn, 1) := by decide +kernel
theorem x117_148 {E : ME} {ls : MLs} {g : MG} {μ : MU} {Q : Option MV → MG → MU → Prop} {v : Int} : Wp E 117 148 ls [.inl v] g μ Q = Q (some (.inl v)) g μ := Wp_retI k117_148 (by decide)
theorem k118_0 : mCode 118 0 = some (.aload_n 0, 1) := by decide +kernel
theorem x118_0 {E : ME} {ls : MLs} {st : List MV} {g : MG} {μ : MU} {Q : Option MV → MG → MU → Prop} {v : Nat ⊕ Nat} : Wp E 118 0 (some (.inr (.inr v)) :: ls) st g μ Q = Wp E 118 1 (some (.inr (.inr v)) :: ls) (.inr (.inr v) :: st) g μ Q := Wp_nx k118_0 rfl
theorem k118_1 : mCode 118 1 = some (.iconst 0, 1) := by decide +kernel
theorem x118_1 {E : ME} {ls : MLs} {st : List MV} {g : MG} {μ : MU} {Q : Option MV → MG → MU → Prop} : Wp E 118 1 ls st g μ Q = Wp E 118 2 ls (.inl 0 :: st) g μ Q := Wp_nx k118_1 rfl
theorem k118_2 : mCode 118 2 = some (.putfield 65, 3) := by decide +kernel
theorem x118_2 {E : ME} {ls : MLs} {st : List MV} {g : MG} {μ : MU} {Q : Option MV → MG → MU → Prop} {a : Nat} {v : Int} : Wp E 118 2 ls (.inl v :: .inr (.inr (.inl a)) :: st) g μ Q = ((mKd g a).1 = 6 ∧ Wp E 118 5 ls st g (mUp μ a 0 v) Q) := Wp_putI0 k118_2 f6_65 (by decide) (by decide)
theorem k118_5 : mCode 118 5 = some (.aload_n 0, 1) := by decide +kernel
theorem x118_5 {E : ME} {ls : MLs} {st : List MV} {g : MG} {μ : MU} {Q : Option MV → MG → MU → Prop} {v : Nat ⊕ Nat} : Wp E 118 5 (some (.inr (.inr v)) :: ls) st g μ Q = Wp E 118 6 (some (.inr (.inr v)) :: ls) (.inr (.inr v) :: st) g μ Q := Wp_nx k118_5 rfl
theorem k118_6 : mCode 118 6 = some (.iload_n 1, 1) := by decide +kernel
theorem x118_6 {E : ME} {ls : MLs} {st : List MV} {g : MG} {μ : MU} {Q : Option MV → MG → MU → Prop} {l0 : Option MV} {v : Int} : Wp E 118 6 (l0 :: some (.inl v) :: ls) st g μ Q = Wp E 118 7 (l0 :: some (.inl v) :: ls) (.inl v :: st) g μ Q := Wp_nx k118_6 rfl
theorem k118_7 : mCode 118 7 = some (.iload_n 2, 1) := by decide +kernel
theorem x118_7 {E : ME} {ls : MLs} {st : List MV} {g : MG} {μ : MU} {Q : Option MV → MG → MU → Prop} {l0 l1 : Option MV} {v : Int} : Wp E 118 7 (l0 :: l1 :: some (.inl v) :: ls) st g μ Q = Wp E 118 8 (l0 :: l1 :: some (.inl v) :: ls) (.inl v :: st) g μ Q := Wp_nx k118_7 rfl
theorem k118_8 : mCode 118 8 = some (.invokevirtual 152, 3) := by decide +kernel
theorem x118_8 {E : ME} {ls : MLs} {st : List MV} {g : MG} {μ : MU} {Q : Option MV → MG → MU → Prop} {r : Nat} {a0 : Int} {a1 : Int} : Wp E 118 8 ls (.inl a1 :: .inl a0 :: .inr (.inr (.inl r)) :: st) g μ Q = ((st.length ≤ 4 ∧ ((mKd g r).1 == 6) = true) ∧ Wp E 83 0 [some (.inr (.inr (.inl r))), some (.inl a0), some (.inl a1)] [] g μ (fun r g' μ' => (g'.1 = g.1 ∧ g'.2.1 = g.2.1) ∧ Wp E 118 11 ls (mPush r st) g' μ' Q)) := Wp_cV k118_8 m6_152 (by decide) (as := [.inr (.inr (.inl r)), .inl a0, .inl a1]) rfl rfl rfl ⟨Nat.le_of_ble_eq_true rfl, by decide⟩
theorem k118_11 : mCode 118 11 = some (.ifCond .ne 5, 3) := by decide +kernel
theorem x118_11 {E : ME} {ls : MLs} {st : List MV} {g : MG} {μ : MU} {Q : Option MV → MG → MU → Prop} {a : Int} : Wp E 118 11 ls (.inl a :: st) g μ Q = ((¬ a = 0 → Wp E 118 16 ls st g μ Q) ∧ (a = 0 → Wp E 118 14 ls st g μ Q)) := Wp_if_ne k118_11 (by decide)
theorem k118_14 : mCode 118 14 = some (.iconst (-1), 1) := by decide +kernel
theorem x118_14 {E : ME} {ls : MLs} {st : List MV} {g : MG} {μ : MU} {Q : Option MV → MG → MU → Prop} : Wp E 118 14 ls st g μ Q = Wp E 118 15 ls (.inl (-1) :: st) g μ Q := Wp_nx k118_14 rfl
theorem k118_15 : mCode 118 15 = some (.ireturn, 1) := by decide +kernel
theorem x118_15 {E : ME} {ls : MLs} {g : MG} {μ : MU} {Q : Option MV → MG → MU → Prop} {v : Int} : Wp E 118 15 ls [.inl v] g μ Q = Q (some (.inl v)) g μ := Wp_retI k118_15 (by decide)
theorem k118_16 : mCode 118 16 = some (.iload_n 3, 1) := by decide +kernel
theorem x118_16 {E : ME} {ls : MLs} {st : List MV} {g : MG} {μ : MU} {Q : Option MV → MG → MU → Prop} {l0 l1 l2 : Option MV} {v : Int} : Wp E 118 16 (l0 :: l1 :: l2 :: some (.inl v) :: ls) st g μ Q = Wp E 118 17 (l0 :: l1 :: l2 :: some (.inl v) :: ls) (.inl v :: st) g μ Q := Wp_nx k118_16 rfl
theorem k118_17 : mCode 118 17 = some (.iconst 0, 1) := by decide +kernel
theorem x118_17 {E : ME} {ls : MLs} {st : List MV} {g : MG} {μ : MU} {Q : Option MV → MG → MU → Prop} : Wp E 118 17 ls st g μ Q = Wp E 118 18 ls (.inl 0 :: st) g μ Q := Wp_nx k118_17 rfl
theorem k118_18 : mCode 118 18 = some (.sipush 9999, 3) := by decide +kernel
theorem x118_18 {E : ME} {ls : MLs} {st : List MV} {g : MG} {μ : MU} {Q : Option MV → MG → MU → Prop} : Wp E 118 18 ls st g μ Q = Wp E 118 21 ls (.inl 9999 :: st) g μ Q := Wp_nx k118_18 rfl
theorem k118_21 : mCode 118 21 = some (.invokestatic 69, 3) := by decide +kernel
theorem x118_21 {E : ME} {ls : MLs} {st : List MV} {g : MG} {μ : MU} {Q : Option MV → MG → MU → Prop} {a0 : Int} {a1 : Int} {a2 : Int} : Wp E 118 21 ls (.inl a2 :: .inl a1 :: .inl a0 :: st) g μ Q = (st.length ≤ 4 ∧ Wp E 77 0 [some (.inl a0), some (.inl a1), some (.inl a2)] [] g μ (fun r g' μ' => (g'.1 = g.1 ∧ g'.2.1 = g.2.1) ∧ Wp E 118 24 ls (mPush r st) g' μ' Q)) := Wp_cS k118_21 m6_69 (by decide) (as := [.inl a0, .inl a1, .inl a2]) rfl rfl rfl ⟨Nat.le_of_ble_eq_true rfl, by decide⟩
theorem k118_24 : mCode 118 24 = some (.ifCond .ne 6, 3) := by decide +kernel
theorem x118_24 {E : ME} {ls : MLs} {st : List MV} {g : MG} {μ : MU} {Q : Option MV → MG → MU → Prop} {a : Int} : Wp E 118 24 ls (.inl a :: st) g μ Q = ((¬ a = 0 → Wp E 118 30 ls st g μ Q) ∧ (a = 0 → Wp E 118 27 ls st g μ Q)) := Wp_if_ne k118_24 (by decide)
theorem k118_27 : mCode 118 27 = some (.bipush (-2), 2) := by decide +kernel
theorem x118_27 {E : ME} {ls : MLs} {st : List MV} {g : MG} {μ : MU} {Q : Option MV → MG → MU → Prop} : Wp E 118 27 ls st g μ Q = Wp E 118 29 ls (.inl (-2) :: st) g μ Q := Wp_nx k118_27 rfl
theorem k118_29 : mCode 118 29 = some (.ireturn, 1) := by decide +kernel
theorem x118_29 {E : ME} {ls : MLs} {g : MG} {μ : MU} {Q : Option MV → MG → MU → Prop} {v : Int} : Wp E 118 29 ls [.inl v] g μ Q = Q (some (.inl v)) g μ := Wp_retI k118_29 (by decide)
theorem k118_30 : mCode 118 30 = some (.aload_n 0, 1) := by decide +kernel
theorem x118_30 {E : ME} {ls : MLs} {st : List MV} {g : MG} {μ : MU} {Q : Option MV → MG → MU → Prop} {v : Nat ⊕ Nat} : Wp E 118 30 (some (.inr (.inr v)) :: ls) st g μ Q = Wp E 118 31 (some (.inr (.inr v)) :: ls) (.inr (.inr v) :: st) g μ Q := Wp_nx k118_30 rfl
theorem k118_31 : mCode 118 31 = some (.iconst 0, 1) := by decide +kernel
theorem x118_31 {E : ME} {ls : MLs} {st : List MV} {g : MG} {μ : MU} {Q : Option MV → MG → MU → Prop} : Wp E 118 31 ls st g μ Q = Wp E 118 32 ls (.inl 0 :: st) g μ Q := Wp_nx k118_31 rfl
theorem k118_32 : mCode 118 32 = some (.invokevirtual 164, 3) := by decide +kernel
theorem x118_32 {E : ME} {ls : MLs} {st : List MV} {g : MG} {μ : MU} {Q : Option MV → MG → MU → Prop} {r : Nat} {a0 : Int} : Wp E 118 32 ls (.inl a0 :: .inr (.inr (.inl r)) :: st) g μ Q = ((st.length ≤ 4 ∧ ((mKd g r).1 == 6) = true) ∧ Wp E 89 0 [some (.inr (.inr (.inl r))), some (.inl a0), none, none] [] g μ (fun r g' μ' => (g'.1 = g.1 ∧ g'.2.1 = g.2.1) ∧ Wp E 118 35 ls (mPush r st) g' μ' Q)) := Wp_cV k118_32 m6_164 (by decide) (as := [.inr (.inr (.inl r)), .inl a0]) rfl rfl rfl ⟨Nat.le_of_ble_eq_true rfl, by decide⟩
theorem k118_35 : mCode 118 35 = some (.aload_n 0, 1) := by decide +kernel
theorem x118_35 {E : ME} {ls : MLs} {st : List MV} {g : MG} {μ : MU} {Q : Option MV → MG → MU → Prop} {v : Nat ⊕ Nat} : Wp E 118 35 (some (.inr (.inr v)) :: ls) st g μ Q = Wp E 118 36 (some (.inr (.inr v)) :: ls) (.inr (.inr v) :: st) g μ Q := Wp_nx k118_35 rfl
theorem k118_36 : mCode 118 36 = some (.iload_n 1, 1) := by decide +kernel
theorem x118_36 {E : ME} {ls : MLs} {st : List MV} {g : MG} {μ : MU} {Q : Option MV → MG → MU → Prop} {l0 : Option MV} {v : Int} : Wp E 118 36 (l0 :: some (.inl v) :: ls) st g μ Q = Wp E 118 37 (l0 :: some (.inl v) :: ls) (.inl v :: st) g μ Q := Wp_nx k118_36 rfl
theorem k118_37 : mCode 118 37 = some (.iload_n 2, 1) := by decide +kernel
theorem x118_37 {E : ME} {ls : MLs} {st : List MV} {g : MG} {μ : MU} {Q : Option MV → MG → MU → Prop} {l0 l1 : Option MV} {v : Int} : Wp E 118 37 (l0 :: l1 :: some (.inl v) :: ls) st g μ Q = Wp E 118 38 (l0 :: l1 :: some (.inl v) :: ls) (.inl v :: st) g μ Q := Wp_nx k118_37 rfl
theorem k118_38 : mCode 118 38 = some (.iload_n 3, 1) := by decide +kernel
theorem x118_38 {E : ME} {ls : MLs} {st : List MV} {g : MG} {μ : MU} {Q : Option MV → MG → MU → Prop} {l0 l1 l2 : Option MV} {v : Int} : Wp E 118 38 (l0 :: l1 :: l2 :: some (.inl v) :: ls) st g μ Q = Wp E 118 39 (l0 :: l1 :: l2 :: some (.inl v) :: ls) (.inl v :: st) g μ Q := Wp_nx k118_38 rfl
theorem k118_39 : mCode 118 39 = some (.invokevirtual 173, 3) := by decide +kernel
theorem x118_39 {E : ME} {ls : MLs} {st : List MV} {g : MG} {μ : MU} {Q : Option MV → MG → MU → Prop} {r : Nat} {a0 : Int} {a1 : Int} {a2 : Int} : Wp E 118 39 ls (.inl a2 :: .inl a1 :: .inl a0 :: .inr (.inr (.inl r)) :: st) g μ Q = ((st.length ≤ 4 ∧ ((mKd g r).1 == 6) = true) ∧ Wp E 117 0 [some (.inr (.inr (.inl r))), some (.inl a0), some (.inl a1), some (.inl a2), none, none, none, none, none] [] g μ (fun r g' μ' => (g'.1 = g.1 ∧ g'.2.1 = g.2.1) ∧ Wp E 118 42 ls (mPush r st) g' μ' Q)) := Wp_cV k118_39 m6_173 (by decide) (as := [.inr (.inr (.inl r)), .inl a0, .inl a1, .inl a2]) rfl rfl rfl ⟨Nat.le_of_ble_eq_true rfl, by decide⟩
theorem k118_42 : mCode 118 42 = some (.ireturn, 1) := by decide +kernel
theorem x118_42 {E : ME} {ls : MLs} {g : MG} {μ : MU} {Q : Option MV → MG → MU → Prop} {v : Int} : Wp E 118 42 ls [.inl v] g μ Q = Q (some (.inl v)) g μ := Wp_retI k118_42 (by decide)
theorem k119_0 : mCode 119 0 = some (.iconst 0, 1) := by decide +kernel
theorem x119_0 {E : ME} {ls : MLs} {st : List MV} {g : MG} {μ : MU} {Q : Option MV → MG → MU → Prop} : Wp E 119 0 ls st g μ Q = Wp E 119 1 ls (.inl 0 :: st) g μ Q := Wp_nx k119_0 rfl
theorem k119_1 : mCode 119 1 = some (.istore_n 1, 1) := by decide +kernel
theorem x119_1 {E : ME} {ls : MLs} {st : List MV} {g : MG} {μ : MU} {Q : Option MV → MG → MU → Prop} {l0 : Option MV} {lk : Option MV} {v : Int} : Wp E 119 1 (l0 :: lk :: ls) (.inl v :: st) g μ Q = ((mNl (some l0) = true ∧ mNl (some lk) = true) ∧ Wp E 119 2 (l0 :: some (.inl v) :: ls) st g μ Q) := Wp_sti k119_1 (fun _ => rfl) rfl rfl rfl
theorem k119_2 : mCode 119 2 = some (.iconst 0, 1) := by decide +kernel
theorem x119_2 {E : ME} {ls : MLs} {st : List MV} {g : MG} {μ : MU} {Q : Option MV → MG → MU → Prop} : Wp E 119 2 ls st g μ Q = Wp E 119 3 ls (.inl 0 :: st) g μ Q := Wp_nx k119_2 rfl
theorem k119_3 : mCode 119 3 = some (.istore_n 2, 1) := by decide +kernel
theorem x119_3 {E : ME} {ls : MLs} {st : List MV} {g : MG} {μ : MU} {Q : Option MV → MG → MU → Prop} {l0 l1 : Option MV} {lk : Option MV} {v : Int} : Wp E 119 3 (l0 :: l1 :: lk :: ls) (.inl v :: st) g μ Q = ((mNl (some l1) = true ∧ mNl (some lk) = true) ∧ Wp E 119 4 (l0 :: l1 :: some (.inl v) :: ls) st g μ Q) := Wp_sti k119_3 (fun _ => rfl) rfl rfl rfl
theorem k119_4 : mCode 119 4 = some (.iload_n 2, 1) := by decide +kernel
theorem x119_4 {E : ME} {ls : MLs} {st : List MV} {g : MG} {μ : MU} {Q : Option MV → MG → MU → Prop} {l0 l1 : Option MV} {v : Int} : Wp E 119 4 (l0 :: l1 :: some (.inl v) :: ls) st g μ Q = Wp E 119 5 (l0 :: l1 :: some (.inl v) :: ls) (.inl v :: st) g μ Q := Wp_nx k119_4 rfl
theorem k119_5 : mCode 119 5 = some (.aload_n 0, 1) := by decide +kernel
theorem x119_5 {E : ME} {ls : MLs} {st : List MV} {g : MG} {μ : MU} {Q : Option MV → MG → MU → Prop} {v : Nat ⊕ Nat} : Wp E 119 5 (some (.inr (.inr v)) :: ls) st g μ Q = Wp E 119 6 (some (.inr (.inr v)) :: ls) (.inr (.inr v) :: st) g μ Q := Wp_nx k119_5 rfl
theorem k119_6 : mCode 119 6 = some (.getfield 7, 3) := by decide +kernel
theorem x119_6 {E : ME} {ls : MLs} {st : List MV} {g : MG} {μ : MU} {Q : Option MV → MG → MU → Prop} {a : Nat} : Wp E 119 6 ls (.inr (.inr (.inl a)) :: st) g μ Q = ((mKd g a).1 = 6 ∧ Wp E 119 9 ls (mRv (mRf g a 1) :: st) g μ Q) := Wp_getR k119_6 f6_7 (by decide) (by decide)
theorem k119_9 : mCode 119 9 = some (.iconst 5, 1) := by decide +kernel
theorem x119_9 {E : ME} {ls : MLs} {st : List MV} {g : MG} {μ : MU} {Q : Option MV → MG → MU → Prop} : Wp E 119 9 ls st g μ Q = Wp E 119 10 ls (.inl 5 :: st) g μ Q := Wp_nx k119_9 rfl
theorem k119_10 : mCode 119 10 = some (.iaload, 1) := by decide +kernel
theorem x119_10 {E : ME} {ls : MLs} {st : List MV} {g : MG} {μ : MU} {Q : Option MV → MG → MU → Prop} {a : Nat} {j : Int} : Wp E 119 10 ls (.inl j :: .inr (.inr (.inl a)) :: st) g μ Q = (((mKd g a).1 = 10 ∧ 0 ≤ j ∧ j < (mKd g a).2) ∧ Wp E 119 11 ls (.inl (μ a j.toNat) :: st) g μ Q) := Wp_ald k119_10 (fun _ => rfl)
theorem k119_11 : mCode 119 11 = some (.if_icmp .ge 18, 3) := by decide +kernel
theorem x119_11 {E : ME} {ls : MLs} {st : List MV} {g : MG} {μ : MU} {Q : Option MV → MG → MU → Prop} {a b : Int} : Wp E 119 11 ls (.inl b :: .inl a :: st) g μ Q = ((b ≤ a → Wp E 119 29 ls st g μ Q) ∧ (a < b → Wp E 119 14 ls st g μ Q)) := Wp_cmp_ge k119_11 (by decide)
theorem k119_14 : mCode 119 14 = some (.iload_n 1, 1) := by decide +kernel
theorem x119_14 {E : ME} {ls : MLs} {st : List MV} {g : MG} {μ : MU} {Q : Option MV → MG → MU → Prop} {l0 : Option MV} {v : Int} : Wp E 119 14 (l0 :: some (.inl v) :: ls) st g μ Q = Wp E 119 15 (l0 :: some (.inl v) :: ls) (.inl v :: st) g μ Q := Wp_nx k119_14 rfl
theorem k119_15 : mCode 119 15 = some (.aload_n 0, 1) := by decide +kernel
theorem x119_15 {E : ME} {ls : MLs} {st : List MV} {g : MG} {μ : MU} {Q : Option MV → MG → MU → Prop} {v : Nat ⊕ Nat} : Wp E 119 15 (some (.inr (.inr v)) :: ls) st g μ Q = Wp E 119 16 (some (.inr (.inr v)) :: ls) (.inr (.inr v) :: st) g μ Q := Wp_nx k119_15 rfl
theorem k119_16 : mCode 119 16 = some (.getfield 44, 3) := by decide +kernel
theorem x119_16 {E : ME} {ls : MLs} {st : List MV} {g : MG} {μ : MU} {Q : Option MV → MG → MU → Prop} {a : Nat} : Wp E 119 16 ls (.inr (.inr (.inl a)) :: st) g μ Q = ((mKd g a).1 = 6 ∧ Wp E 119 19 ls (mRv (mRf g a 14) :: st) g μ Q) := Wp_getR k119_16 f6_44 (by decide) (by decide)
theorem k119_19 : mCode 119 19 = some (.iload_n 2, 1) := by decide +kernel
theorem x119_19 {E : ME} {ls : MLs} {st : List MV} {g : MG} {μ : MU} {Q : Option MV → MG → MU → Prop} {l0 l1 : Option MV} {v : Int} : Wp E 119 19 (l0 :: l1 :: some (.inl v) :: ls) st g μ Q = Wp E 119 20 (l0 :: l1 :: some (.inl v) :: ls) (.inl v :: st) g μ Q := Wp_nx k119_19 rfl
theorem k119_20 : mCode 119 20 = some (.iaload, 1) := by decide +kernel
theorem x119_20 {E : ME} {ls : MLs} {st : List MV} {g : MG} {μ : MU} {Q : Option MV → MG → MU → Prop} {a : Nat} {j : Int} : Wp E 119 20 ls (.inl j :: .inr (.inr (.inl a)) :: st) g μ Q = (((mKd g a).1 = 10 ∧ 0 ≤ j ∧ j < (mKd g a).2) ∧ Wp E 119 21 ls (.inl (μ a j.toNat) :: st) g μ Q) := Wp_ald k119_20 (fun _ => rfl)
theorem k119_21 : mCode 119 21 = some (.iadd, 1) := by decide +kernel
theorem x119_21 {E : ME} {ls : MLs} {st : List MV} {g : MG} {μ : MU} {Q : Option MV → MG → MU → Prop} {a b : Int} : Wp E 119 21 ls (.inl b :: .inl a :: st) g μ Q = Wp E 119 22 ls (.inl (mWr (a + b)) :: st) g μ Q := Wp_nx k119_21 rfl
theorem k119_22 : mCode 119 22 = some (.istore_n 1, 1) := by decide +kernel
theorem x119_22 {E : ME} {ls : MLs} {st : List MV} {g : MG} {μ : MU} {Q : Option MV → MG → MU → Prop} {l0 : Option MV} {lk : Option MV} {v : Int} : Wp E 119 22 (l0 :: lk :: ls) (.inl v :: st) g μ Q = ((mNl (some l0) = true ∧ mNl (some lk) = true) ∧ Wp E 119 23 (l0 :: some (.inl v) :: ls) st g μ Q) := Wp_sti k119_22 (fun _ => rfl) rfl rfl rfl
theorem k119_23 : mCode 119 23 = some (.iinc 2 1, 3) := by decide +kernel
theorem x119_23 {E : ME} {ls : MLs} {st : List MV} {g : MG} {μ : MU} {Q : Option MV → MG → MU → Prop} {l0 l1 : Option MV} {v : Int} : Wp E 119 23 (l0 :: l1 :: some (.inl v) :: ls) st g μ Q = (mNl (some l1) = true ∧ Wp E 119 26 (l0 :: l1 :: some (.inl (mWr (v + 1))) :: ls) st g μ Q) := Wp_inc k119_23 rfl rfl rfl
theorem k119_26 : mCode 119 26 = some (.goto (-22), 3) := by decide +kernel
theorem x119_26 {E : ME} {ls : MLs} {st : List MV} {g : MG} {μ : MU} {Q : Option MV → MG → MU → Prop} : Wp E 119 26 ls st g μ Q = Wp E 119 4 ls st g μ Q := Wp_goto k119_26 (by decide)
theorem k119_29 : mCode 119 29 = some (.iload_n 1, 1) := by decide +kernel
theorem x119_29 {E : ME} {ls : MLs} {st : List MV} {g : MG} {μ : MU} {Q : Option MV → MG → MU → Prop} {l0 : Option MV} {v : Int} : Wp E 119 29 (l0 :: some (.inl v) :: ls) st g μ Q = Wp E 119 30 (l0 :: some (.inl v) :: ls) (.inl v :: st) g μ Q := Wp_nx k119_29 rfl
theorem k119_30 : mCode 119 30 = some (.ireturn, 1) := by decide +kernel
theorem x119_30 {E : ME} {ls : MLs} {g : MG} {μ : MU} {Q : Option MV → MG → MU → Prop} {v : Int} : Wp E 119 30 ls [.inl v] g μ Q = Q (some (.inl v)) g μ := Wp_retI k119_30 (by decide)
theorem k120_0 : mCode 120 0 = some (.iconst 0, 1) := by decide +kernel
theorem x120_0 {E : ME} {ls : MLs} {st : List MV} {g : MG} {μ : MU} {Q : Option MV → MG → MU → Prop} : Wp E 120 0 ls st g μ Q = Wp E 120 1 ls (.inl 0 :: st) g μ Q := Wp_nx k120_0 rfl
theorem k120_1 : mCode 120 1 = some (.istore_n 1, 1) := by decide +kernel
theorem x120_1 {E : ME} {ls : MLs} {st : List MV} {g : MG} {μ : MU} {Q : Option MV → MG → MU → Prop} {l0 : Option MV} {lk : Option MV} {v : Int} : Wp E 120 1 (l0 :: lk :: ls) (.inl v :: st) g μ Q = ((mNl (some l0) = true ∧ mNl (some lk) = true) ∧ Wp E 120 2 (l0 :: some (.inl v) :: ls) st g μ Q) := Wp_sti k120_1 (fun _ => rfl) rfl rfl rfl
theorem k120_2 : mCode 120 2 = some (.iconst 0, 1) := by decide +kernel
theorem x120_2 {E : ME} {ls : MLs} {st : List MV} {g : MG} {μ : MU} {Q : Option MV → MG → MU → Prop} : Wp E 120 2 ls st g μ Q = Wp E 120 3 ls (.inl 0 :: st) g μ Q := Wp_nx k120_2 rfl
theorem k120_3 : mCode 120 3 = some (.istore_n 2, 1) := by decide +kernel
theorem x120_3 {E : ME} {ls : MLs} {st : List MV} {g : MG} {μ : MU} {Q : Option MV → MG → MU → Prop} {l0 l1 : Option MV} {lk : Option MV} {v : Int} : Wp E 120 3 (l0 :: l1 :: lk :: ls) (.inl v :: st) g μ Q = ((mNl (some l1) = true ∧ mNl (some lk) = true) ∧ Wp E 120 4 (l0 :: l1 :: some (.inl v) :: ls) st g μ Q) := Wp_sti k120_3 (fun _ => rfl) rfl rfl rfl
theorem k120_4 : mCode 120 4 = some (.iload_n 2, 1) := by decide +kernel
theorem x120_4 {E : ME} {ls : MLs} {st : List MV} {g : MG} {μ : MU} {Q : Option MV → MG → MU → Prop} {l0 l1 : Option MV} {v : Int} : Wp E 120 4 (l0 :: l1 :: some (.inl v) :: ls) st g μ Q = Wp E 120 5 (l0 :: l1 :: some (.inl v) :: ls) (.inl v :: st) g μ Q := Wp_nx k120_4 rfl
theorem k120_5 : mCode 120 5 = some (.aload_n 0, 1) := by decide +kernel
theorem x120_5 {E : ME} {ls : MLs} {st : List MV} {g : MG} {μ : MU} {Q : Option MV → MG → MU → Prop} {v : Nat ⊕ Nat} : Wp E 120 5 (some (.inr (.inr v)) :: ls) st g μ Q = Wp E 120 6 (some (.inr (.inr v)) :: ls) (.inr (.inr v) :: st) g μ Q := Wp_nx k120_5 rfl
theorem k120_6 : mCode 120 6 = some (.getfield 7, 3) := by decide +kernel
theorem x120_6 {E : ME} {ls : MLs} {st : List MV} {g : MG} {μ : MU} {Q : Option MV → MG → MU → Prop} {a : Nat} : Wp E 120 6 ls (.inr (.inr (.inl a)) :: st) g μ Q = ((mKd g a).1 = 6 ∧ Wp E 120 9 ls (mRv (mRf g a 1) :: st) g μ Q) := Wp_getR k120_6 f6_7 (by decide) (by decide)
theorem k120_9 : mCode 120 9 = some (.bipush 6, 2) := by decide +kernel
theorem x120_9 {E : ME} {ls : MLs} {st : List MV} {g : MG} {μ : MU} {Q : Option MV → MG → MU → Prop} : Wp E 120 9 ls st g μ Q = Wp E 120 11 ls (.inl 6 :: st) g μ Q := Wp_nx k120_9 rfl
theorem k120_11 : mCode 120 11 = some (.iaload, 1) := by decide +kernel
theorem x120_11 {E : ME} {ls : MLs} {st : List MV} {g : MG} {μ : MU} {Q : Option MV → MG → MU → Prop} {a : Nat} {j : Int} : Wp E 120 11 ls (.inl j :: .inr (.inr (.inl a)) :: st) g μ Q = (((mKd g a).1 = 10 ∧ 0 ≤ j ∧ j < (mKd g a).2) ∧ Wp E 120 12 ls (.inl (μ a j.toNat) :: st) g μ Q) := Wp_ald k120_11 (fun _ => rfl)
theorem k120_12 : mCode 120 12 = some (.if_icmp .ge 30, 3) := by decide +kernel
theorem x120_12 {E : ME} {ls : MLs} {st : List MV} {g : MG} {μ : MU} {Q : Option MV → MG → MU → Prop} {a b : Int} : Wp E 120 12 ls (.inl b :: .inl a :: st) g μ Q = ((b ≤ a → Wp E 120 42 ls st g μ Q) ∧ (a < b → Wp E 120 15 ls st g μ Q)) := Wp_cmp_ge k120_12 (by decide)
theorem k120_15 : mCode 120 15 = some (.aload_n 0, 1) := by decide +kernel
theorem x120_15 {E : ME} {ls : MLs} {st : List MV} {g : MG} {μ : MU} {Q : Option MV → MG → MU → Prop} {v : Nat ⊕ Nat} : Wp E 120 15 (some (.inr (.inr v)) :: ls) st g μ Q = Wp E 120 16 (some (.inr (.inr v)) :: ls) (.inr (.inr v) :: st) g μ Q := Wp_nx k120_15 rfl
theorem k120_16 : mCode 120 16 = some (.getfield 29, 3) := by decide +kernel
theorem x120_16 {E : ME} {ls : MLs} {st : List MV} {g : MG} {μ : MU} {Q : Option MV → MG → MU → Prop} {a : Nat} : Wp E 120 16 ls (.inr (.inr (.inl a)) :: st) g μ Q = ((mKd g a).1 = 6 ∧ Wp E 120 19 ls (mRv (mRf g a 9) :: st) g μ Q) := Wp_getR k120_16 f6_29 (by decide) (by decide)
theorem k120_19 : mCode 120 19 = some (.iload_n 2, 1) := by decide +kernel
theorem x120_19 {E : ME} {ls : MLs} {st : List MV} {g : MG} {μ : MU} {Q : Option MV → MG → MU → Prop} {l0 l1 : Option MV} {v : Int} : Wp E 120 19 (l0 :: l1 :: some (.inl v) :: ls) st g μ Q = Wp E 120 20 (l0 :: l1 :: some (.inl v) :: ls) (.inl v :: st) g μ Q := Wp_nx k120_19 rfl
theorem k120_20 : mCode 120 20 = some (.iaload, 1) := by decide +kernel
theorem x120_20 {E : ME} {ls : MLs} {st : List MV} {g : MG} {μ : MU} {Q : Option MV → MG → MU → Prop} {a : Nat} {j : Int} : Wp E 120 20 ls (.inl j :: .inr (.inr (.inl a)) :: st) g μ Q = (((mKd g a).1 = 10 ∧ 0 ≤ j ∧ j < (mKd g a).2) ∧ Wp E 120 21 ls (.inl (μ a j.toNat) :: st) g μ Q) := Wp_ald k120_20 (fun _ => rfl)
theorem k120_21 : mCode 120 21 = some (.iload_n 1, 1) := by decide +kernel
theorem x120_21 {E : ME} {ls : MLs} {st : List MV} {g : MG} {μ : MU} {Q : Option MV → MG → MU → Prop} {l0 : Option MV} {v : Int} : Wp E 120 21 (l0 :: some (.inl v) :: ls) st g μ Q = Wp E 120 22 (l0 :: some (.inl v) :: ls) (.inl v :: st) g μ Q := Wp_nx k120_21 rfl
theorem k120_22 : mCode 120 22 = some (.if_icmp .le 12, 3) := by decide +kernel
theorem x120_22 {E : ME} {ls : MLs} {st : List MV} {g : MG} {μ : MU} {Q : Option MV → MG → MU → Prop} {a b : Int} : Wp E 120 22 ls (.inl b :: .inl a :: st) g μ Q = ((a ≤ b → Wp E 120 34 ls st g μ Q) ∧ (b < a → Wp E 120 25 ls st g μ Q)) := Wp_cmp_le k120_22 (by decide)
theorem k120_25 : mCode 120 25 = some (.aload_n 0, 1) := by decide +kernel
theorem x120_25 {E : ME} {ls : MLs} {st : List MV} {g : MG} {μ : MU} {Q : Option MV → MG → MU → Prop} {v : Nat ⊕ Nat} : Wp E 120 25 (some (.inr (.inr v)) :: ls) st g μ Q = Wp E 120 26 (some (.inr (.inr v)) :: ls) (.inr (.inr v) :: st) g μ Q := Wp_nx k120_25 rfl
theorem k120_26 : mCode 120 26 = some (.getfield 29, 3) := by decide +kernel
theorem x120_26 {E : ME} {ls : MLs} {st : List MV} {g : MG} {μ : MU} {Q : Option MV → MG → MU → Prop} {a : Nat} : Wp E 120 26 ls (.inr (.inr (.inl a)) :: st) g μ Q = ((mKd g a).1 = 6 ∧ Wp E 120 29 ls (mRv (mRf g a 9) :: st) g μ Q) := Wp_getR k120_26 f6_29 (by decide) (by decide)
theorem k120_29 : mCode 120 29 = some (.iload_n 2, 1) := by decide +kernel
theorem x120_29 {E : ME} {ls : MLs} {st : List MV} {g : MG} {μ : MU} {Q : Option MV → MG → MU → Prop} {l0 l1 : Option MV} {v : Int} : Wp E 120 29 (l0 :: l1 :: some (.inl v) :: ls) st g μ Q = Wp E 120 30 (l0 :: l1 :: some (.inl v) :: ls) (.inl v :: st) g μ Q := Wp_nx k120_29 rfl
theorem k120_30 : mCode 120 30 = some (.iaload, 1) := by decide +kernel
theorem x120_30 {E : ME} {ls : MLs} {st : List MV} {g : MG} {μ : MU} {Q : Option MV → MG → MU → Prop} {a : Nat} {j : Int} : Wp E 120 30 ls (.inl j :: .inr (.inr (.inl a)) :: st) g μ Q = (((mKd g a).1 = 10 ∧ 0 ≤ j ∧ j < (mKd g a).2) ∧ Wp E 120 31 ls (.inl (μ a j.toNat) :: st) g μ Q) := Wp_ald k120_30 (fun _ => rfl)
theorem k120_31 : mCode 120 31 = some (.goto 4, 3) := by decide +kernel
theorem x120_31 {E : ME} {ls : MLs} {st : List MV} {g : MG} {μ : MU} {Q : Option MV → MG → MU → Prop} : Wp E 120 31 ls st g μ Q = Wp E 120 35 ls st g μ Q := Wp_goto k120_31 (by decide)
theorem k120_34 : mCode 120 34 = some (.iload_n 1, 1) := by decide +kernel
theorem x120_34 {E : ME} {ls : MLs} {st : List MV} {g : MG} {μ : MU} {Q : Option MV → MG → MU → Prop} {l0 : Option MV} {v : Int} : Wp E 120 34 (l0 :: some (.inl v) :: ls) st g μ Q = Wp E 120 35 (l0 :: some (.inl v) :: ls) (.inl v :: st) g μ Q := Wp_nx k120_34 rfl
theorem k120_35 : mCode 120 35 = some (.istore_n 1, 1) := by decide +kernel
theorem x120_35 {E : ME} {ls : MLs} {st : List MV} {g : MG} {μ : MU} {Q : Option MV → MG → MU → Prop} {l0 : Option MV} {lk : Option MV} {v : Int} : Wp E 120 35 (l0 :: lk :: ls) (.inl v :: st) g μ Q = ((mNl (some l0) = true ∧ mNl (some lk) = true) ∧ Wp E 120 36 (l0 :: some (.inl v) :: ls) st g μ Q) := Wp_sti k120_35 (fun _ => rfl) rfl rfl rfl
theorem k120_36 : mCode 120 36 = some (.iinc 2 1, 3) := by decide +kernel
theorem x120_36 {E : ME} {ls : MLs} {st : List MV} {g : MG} {μ : MU} {Q : Option MV → MG → MU → Prop} {l0 l1 : Option MV} {v : Int} : Wp E 120 36 (l0 :: l1 :: some (.inl v) :: ls) st g μ Q = (mNl (some l1) = true ∧ Wp E 120 39 (l0 :: l1 :: some (.inl (mWr (v + 1))) :: ls) st g μ Q) := Wp_inc k120_36 rfl rfl rfl
theorem k120_39 : mCode 120 39 = some (.goto (-35), 3) := by decide +kernel
theorem x120_39 {E : ME} {ls : MLs} {st : List MV} {g : MG} {μ : MU} {Q : Option MV → MG → MU → Prop} : Wp E 120 39 ls st g μ Q = Wp E 120 4 ls st g μ Q := Wp_goto k120_39 (by decide)
theorem k120_42 : mCode 120 42 = some (.iload_n 1, 1) := by decide +kernel
theorem x120_42 {E : ME} {ls : MLs} {st : List MV} {g : MG} {μ : MU} {Q : Option MV → MG → MU → Prop} {l0 : Option MV} {v : Int} : Wp E 120 42 (l0 :: some (.inl v) :: ls) st g μ Q = Wp E 120 43 (l0 :: some (.inl v) :: ls) (.inl v :: st) g μ Q := Wp_nx k120_42 rfl
theorem k120_43 : mCode 120 43 = some (.ireturn, 1) := by decide +kernel
theorem x120_43 {E : ME} {ls : MLs} {g : MG} {μ : MU} {Q : Option MV → MG → MU → Prop} {v : Int} : Wp E 120 43 ls [.inl v] g μ Q = Q (some (.inl v)) g μ := Wp_retI k120_43 (by decide)
theorem k121_0 : mCode 121 0 = some (.aload_n 0, 1) := by decide +kernel
theorem x121_0 {E : ME} {ls : MLs} {st : List MV} {g : MG} {μ : MU} {Q : Option MV → MG → MU → Prop} {v : Nat ⊕ Nat} : Wp E 121 0 (some (.inr (.inr v)) :: ls) st g μ Q = Wp E 121 1 (some (.inr (.inr v)) :: ls) (.inr (.inr v) :: st) g μ Q := Wp_nx k121_0 rfl
theorem k121_1 : mCode 121 1 = some (.iconst 0, 1) := by decide +kernel
theorem x121_1 {E : ME} {ls : MLs} {st : List MV} {g : MG} {μ : MU} {Q : Option MV → MG → MU → Prop} : Wp E 121 1 ls st g μ Q = Wp E 121 2 ls (.inl 0 :: st) g μ Q := Wp_nx k121_1 rfl
theorem k121_2 : mCode 121 2 = some (.putfield 65, 3) := by decide +kernel
theorem x121_2 {E : ME} {ls : MLs} {st : List MV} {g : MG} {μ : MU} {Q : Option MV → MG → MU → Prop} {a : Nat} {v : Int} : Wp E 121 2 ls (.inl v :: .inr (.inr (.inl a)) :: st) g μ Q = ((mKd g a).1 = 6 ∧ Wp E 121 5 ls st g (mUp μ a 0 v) Q) := Wp_putI0 k121_2 f6_65 (by decide) (by decide)
theorem k121_5 : mCode 121 5 = some (.aload_n 0, 1) := by decide +kernel
theorem x121_5 {E : ME} {ls : MLs} {st : List MV} {g : MG} {μ : MU} {Q : Option MV → MG → MU → Prop} {v : Nat ⊕ Nat} : Wp E 121 5 (some (.inr (.inr v)) :: ls) st g μ Q = Wp E 121 6 (some (.inr (.inr v)) :: ls) (.inr (.inr v) :: st) g μ Q := Wp_nx k121_5 rfl
theorem k121_6 : mCode 121 6 = some (.iconst 0, 1) := by decide +kernel
theorem x121_6 {E : ME} {ls : MLs} {st : List MV} {g : MG} {μ : MU} {Q : Option MV → MG → MU → Prop} : Wp E 121 6 ls st g μ Q = Wp E 121 7 ls (.inl 0 :: st) g μ Q := Wp_nx k121_6 rfl
theorem k121_7 : mCode 121 7 = some (.invokevirtual 164, 3) := by decide +kernel
theorem x121_7 {E : ME} {ls : MLs} {st : List MV} {g : MG} {μ : MU} {Q : Option MV → MG → MU → Prop} {r : Nat} {a0 : Int} : Wp E 121 7 ls (.inl a0 :: .inr (.inr (.inl r)) :: st) g μ Q = ((st.length ≤ 4 ∧ ((mKd g r).1 == 6) = true) ∧ Wp E 89 0 [some (.inr (.inr (.inl r))), some (.inl a0), none, none] [] g μ (fun r g' μ' => (g'.1 = g.1 ∧ g'.2.1 = g.2.1) ∧ Wp E 121 10 ls (mPush r st) g' μ' Q)) := Wp_cV k121_7 m6_164 (by decide) (as := [.inr (.inr (.inl r)), .inl a0]) rfl rfl rfl ⟨Nat.le_of_ble_eq_true rfl, by decide⟩
theorem k121_10 : mCode 121 10 = some (.iload_n 1, 1) := by decide +kernel
theorem x121_10 {E : ME} {ls : MLs} {st : List MV} {g : MG} {μ : MU} {Q : Option MV → MG → MU → Prop} {l0 : Option MV} {v : Int} : Wp E 121 10 (l0 :: some (.inl v) :: ls) st g μ Q = Wp E 121 11 (l0 :: some (.inl v) :: ls) (.inl v :: st) g μ Q := Wp_nx k121_10 rfl
theorem k121_11 : mCode 121 11 = some (.tableswitch 148 0 14 #[73, 80, 88, 98, 108, 113, 123, 133, 148, 148, 148, 148, 148, 138, 143], 73) := by decide +kernel
theorem x121_11_0 {E : ME} {ls : MLs} {st : List MV} {g : MG} {μ : MU} {Q : Option MV → MG → MU → Prop} : Wp E 121 11 ls (.inl 0 :: st) g μ Q = Wp E 121 84 ls st g μ Q := Wp_nx k121_11 rfl
theorem x121_11_1 {E : ME} {ls : MLs} {st : List MV} {g : MG} {μ : MU} {Q : Option MV → MG → MU → Prop} : Wp E 121 11 ls (.inl 1 :: st) g μ Q = Wp E 121 91 ls st g μ Q := Wp_nx k121_11 rfl
theorem x121_11_2 {E : ME} {ls : MLs} {st : List MV} {g : MG} {μ : MU} {Q : Option MV → MG → MU → Prop} : Wp E 121 11 ls (.inl 2 :: st) g μ Q = Wp E 121 99 ls st g μ Q := Wp_nx k121_11 rfl
theorem x121_11_3 {E : ME} {ls : MLs} {st : List MV} {g : MG} {μ : MU} {Q : Option MV → MG → MU → Prop} : Wp E 121 11 ls (.inl 3 :: st) g μ Q = Wp E 121 109 ls st g μ Q := Wp_nx k121_11 rfl
theorem x121_11_4 {E : ME} {ls : MLs} {st : List MV} {g : MG} {μ : MU} {Q : Option MV → MG → MU → Prop} : Wp E 121 11 ls (.inl 4 :: st) g μ Q = Wp E 121 119 ls st g μ Q := Wp_nx k121_11 rfl
theorem x121_11_5 {E : ME} {ls : MLs} {st : List MV} {g : MG} {μ : MU} {Q : Option MV → MG → MU → Prop} : Wp E 121 11 ls (.inl 5 :: st) g μ Q = Wp E 121 124 ls st g μ Q := Wp_nx k121_11 rfl
theorem x121_11_6 {E : ME} {ls : MLs} {st : List MV} {g : MG} {μ : MU} {Q : Option MV → MG → MU → Prop} : Wp E 121 11 ls (.inl 6 :: st) g μ Q = Wp E 121 134 ls st g μ Q := Wp_nx k121_11 rfl
theorem x121_11_7 {E : ME} {ls : MLs} {st : List MV} {g : MG} {μ : MU} {Q : Option MV → MG → MU → Prop} : Wp E 121 11 ls (.inl 7 :: st) g μ Q = Wp E 121 144 ls st g μ Q := Wp_nx k121_11 rfl
theorem x121_11_8 {E : ME} {ls : MLs} {st : List MV} {g : MG} {μ : MU} {Q : Option MV → MG → MU → Prop} : Wp E 121 11 ls (.inl 8 :: st) g μ Q = Wp E 121 159 ls st g μ Q := Wp_nx k121_11 rfl
theorem x121_11_9 {E : ME} {ls : MLs} {st : List MV} {g : MG} {μ : MU} {Q : Option MV → MG → MU → Prop} : Wp E 121 11 ls (.inl 9 :: st) g μ Q = Wp E 121 159 ls st g μ Q := Wp_nx k121_11 rfl
theorem x121_11_10 {E : ME} {ls : MLs} {st : List MV} {g : MG} {μ : MU} {Q : Option MV → MG → MU → Prop} : Wp E 121 11 ls (.inl 10 :: st) g μ Q = Wp E 121 159 ls st g μ Q := Wp_nx k121_11 rfl
theorem x121_11_11 {E : ME} {ls : MLs} {st : List MV} {g : MG} {μ : MU} {Q : Option MV → MG → MU → Prop} : Wp E 121 11 ls (.inl 11 :: st) g μ Q = Wp E 121 159 ls st g μ Q := Wp_nx k121_11 rfl
theorem x121_11_12 {E : ME} {ls : MLs} {st : List MV} {g : MG} {μ : MU} {Q : Option MV → MG → MU → Prop} : Wp E 121 11 ls (.inl 12 :: st) g μ Q = Wp E 121 159 ls st g μ Q := Wp_nx k121_11 rfl
theorem x121_11_13 {E : ME} {ls : MLs} {st : List MV} {g : MG} {μ : MU} {Q : Option MV → MG → MU → Prop} : Wp E 121 11 ls (.inl 13 :: st) g μ Q = Wp E 121 149 ls st g μ Q := Wp_nx k121_11 rfl
theorem x121_11_14 {E : ME} {ls : MLs} {st : List MV} {g : MG} {μ : MU} {Q : Option MV → MG → MU → Prop} : Wp E 121 11 ls (.inl 14 :: st) g μ Q = Wp E 121 154 ls st g μ Q := Wp_nx k121_11 rfl
theorem x121_11_d {E : ME} {ls : MLs} {st : List MV} {g : MG} {μ : MU} {Q : Option MV → MG → MU → Prop} {a : Int} (h : a < 0 ∨ 14 < a) : Wp E 121 11 ls (.inl a :: st) g μ Q = Wp E 121 159 ls st g μ Q := Wp_tswD k121_11 h (by decide)
theorem k121_84 : mCode 121 84 = some (.aload_n 0, 1) := by decide +kernel
theorem x121_84 {E : ME} {ls : MLs} {st : List MV} {g : MG} {μ : MU} {Q : Option MV → MG → MU → Prop} {v : Nat ⊕ Nat} : Wp E 121 84 (some (.inr (.inr v)) :: ls) st g μ Q = Wp E 121 85 (some (.inr (.inr v)) :: ls) (.inr (.inr v) :: st) g μ Q := Wp_nx k121_84 rfl
theorem k121_85 : mCode 121 85 = some (.getfield 7, 3) := by decide +kernel
theorem x121_85 {E : ME} {ls : MLs} {st : List MV} {g : MG} {μ : MU} {Q : Option MV → MG → MU → Prop} {a : Nat} : Wp E 121 85 ls (.inr (.inr (.inl a)) :: st) g μ Q = ((mKd g a).1 = 6 ∧ Wp E 121 88 ls (mRv (mRf g a 1) :: st) g μ Q) := Wp_getR k121_85 f6_7 (by decide) (by decide)
theorem k121_88 : mCode 121 88 = some (.iconst 5, 1) := by decide +kernel
theorem x121_88 {E : ME} {ls : MLs} {st : List MV} {g : MG} {μ : MU} {Q : Option MV → MG → MU → Prop} : Wp E 121 88 ls st g μ Q = Wp E 121 89 ls (.inl 5 :: st) g μ Q := Wp_nx k121_88 rfl
theorem k121_89 : mCode 121 89 = some (.iaload, 1) := by decide +kernel
theorem x121_89 {E : ME} {ls : MLs} {st : List MV} {g : MG} {μ : MU} {Q : Option MV → MG → MU → Prop} {a : Nat} {j : Int} : Wp E 121 89 ls (.inl j :: .inr (.inr (.inl a)) :: st) g μ Q = (((mKd g a).1 = 10 ∧ 0 ≤ j ∧ j < (mKd g a).2) ∧ Wp E 121 90 ls (.inl (μ a j.toNat) :: st) g μ Q) := Wp_ald k121_89 (fun _ => rfl)
theorem k121_90 : mCode 121 90 = some (.ireturn, 1) := by decide +kernel
theorem x121_90 {E : ME} {ls : MLs} {g : MG} {μ : MU} {Q : Option MV → MG → MU → Prop} {v : Int} : Wp E 121 90 ls [.inl v] g μ Q = Q (some (.inl v)) g μ := Wp_retI k121_90 (by decide)
theorem k121_91 : mCode 121 91 = some (.aload_n 0, 1) := by decide +kernel
theorem x121_91 {E : ME} {ls : MLs} {st : List MV} {g : MG} {μ : MU} {Q : Option MV → MG → MU → Prop} {v : Nat ⊕ Nat} : Wp E 121 91 (some (.inr (.inr v)) :: ls) st g μ Q = Wp E 121 92 (some (.inr (.inr v)) :: ls) (.inr (.inr v) :: st) g μ Q := Wp_nx k121_91 rfl
theorem k121_92 : mCode 121 92 = some (.getfield 7, 3) := by decide +kernel
theorem x121_92 {E : ME} {ls : MLs} {st : List MV} {g : MG} {μ : MU} {Q : Option MV → MG → MU → Prop} {a : Nat} : Wp E 121 92 ls (.inr (.inr (.inl a)) :: st) g μ Q = ((mKd g a).1 = 6 ∧ Wp E 121 95 ls (mRv (mRf g a 1) :: st) g μ Q) := Wp_getR k121_92 f6_7 (by decide) (by decide)
theorem k121_95 : mCode 121 95 = some (.bipush 6, 2) := by decide +kernel
theorem x121_95 {E : ME} {ls : MLs} {st : List MV} {g : MG} {μ : MU} {Q : Option MV → MG → MU → Prop} : Wp E 121 95 ls st g μ Q = Wp E 121 97 ls (.inl 6 :: st) g μ Q := Wp_nx k121_95 rfl
theorem k121_97 : mCode 121 97 = some (.iaload, 1) := by decide +kernel
theorem x121_97 {E : ME} {ls : MLs} {st : List MV} {g : MG} {μ : MU} {Q : Option MV → MG → MU → Prop} {a : Nat} {j : Int} : Wp E 121 97 ls (.inl j :: .inr (.inr (.inl a)) :: st) g μ Q = (((mKd g a).1 = 10 ∧ 0 ≤ j ∧ j < (mKd g a).2) ∧ Wp E 121 98 ls (.inl (μ a j.toNat) :: st) g μ Q) := Wp_ald k121_97 (fun _ => rfl)
theorem k121_98 : mCode 121 98 = some (.ireturn, 1) := by decide +kernel
theorem x121_98 {E : ME} {ls : MLs} {g : MG} {μ : MU} {Q : Option MV → MG → MU → Prop} {v : Int} : Wp E 121 98 ls [.inl v] g μ Q = Q (some (.inl v)) g μ := Wp_retI k121_98 (by decide)
theorem k121_99 : mCode 121 99 = some (.aload_n 0, 1) := by decide +kernel
theorem x121_99 {E : ME} {ls : MLs} {st : List MV} {g : MG} {μ : MU} {Q : Option MV → MG → MU → Prop} {v : Nat ⊕ Nat} : Wp E 121 99 (some (.inr (.inr v)) :: ls) st g μ Q = Wp E 121 100 (some (.inr (.inr v)) :: ls) (.inr (.inr v) :: st) g μ Q := Wp_nx k121_99 rfl
theorem k121_100 : mCode 121 100 = some (.bipush (-6), 2) := by decide +kernel
theorem x121_100 {E : ME} {ls : MLs} {st : List MV} {g : MG} {μ : MU} {Q : Option MV → MG → MU → Prop} : Wp E 121 100 ls st g μ Q = Wp E 121 102 ls (.inl (-6) :: st) g μ Q := Wp_nx k121_100 rfl
theorem k121_102 : mCode 121 102 = some (.bipush (-6), 2) := by decide +kernel
theorem x121_102 {E : ME} {ls : MLs} {st : List MV} {g : MG} {μ : MU} {Q : Option MV → MG → MU → Prop} : Wp E 121 102 ls st g μ Q = Wp E 121 104 ls (.inl (-6) :: st) g μ Q := Wp_nx k121_102 rfl
theorem k121_104 : mCode 121 104 = some (.iconst 3, 1) := by decide +kernel
theorem x121_104 {E : ME} {ls : MLs} {st : List MV} {g : MG} {μ : MU} {Q : Option MV → MG → MU → Prop} : Wp E 121 104 ls st g μ Q = Wp E 121 105 ls (.inl 3 :: st) g μ Q := Wp_nx k121_104 rfl
theorem k121_105 : mCode 121 105 = some (.invokevirtual 167, 3) := by decide +kernel
theorem x121_105 {E : ME} {ls : MLs} {st : List MV} {g : MG} {μ : MU} {Q : Option MV → MG → MU → Prop} {r : Nat} {a0 : Int} {a1 : Int} {a2 : Int} : Wp E 121 105 ls (.inl a2 :: .inl a1 :: .inl a0 :: .inr (.inr (.inl r)) :: st) g μ Q = ((st.length ≤ 4 ∧ ((mKd g r).1 == 6) = true) ∧ Wp E 112 0 [some (.inr (.inr (.inl r))), some (.inl a0), some (.inl a1), some (.inl a2), none, none, none, none] [] g μ (fun r g' μ' => (g'.1 = g.1 ∧ g'.2.1 = g.2.1) ∧ Wp E 121 108 ls (mPush r st) g' μ' Q)) := Wp_cV k121_105 m6_167 (by decide) (as := [.inr (.inr (.inl r)), .inl a0, .inl a1, .inl a2]) rfl rfl rfl ⟨Nat.le_of_ble_eq_true rfl, by decide⟩
theorem k121_108 : mCode 121 108 = some (.ireturn, 1) := by decide +kernel
theorem x121_108 {E : ME} {ls : MLs} {g : MG} {μ : MU} {Q : Option MV → MG → MU → Prop} {v : Int} : Wp E 121 108 ls [.inl v] g μ Q = Q (some (.inl v)) g μ := Wp_retI k121_108 (by decide)
theorem k121_109 : mCode 121 109 = some (.aload_n 0, 1) := by decide +kernel
theorem x121_109 {E : ME} {ls : MLs} {st : List MV} {g : MG} {μ : MU} {Q : Option MV → MG → MU → Prop} {v : Nat ⊕ Nat} : Wp E 121 109 (some (.inr (.inr v)) :: ls) st g μ Q = Wp E 121 110 (some (.inr (.inr v)) :: ls) (.inr (.inr v) :: st) g μ Q := Wp_nx k121_109 rfl
theorem k121_110 : mCode 121 110 = some (.bipush (-6), 2) := by decide +kernel
theorem x121_110 {E : ME} {ls : MLs} {st : List MV} {g : MG} {μ : MU} {Q : Option MV → MG → MU → Prop} : Wp E 121 110 ls st g μ Q = Wp E 121 112 ls (.inl (-6) :: st) g μ Q := Wp_nx k121_110 rfl
theorem k121_112 : mCode 121 112 = some (.bipush (-6), 2) := by decide +kernel
theorem x121_112 {E : ME} {ls : MLs} {st : List MV} {g : MG} {μ : MU} {Q : Option MV → MG → MU → Prop} : Wp E 121 112 ls st g μ Q = Wp E 121 114 ls (.inl (-6) :: st) g μ Q := Wp_nx k121_112 rfl
theorem k121_114 : mCode 121 114 = some (.iconst 4, 1) := by decide +kernel
theorem x121_114 {E : ME} {ls : MLs} {st : List MV} {g : MG} {μ : MU} {Q : Option MV → MG → MU → Prop} : Wp E 121 114 ls st g μ Q = Wp E 121 115 ls (.inl 4 :: st) g μ Q := Wp_nx k121_114 rfl
theorem k121_115 : mCode 121 115 = some (.invokevirtual 167, 3) := by decide +kernel
theorem x121_115 {E : ME} {ls : MLs} {st : List MV} {g : MG} {μ : MU} {Q : Option MV → MG → MU → Prop} {r : Nat} {a0 : Int} {a1 : Int} {a2 : Int} : Wp E 121 115 ls (.inl a2 :: .inl a1 :: .inl a0 :: .inr (.inr (.inl r)) :: st) g μ Q = ((st.length ≤ 4 ∧ ((mKd g r).1 == 6) = true) ∧ Wp E 112 0 [some (.inr (.inr (.inl r))), some (.inl a0), some (.inl a1), some (.inl a2), none, none, none, none] [] g μ (fun r g' μ' => (g'.1 = g.1 ∧ g'.2.1 = g.2.1) ∧ Wp E 121 118 ls (mPush r st) g' μ' Q)) := Wp_cV k121_115 m6_167 (by decide) (as := [.inr (.inr (.inl r)), .inl a0, .inl a1, .inl a2]) rfl rfl rfl ⟨Nat.le_of_ble_eq_true rfl, by decide⟩
theorem k121_118 : mCode 121 118 = some (.ireturn, 1) := by decide +kernel
theorem x121_118 {E : ME} {ls : MLs} {g : MG} {μ : MU} {Q : Option MV → MG → MU → Prop} {v : Int} : Wp E 121 118 ls [.inl v] g μ Q = Q (some (.inl v)) g μ := Wp_retI k121_118 (by decide)
theorem k121_119 : mCode 121 119 = some (.aload_n 0, 1) := by decide +kernel
theorem x121_119 {E : ME} {ls : MLs} {st : List MV} {g : MG} {μ : MU} {Q : Option MV → MG → MU → Prop} {v : Nat ⊕ Nat} : Wp E 121 119 (some (.inr (.inr v)) :: ls) st g μ Q = Wp E 121 120 (some (.inr (.inr v)) :: ls) (.inr (.inr v) :: st) g μ Q := Wp_nx k121_119 rfl
theorem k121_120 : mCode 121 120 = some (.invokevirtual 176, 3) := by decide +kernel
theorem x121_120 {E : ME} {ls : MLs} {st : List MV} {g : MG} {μ : MU} {Q : Option MV → MG → MU → Prop} {r : Nat} : Wp E 121 120 ls (.inr (.inr (.inl r)) :: st) g μ Q = ((st.length ≤ 4 ∧ ((mKd g r).1 == 6) = true) ∧ Wp E 119 0 [some (.inr (.inr (.inl r))), none, none] [] g μ (fun r g' μ' => (g'.1 = g.1 ∧ g'.2.1 = g.2.1) ∧ Wp E 121 123 ls (mPush r st) g' μ' Q)) := Wp_cV k121_120 m6_176 (by decide) (as := [.inr (.inr (.inl r))]) rfl rfl rfl ⟨Nat.le_of_ble_eq_true rfl, by decide⟩
theorem k121_123 : mCode 121 123 = some (.ireturn, 1) := by decide +kernel
theorem x121_123 {E : ME} {ls : MLs} {g : MG} {μ : MU} {Q : Option MV → MG → MU → Prop} {v : Int} : Wp E 121 123 ls [.inl v] g μ Q = Q (some (.inl v)) g μ := Wp_retI k121_123 (by decide)
theorem k121_124 : mCode 121 124 = some (.aload_n 0, 1) := by decide +kernel
theorem x121_124 {E : ME} {ls : MLs} {st : List MV} {g : MG} {μ : MU} {Q : Option MV → MG → MU → Prop} {v : Nat ⊕ Nat} : Wp E 121 124 (some (.inr (.inr v)) :: ls) st g μ Q = Wp E 121 125 (some (.inr (.inr v)) :: ls) (.inr (.inr v) :: st) g μ Q := Wp_nx k121_124 rfl
theorem k121_125 : mCode 121 125 = some (.bipush (-6), 2) := by decide +kernel
theorem x121_125 {E : ME} {ls : MLs} {st : List MV} {g : MG} {μ : MU} {Q : Option MV → MG → MU → Prop} : Wp E 121 125 ls st g μ Q = Wp E 121 127 ls (.inl (-6) :: st) g μ Q := Wp_nx k121_125 rfl
theorem k121_127 : mCode 121 127 = some (.bipush (-6), 2) := by decide +kernel
theorem x121_127 {E : ME} {ls : MLs} {st : List MV} {g : MG} {μ : MU} {Q : Option MV → MG → MU → Prop} : Wp E 121 127 ls st g μ Q = Wp E 121 129 ls (.inl (-6) :: st) g μ Q := Wp_nx k121_127 rfl
theorem k121_129 : mCode 121 129 = some (.iconst 1, 1) := by decide +kernel
theorem x121_129 {E : ME} {ls : MLs} {st : List MV} {g : MG} {μ : MU} {Q : Option MV → MG → MU → Prop} : Wp E 121 129 ls st g μ Q = Wp E 121 130 ls (.inl 1 :: st) g μ Q := Wp_nx k121_129 rfl
theorem k121_130 : mCode 121 130 = some (.invokevirtual 167, 3) := by decide +kernel
theorem x121_130 {E : ME} {ls : MLs} {st : List MV} {g : MG} {μ : MU} {Q : Option MV → MG → MU → Prop} {r : Nat} {a0 : Int} {a1 : Int} {a2 : Int} : Wp E 121 130 ls (.inl a2 :: .inl a1 :: .inl a0 :: .inr (.inr (.inl r)) :: st) g μ Q = ((st.length ≤ 4 ∧ ((mKd g r).1 == 6) = true) ∧ Wp E 112 0 [some (.inr (.inr (.inl r))), some (.inl a0), some (.inl a1), some (.inl a2), none, none, none, none] [] g μ (fun r g' μ' => (g'.1 = g.1 ∧ g'.2.1 = g.2.1) ∧ Wp E 121 133 ls (mPush r st) g' μ' Q)) := Wp_cV k121_130 m6_167 (by decide) (as := [.inr (.inr (.inl r)), .inl a0, .inl a1, .inl a2]) rfl rfl rfl ⟨Nat.le_of_ble_eq_true rfl, by decide⟩
theorem k121_133 : mCode 121 133 = some (.ireturn, 1) := by decide +kernel
theorem x121_133 {E : ME} {ls : MLs} {g : MG} {μ : MU} {Q : Option MV → MG → MU → Prop} {v : Int} : Wp E 121 133 ls [.inl v] g μ Q = Q (some (.inl v)) g μ := Wp_retI k121_133 (by decide)
theorem k121_134 : mCode 121 134 = some (.aload_n 0, 1) := by decide +kernel
theorem x121_134 {E : ME} {ls : MLs} {st : List MV} {g : MG} {μ : MU} {Q : Option MV → MG → MU → Prop} {v : Nat ⊕ Nat} : Wp E 121 134 (some (.inr (.inr v)) :: ls) st g μ Q = Wp E 121 135 (some (.inr (.inr v)) :: ls) (.inr (.inr v) :: st) g μ Q := Wp_nx k121_134 rfl
theorem k121_135 : mCode 121 135 = some (.bipush (-6), 2) := by decide +kernel
theorem x121_135 {E : ME} {ls : MLs} {st : List MV} {g : MG} {μ : MU} {Q : Option MV → MG → MU → Prop} : Wp E 121 135 ls st g μ Q = Wp E 121 137 ls (.inl (-6) :: st) g μ Q := Wp_nx k121_135 rfl
theorem k121_137 : mCode 121 137 = some (.bipush (-6), 2) := by decide +kernel
theorem x121_137 {E : ME} {ls : MLs} {st : List MV} {g : MG} {μ : MU} {Q : Option MV → MG → MU → Prop} : Wp E 121 137 ls st g μ Q = Wp E 121 139 ls (.inl (-6) :: st) g μ Q := Wp_nx k121_137 rfl
theorem k121_139 : mCode 121 139 = some (.iconst 2, 1) := by decide +kernel
theorem x121_139 {E : ME} {ls : MLs} {st : List MV} {g : MG} {μ : MU} {Q : Option MV → MG → MU → Prop} : Wp E 121 139 ls st g μ Q = Wp E 121 140 ls (.inl 2 :: st) g μ Q := Wp_nx k121_139 rfl
theorem k121_140 : mCode 121 140 = some (.invokevirtual 167, 3) := by decide +kernel
theorem x121_140 {E : ME} {ls : MLs} {st : List MV} {g : MG} {μ : MU} {Q : Option MV → MG → MU → Prop} {r : Nat} {a0 : Int} {a1 : Int} {a2 : Int} : Wp E 121 140 ls (.inl a2 :: .inl a1 :: .inl a0 :: .inr (.inr (.inl r)) :: st) g μ Q = ((st.length ≤ 4 ∧ ((mKd g r).1 == 6) = true) ∧ Wp E 112 0 [some (.inr (.inr (.inl r))), some (.inl a0), some (.inl a1), some (.inl a2), none, none, none, none] [] g μ (fun r g' μ' => (g'.1 = g.1 ∧ g'.2.1 = g.2.1) ∧ Wp E 121 143 ls (mPush r st) g' μ' Q)) := Wp_cV k121_140 m6_167 (by decide) (as := [.inr (.inr (.inl r)), .inl a0, .inl a1, .inl a2]) rfl rfl rfl ⟨Nat.le_of_ble_eq_true rfl, by decide⟩
theorem k121_143 : mCode 121 143 = some (.ireturn, 1) := by decide +kernel
theorem x121_143 {E : ME} {ls : MLs} {g : MG} {μ : MU} {Q : Option MV → MG → MU → Prop} {v : Int} : Wp E 121 143 ls [.inl v] g μ Q = Q (some (.inl v)) g μ := Wp_retI k121_143 (by decide)
theorem k121_144 : mCode 121 144 = some (.aload_n 0, 1) := by decide +kernel
theorem x121_144 {E : ME} {ls : MLs} {st : List MV} {g : MG} {μ : MU} {Q : Option MV → MG → MU → Prop} {v : Nat ⊕ Nat} : Wp E 121 144 (some (.inr (.inr v)) :: ls) st g μ Q = Wp E 121 145 (some (.inr (.inr v)) :: ls) (.inr (.inr v) :: st) g μ Q := Wp_nx k121_144 rfl
theorem k121_145 : mCode 121 145 = some (.invokevirtual 180, 3) := by decide +kernel
theorem x121_145 {E : ME} {ls : MLs} {st : List MV} {g : MG} {μ : MU} {Q : Option MV → MG → MU → Prop} {r : Nat} : Wp E 121 145 ls (.inr (.inr (.inl r)) :: st) g μ Q = ((st.length ≤ 4 ∧ ((mKd g r).1 == 6) = true) ∧ Wp E 120 0 [some (.inr (.inr (.inl r))), none, none] [] g μ (fun r g' μ' => (g'.1 = g.1 ∧ g'.2.1 = g.2.1) ∧ Wp E 121 148 ls (mPush r st) g' μ' Q)) := Wp_cV k121_145 m6_180 (by decide) (as := [.inr (.inr (.inl r))]) rfl rfl rfl ⟨Nat.le_of_ble_eq_true rfl, by decide⟩
theorem k121_148 : mCode 121 148 = some (.ireturn, 1) := by decide +kernel
theorem x121_148 {E : ME} {ls : MLs} {g : MG} {μ : MU} {Q : Option MV → MG → MU → Prop} {v : Int} : Wp E 121 148 ls [.inl v] g μ Q = Q (some (.inl v)) g μ := Wp_retI k121_148 (by decide)
theorem k121_149 : mCode 121 149 = some (.aload_n 0, 1) := by decide +kernel
theorem x121_149 {E : ME} {ls : MLs} {st : List MV} {g : MG} {μ : MU} {Q : Option MV → MG → MU → Prop} {v : Nat ⊕ Nat} : Wp E 121 149 (some (.inr (.inr v)) :: ls) st g μ Q = Wp E 121 150 (some (.inr (.inr v)) :: ls) (.inr (.inr v) :: st) g μ Q := Wp_nx k121_149 rfl
theorem k121_150 : mCode 121 150 = some (.getfield 183, 3) := by decide +kernel
theorem x121_150 {E : ME} {ls : MLs} {st : List MV} {g : MG} {μ : MU} {Q : Option MV → MG → MU → Prop} {a : Nat} : Wp E 121 150 ls (.inr (.inr (.inl a)) :: st) g μ Q = ((mKd g a).1 = 6 ∧ Wp E 121 153 ls (.inl (μ a 7) :: st) g μ Q) := Wp_getI k121_150 f6_183 (by decide) (by decide)
theorem k121_153 : mCode 121 153 = some (.ireturn, 1) := by decide +kernel
theorem x121_153 {E : ME} {ls : MLs} {g : MG} {μ : MU} {Q : Option MV → MG → MU → Prop} {v : Int} : Wp E 121 153 ls [.inl v] g μ Q = Q (some (.inl v)) g μ := Wp_retI k121_153 (by decide)
theorem k121_154 : mCode 121 154 = some (.aload_n 0, 1) := by decide +kernel
theorem x121_154 {E : ME} {ls : MLs} {st : List MV} {g : MG} {μ : MU} {Q : Option MV → MG → MU → Prop} {v : Nat ⊕ Nat} : Wp E 121 154 (some (.inr (.inr v)) :: ls) st g μ Q = Wp E 121 155 (some (.inr (.inr v)) :: ls) (.inr (.inr v) :: st) g μ Q := Wp_nx k121_154 rfl
theorem k121_155 : mCode 121 155 = some (.getfield 81, 3) := by decide +kernel
theorem x121_155 {E : ME} {ls : MLs} {st : List MV} {g : MG} {μ : MU} {Q : Option MV → MG → MU → Prop} {a : Nat} : Wp E 121 155 ls (.inr (.inr (.inl a)) :: st) g μ Q = ((mKd g a).1 = 6 ∧ Wp E 121 158 ls (.inl (μ a 3) :: st) g μ Q) := Wp_getI k121_155 f6_81 (by decide) (by decide)
theorem k121_158 : mCode 121 158 = some (.ireturn, 1) := by decide +kernel
theorem x121_158 {E : ME} {ls : MLs} {g : MG} {μ : MU} {Q : Option MV → MG → MU → Prop} {v : Int} : Wp E 121 158 ls [.inl v] g μ Q = Q (some (.inl v)) g μ := Wp_retI k121_158 (by decide)
theorem k121_159 : mCode 121 159 = some (.iload_n 1, 1) := by decide +kernel
theorem x121_159 {E : ME} {ls : MLs} {st : List MV} {g : MG} {μ : MU} {Q : Option MV → MG → MU → Prop} {l0 : Option MV} {v : Int} : Wp E 121 159 (l0 :: some (.inl v) :: ls) st g μ Q = Wp E 121 160 (l0 :: some (.inl v) :: ls) (.inl v :: st) g μ Q := Wp_nx k121_159 rfl
theorem k121_160 : mCode 121 160 = some (.bipush 8, 2) := by decide +kernel
theorem x121_160 {E : ME} {ls : MLs} {st : List MV} {g : MG} {μ : MU} {Q : Option MV → MG → MU → Prop} : Wp E 121 160 ls st g μ Q = Wp E 121 162 ls (.inl 8 :: st) g μ Q := Wp_nx k121_160 rfl
theorem k121_162 : mCode 121 162 = some (.bipush 12, 2) := by decide +kernel
theorem x121_162 {E : ME} {ls : MLs} {st : List MV} {g : MG} {μ : MU} {Q : Option MV → MG → MU → Prop} : Wp E 121 162 ls st g μ Q = Wp E 121 164 ls (.inl 12 :: st) g μ Q := Wp_nx k121_162 rfl
theorem k121_164 : mCode 121 164 = some (.invokestatic 69, 3) := by decide +kernel
theorem x121_164 {E : ME} {ls : MLs} {st : List MV} {g : MG} {μ : MU} {Q : Option MV → MG → MU → Prop} {a0 : Int} {a1 : Int} {a2 : Int} : Wp E 121 164 ls (.inl a2 :: .inl a1 :: .inl a0 :: st) g μ Q = (st.length ≤ 4 ∧ Wp E 77 0 [some (.inl a0), some (.inl a1), some (.inl a2)] [] g μ (fun r g' μ' => (g'.1 = g.1 ∧ g'.2.1 = g.2.1) ∧ Wp E 121 167 ls (mPush r st) g' μ' Q)) := Wp_cS k121_164 m6_69 (by decide) (as := [.inl a0, .inl a1, .inl a2]) rfl rfl rfl ⟨Nat.le_of_ble_eq_true rfl, by decide⟩
theorem k121_167 : mCode 121 167 = some (.ifCond .eq 15, 3) := by decide +kernel
theorem x121_167 {E : ME} {ls : MLs} {st : List MV} {g : MG} {μ : MU} {Q : Option MV → MG → MU → Prop} {a : Int} : Wp E 121 167 ls (.inl a :: st) g μ Q = ((a = 0 → Wp E 121 182 ls st g μ Q) ∧ (¬ a = 0 → Wp E 121 170 ls st g μ Q)) := Wp_if_eq k121_167 (by decide)
theorem k121_170 : mCode 121 170 = some (.aload_n 0, 1) := by decide +kernel
theorem x121_170 {E : ME} {ls : MLs} {st : List MV} {g : MG} {μ : MU} {Q : Option MV → MG → MU → Prop} {v : Nat ⊕ Nat} : Wp E 121 170 (some (.inr (.inr v)) :: ls) st g μ Q = Wp E 121 171 (some (.inr (.inr v)) :: ls) (.inr (.inr v) :: st) g μ Q := Wp_nx k121_170 rfl
theorem k121_171 : mCode 121 171 = some (.getfield 7, 3) := by decide +kernel
theorem x121_171 {E : ME} {ls : MLs} {st : List MV} {g : MG} {μ : MU} {Q : Option MV → MG → MU → Prop} {a : Nat} : Wp E 121 171 ls (.inr (.inr (.inl a)) :: st) g μ Q = ((mKd g a).1 = 6 ∧ Wp E 121 174 ls (mRv (mRf g a 1) :: st) g μ Q) := Wp_getR k121_171 f6_7 (by decide) (by decide)
theorem k121_174 : mCode 121 174 = some (.iload_n 1, 1) := by decide +kernel
theorem x121_174 {E : ME} {ls : MLs} {st : List MV} {g : MG} {μ : MU} {Q : Option MV → MG → MU → Prop} {l0 : Option MV} {v : Int} : Wp E 121 174 (l0 :: some (.inl v) :: ls) st g μ Q = Wp E 121 175 (l0 :: some (.inl v) :: ls) (.inl v :: st) g μ Q := Wp_nx k121_174 rfl
theorem k121_175 : mCode 121 175 = some (.bipush 8, 2) := by decide +kernel
theorem x121_175 {E : ME} {ls : MLs} {st : List MV} {g : MG} {μ : MU} {Q : Option MV → MG → MU → Prop} : Wp E 121 175 ls st g μ Q = Wp E 121 177 ls (.inl 8 :: st) g μ Q := Wp_nx k121_175 rfl
theorem k121_177 : mCode 121 177 = some (.isub, 1) := by decide +kernel
theorem x121_177 {E : ME} {ls : MLs} {st : List MV} {g : MG} {μ : MU} {Q : Option MV → MG → MU → Prop} {a b : Int} : Wp E 121 177 ls (.inl b :: .inl a :: st) g μ Q = Wp E 121 178 ls (.inl (mWr (a - b)) :: st) g μ Q := Wp_nx k121_177 rfl
theorem k121_178 : mCode 121 178 = some (.iaload, 1) := by decide +kernel
theorem x121_178 {E : ME} {ls : MLs} {st : List MV} {g : MG} {μ : MU} {Q : Option MV → MG → MU → Prop} {a : Nat} {j : Int} : Wp E 121 178 ls (.inl j :: .inr (.inr (.inl a)) :: st) g μ Q = (((mKd g a).1 = 10 ∧ 0 ≤ j ∧ j < (mKd g a).2) ∧ Wp E 121 179 ls (.inl (μ a j.toNat) :: st) g μ Q) := Wp_ald k121_178 (fun _ => rfl)
theorem k121_179 : mCode 121 179 = some (.goto 5, 3) := by decide +kernel
theorem x121_179 {E : ME} {ls : MLs} {st : List MV} {g : MG} {μ : MU} {Q : Option MV → MG → MU → Prop} : Wp E 121 179 ls st g μ Q = Wp E 121 184 ls st g μ Q := Wp_goto k121_179 (by decide)
theorem k121_182 : mCode 121 182 = some (.bipush (-2), 2) := by decide +kernel
theorem x121_182 {E : ME} {ls : MLs} {st : List MV} {g : MG} {μ : MU} {Q : Option MV → MG → MU → Prop} : Wp E 121 182 ls st g μ Q = Wp E 121 184 ls (.inl (-2) :: st) g μ Q := Wp_nx k121_182 rfl
theorem k121_184 : mCode 121 184 = some (.ireturn, 1) := by decide +kernel
theorem x121_184 {E : ME} {ls : MLs} {g : MG} {μ : MU} {Q : Option MV → MG → MU → Prop} {v : Int} : Wp E 121 184 ls [.inl v] g μ Q = Q (some (.inl v)) g μ := Wp_retI k121_184 (by decide)
theorem k122_0 : mCode 122 0 = some (.aload_n 0, 1) := by decide +kernel
theorem x122_0 {E : ME} {ls : MLs} {st : List MV} {g : MG} {μ : MU} {Q : Option MV → MG → MU → Prop} {v : Nat ⊕ Nat} : Wp E 122 0 (some (.inr (.inr v)) :: ls) st g μ Q = Wp E 122 1 (some (.inr (.inr v)) :: ls) (.inr (.inr v) :: st) g μ Q := Wp_nx k122_0 rfl
theorem k122_1 : mCode 122 1 = some (.iconst 0, 1) := by decide +kernel
theorem x122_1 {E : ME} {ls : MLs} {st : List MV} {g : MG} {μ : MU} {Q : Option MV → MG → MU → Prop} : Wp E 122 1 ls st g μ Q = Wp E 122 2 ls (.inl 0 :: st) g μ Q := Wp_nx k122_1 rfl
theorem k122_2 : mCode 122 2 = some (.putfield 65, 3) := by decide +kernel
theorem x122_2 {E : ME} {ls : MLs} {st : List MV} {g : MG} {μ : MU} {Q : Option MV → MG → MU → Prop} {a : Nat} {v : Int} : Wp E 122 2 ls (.inl v :: .inr (.inr (.inl a)) :: st) g μ Q = ((mKd g a).1 = 6 ∧ Wp E 122 5 ls st g (mUp μ a 0 v) Q) := Wp_putI0 k122_2 f6_65 (by decide) (by decide)
theorem k122_5 : mCode 122 5 = some (.iload_n 1, 1) := by decide +kernel
theorem x122_5 {E : ME} {ls : MLs} {st : List MV} {g : MG} {μ : MU} {Q : Option MV → MG → MU → Prop} {l0 : Option MV} {v : Int} : Wp E 122 5 (l0 :: some (.inl v) :: ls) st g μ Q = Wp E 122 6 (l0 :: some (.inl v) :: ls) (.inl v :: st) g μ Q := Wp_nx k122_5 rfl
theorem k122_6 : mCode 122 6 = some (.invokestatic 124, 3) := by decide +kernel
theorem x122_6 {E : ME} {ls : MLs} {st : List MV} {g : MG} {μ : MU} {Q : Option MV → MG → MU → Prop} {a0 : Int} : Wp E 122 6 ls (.inl a0 :: st) g μ Q = (st.length ≤ 4 ∧ Wp E 82 0 [some (.inl a0)] [] g μ (fun r g' μ' => (g'.1 = g.1 ∧ g'.2.1 = g.2.1) ∧ Wp E 122 9 ls (mPush r st) g' μ' Q)) := Wp_cS k122_6 m6_124 (by decide) (as := [.inl a0]) rfl rfl rfl ⟨Nat.le_of_ble_eq_true rfl, by decide⟩
theorem k122_9 : mCode 122 9 = some (.ifCond .ne 5, 3) := by decide +kernel
theorem x122_9 {E : ME} {ls : MLs} {st : List MV} {g : MG} {μ : MU} {Q : Option MV → MG → MU → Prop} {a : Int} : Wp E 122 9 ls (.inl a :: st) g μ Q = ((¬ a = 0 → Wp E 122 14 ls st g μ Q) ∧ (a = 0 → Wp E 122 12 ls st g μ Q)) := Wp_if_ne k122_9 (by decide)
theorem k122_12 : mCode 122 12 = some (.iconst (-1), 1) := by decide +kernel
theorem x122_12 {E : ME} {ls : MLs} {st : List MV} {g : MG} {μ : MU} {Q : Option MV → MG → MU → Prop} : Wp E 122 12 ls st g μ Q = Wp E 122 13 ls (.inl (-1) :: st) g μ Q := Wp_nx k122_12 rfl
theorem k122_13 : mCode 122 13 = some (.ireturn, 1) := by decide +kernel
theorem x122_13 {E : ME} {ls : MLs} {g : MG} {μ : MU} {Q : Option MV → MG → MU → Prop} {v : Int} : Wp E 122 13 ls [.inl v] g μ Q = Q (some (.inl v)) g μ := Wp_retI k122_13 (by decide)
theorem k122_14 : mCode 122 14 = some (.aload_n 0, 1) := by decide +kernel
theorem x122_14 {E : ME} {ls : MLs} {st : List MV} {g : MG} {μ : MU} {Q : Option MV → MG → MU → Prop} {v : Nat ⊕ Nat} : Wp E 122 14 (some (.inr (.inr v)) :: ls) st g μ Q = Wp E 122 15 (some (.inr (.inr v)) :: ls) (.inr (.inr v) :: st) g μ Q := Wp_nx k122_14 rfl
theorem k122_15 : mCode 122 15 = some (.iconst 0, 1) := by decide +kernel
theorem x122_15 {E : ME} {ls : MLs} {st : List MV} {g : MG} {μ : MU} {Q : Option MV → MG → MU → Prop} : Wp E 122 15 ls st g μ Q = Wp E 122 16 ls (.inl 0 :: st) g μ Q := Wp_nx k122_15 rfl
theorem k122_16 : mCode 122 16 = some (.invokevirtual 164, 3) := by decide +kernel
theorem x122_16 {E : ME} {ls : MLs} {st : List MV} {g : MG} {μ : MU} {Q : Option MV → MG → MU → Prop} {r : Nat} {a0 : Int} : Wp E 122 16 ls (.inl a0 :: .inr (.inr (.inl r)) :: st) g μ Q = ((st.length ≤ 4 ∧ ((mKd g r).1 == 6) = true) ∧ Wp E 89 0 [some (.inr (.inr (.inl r))), some (.inl a0), none, none] [] g μ (fun r g' μ' => (g'.1 = g.1 ∧ g'.2.1 = g.2.1) ∧ Wp E 122 19 ls (mPush r st) g' μ' Q)) := Wp_cV k122_16 m6_164 (by decide) (as := [.inr (.inr (.inl r)), .inl a0]) rfl rfl rfl ⟨Nat.le_of_ble_eq_true rfl, by decide⟩
theorem k122_19 : mCode 122 19 = some (.iload_n 2, 1) := by decide +kernel
theorem x122_19 {E : ME} {ls : MLs} {st : List MV} {g : MG} {μ : MU} {Q : Option MV → MG → MU → Prop} {l0 l1 : Option MV} {v : Int} : Wp E 122 19 (l0 :: l1 :: some (.inl v) :: ls) st g μ Q = Wp E 122 20 (l0 :: l1 :: some (.inl v) :: ls) (.inl v :: st) g μ Q := Wp_nx k122_19 rfl
theorem k122_20 : mCode 122 20 = some (.iconst 0, 1) := by decide +kernel
theorem x122_20 {E : ME} {ls : MLs} {st : List MV} {g : MG} {μ : MU} {Q : Option MV → MG → MU → Prop} : Wp E 122 20 ls st g μ Q = Wp E 122 21 ls (.inl 0 :: st) g μ Q := Wp_nx k122_20 rfl
theorem k122_21 : mCode 122 21 = some (.iconst 3, 1) := by decide +kernel
theorem x122_21 {E : ME} {ls : MLs} {st : List MV} {g : MG} {μ : MU} {Q : Option MV → MG → MU → Prop} : Wp E 122 21 ls st g μ Q = Wp E 122 22 ls (.inl 3 :: st) g μ Q := Wp_nx k122_21 rfl
theorem k122_22 : mCode 122 22 = some (.invokestatic 69, 3) := by decide +kernel
theorem x122_22 {E : ME} {ls : MLs} {st : List MV} {g : MG} {μ : MU} {Q : Option MV → MG → MU → Prop} {a0 : Int} {a1 : Int} {a2 : Int} : Wp E 122 22 ls (.inl a2 :: .inl a1 :: .inl a0 :: st) g μ Q = (st.length ≤ 4 ∧ Wp E 77 0 [some (.inl a0), some (.inl a1), some (.inl a2)] [] g μ (fun r g' μ' => (g'.1 = g.1 ∧ g'.2.1 = g.2.1) ∧ Wp E 122 25 ls (mPush r st) g' μ' Q)) := Wp_cS k122_22 m6_69 (by decide) (as := [.inl a0, .inl a1, .inl a2]) rfl rfl rfl ⟨Nat.le_of_ble_eq_true rfl, by decide⟩
theorem k122_25 : mCode 122 25 = some (.ifCond .eq 14, 3) := by decide +kernel
theorem x122_25 {E : ME} {ls : MLs} {st : List MV} {g : MG} {μ : MU} {Q : Option MV → MG → MU → Prop} {a : Int} : Wp E 122 25 ls (.inl a :: st) g μ Q = ((a = 0 → Wp E 122 39 ls st g μ Q) ∧ (¬ a = 0 → Wp E 122 28 ls st g μ Q)) := Wp_if_eq k122_25 (by decide)
theorem k122_28 : mCode 122 28 = some (.aload_n 0, 1) := by decide +kernel
theorem x122_28 {E : ME} {ls : MLs} {st : List MV} {g : MG} {μ : MU} {Q : Option MV → MG → MU → Prop} {v : Nat ⊕ Nat} : Wp E 122 28 (some (.inr (.inr v)) :: ls) st g μ Q = Wp E 122 29 (some (.inr (.inr v)) :: ls) (.inr (.inr v) :: st) g μ Q := Wp_nx k122_28 rfl
theorem k122_29 : mCode 122 29 = some (.bipush (-6), 2) := by decide +kernel
theorem x122_29 {E : ME} {ls : MLs} {st : List MV} {g : MG} {μ : MU} {Q : Option MV → MG → MU → Prop} : Wp E 122 29 ls st g μ Q = Wp E 122 31 ls (.inl (-6) :: st) g μ Q := Wp_nx k122_29 rfl
theorem k122_31 : mCode 122 31 = some (.iload_n 1, 1) := by decide +kernel
theorem x122_31 {E : ME} {ls : MLs} {st : List MV} {g : MG} {μ : MU} {Q : Option MV → MG → MU → Prop} {l0 : Option MV} {v : Int} : Wp E 122 31 (l0 :: some (.inl v) :: ls) st g μ Q = Wp E 122 32 (l0 :: some (.inl v) :: ls) (.inl v :: st) g μ Q := Wp_nx k122_31 rfl
theorem k122_32 : mCode 122 32 = some (.iload_n 2, 1) := by decide +kernel
theorem x122_32 {E : ME} {ls : MLs} {st : List MV} {g : MG} {μ : MU} {Q : Option MV → MG → MU → Prop} {l0 l1 : Option MV} {v : Int} : Wp E 122 32 (l0 :: l1 :: some (.inl v) :: ls) st g μ Q = Wp E 122 33 (l0 :: l1 :: some (.inl v) :: ls) (.inl v :: st) g μ Q := Wp_nx k122_32 rfl
theorem k122_33 : mCode 122 33 = some (.invokevirtual 167, 3) := by decide +kernel
theorem x122_33 {E : ME} {ls : MLs} {st : List MV} {g : MG} {μ : MU} {Q : Option MV → MG → MU → Prop} {r : Nat} {a0 : Int} {a1 : Int} {a2 : Int} : Wp E 122 33 ls (.inl a2 :: .inl a1 :: .inl a0 :: .inr (.inr (.inl r)) :: st) g μ Q = ((st.length ≤ 4 ∧ ((mKd g r).1 == 6) = true) ∧ Wp E 112 0 [some (.inr (.inr (.inl r))), some (.inl a0), some (.inl a1), some (.inl a2), none, none, none, none] [] g μ (fun r g' μ' => (g'.1 = g.1 ∧ g'.2.1 = g.2.1) ∧ Wp E 122 36 ls (mPush r st) g' μ' Q)) := Wp_cV k122_33 m6_167 (by decide) (as := [.inr (.inr (.inl r)), .inl a0, .inl a1, .inl a2]) rfl rfl rfl ⟨Nat.le_of_ble_eq_true rfl, by decide⟩
theorem k122_36 : mCode 122 36 = some (.goto 5, 3) := by decide +kernel
theorem x122_36 {E : ME} {ls : MLs} {st : List MV} {g : MG} {μ : MU} {Q : Option MV → MG → MU → Prop} : Wp E 122 36 ls st g μ Q = Wp E 122 41 ls st g μ Q := Wp_goto k122_36 (by decide)
theorem k122_39 : mCode 122 39 = some (.bipush (-2), 2) := by decide +kernel
theorem x122_39 {E : ME} {ls : MLs} {st : List MV} {g : MG} {μ : MU} {Q : Option MV → MG → MU → Prop} : Wp E 122 39 ls st g μ Q = Wp E 122 41 ls (.inl (-2) :: st) g μ Q := Wp_nx k122_39 rfl
theorem k122_41 : mCode 122 41 = some (.ireturn, 1) := by decide +kernel
theorem x122_41 {E : ME} {ls : MLs} {g : MG} {μ : MU} {Q : Option MV → MG → MU → Prop} {v : Int} : Wp E 122 41 ls [.inl v] g μ Q = Q (some (.inl v)) g μ := Wp_retI k122_41 (by decide)
theorem k123_0 : mCode 123 0 = some (.aload_n 0, 1) := by decide +kernel
theorem x123_0 {E : ME} {ls : MLs} {st : List MV} {g : MG} {μ : MU} {Q : Option MV → MG → MU → Prop} {v : Nat ⊕ Nat} : Wp E 123 0 (some (.inr (.inr v)) :: ls) st g μ Q = Wp E 123 1 (some (.inr (.inr v)) :: ls) (.inr (.inr v) :: st) g μ Q := Wp_nx k123_0 rfl
theorem k123_1 : mCode 123 1 = some (.iconst 0, 1) := by decide +kernel
theorem x123_1 {E : ME} {ls : MLs} {st : List MV} {g : MG} {μ : MU} {Q : Option MV → MG → MU → Prop} : Wp E 123 1 ls st g μ Q = Wp E 123 2 ls (.inl 0 :: st) g μ Q := Wp_nx k123_1 rfl
theorem k123_2 : mCode 123 2 = some (.putfield 65, 3) := by decide +kernel
theorem x123_2 {E : ME} {ls : MLs} {st : List MV} {g : MG} {μ : MU} {Q : Option MV → MG → MU → Prop} {a : Nat} {v : Int} : Wp E 123 2 ls (.inl v :: .inr (.inr (.inl a)) :: st) g μ Q = ((mKd g a).1 = 6 ∧ Wp E 123 5 ls st g (mUp μ a 0 v) Q) := Wp_putI0 k123_2 f6_65 (by decide) (by decide)
theorem k123_5 : mCode 123 5 = some (.iload_n 1, 1) := by decide +kernel
theorem x123_5 {E : ME} {ls : MLs} {st : List MV} {g : MG} {μ : MU} {Q : Option MV → MG → MU → Prop} {l0 : Option MV} {v : Int} : Wp E 123 5 (l0 :: some (.inl v) :: ls) st g μ Q = Wp E 123 6 (l0 :: some (.inl v) :: ls) (.inl v :: st) g μ Q := Wp_nx k123_5 rfl
theorem k123_6 : mCode 123 6 = some (.iconst 0, 1) := by decide +kernel
theorem x123_6 {E : ME} {ls : MLs} {st : List MV} {g : MG} {μ : MU} {Q : Option MV → MG → MU → Prop} : Wp E 123 6 ls st g μ Q = Wp E 123 7 ls (.inl 0 :: st) g μ Q := Wp_nx k123_6 rfl
theorem k123_7 : mCode 123 7 = some (.bipush 6, 2) := by decide +kernel
theorem x123_7 {E : ME} {ls : MLs} {st : List MV} {g : MG} {μ : MU} {Q : Option MV → MG → MU → Prop} : Wp E 123 7 ls st g μ Q = Wp E 123 9 ls (.inl 6 :: st) g μ Q := Wp_nx k123_7 rfl
theorem k123_9 : mCode 123 9 = some (.invokestatic 69, 3) := by decide +kernel
theorem x123_9 {E : ME} {ls : MLs} {st : List MV} {g : MG} {μ : MU} {Q : Option MV → MG → MU → Prop} {a0 : Int} {a1 : Int} {a2 : Int} : Wp E 123 9 ls (.inl a2 :: .inl a1 :: .inl a0 :: st) g μ Q = (st.length ≤ 4 ∧ Wp E 77 0 [some (.inl a0), some (.inl a1), some (.inl a2)] [] g μ (fun r g' μ' => (g'.1 = g.1 ∧ g'.2.1 = g.2.1) ∧ Wp E 123 12 ls (mPush r st) g' μ' Q)) := Wp_cS k123_9 m6_69 (by decide) (as := [.inl a0, .inl a1, .inl a2]) rfl rfl rfl ⟨Nat.le_of_ble_eq_true rfl, by decide⟩
theorem k123_12 : mCode 123 12 = some (.ifCond .ne 5, 3) := by decide +kernel
theorem x123_12 {E : ME} {ls : MLs} {st : List MV} {g : MG} {μ : MU} {Q : Option MV → MG → MU → Prop} {a : Int} : Wp E 123 12 ls (.inl a :: st) g μ Q = ((¬ a = 0 → Wp E 123 17 ls st g μ Q) ∧ (a = 0 → Wp E 123 15 ls st g μ Q)) := Wp_if_ne k123_12 (by decide)
theorem k123_15 : mCode 123 15 = some (.iconst (-1), 1) := by decide +kernel
theorem x123_15 {E : ME} {ls : MLs} {st : List MV} {g : MG} {μ : MU} {Q : Option MV → MG → MU → Prop} : Wp E 123 15 ls st g μ Q = Wp E 123 16 ls (.inl (-1) :: st) g μ Q := Wp_nx k123_15 rfl
theorem k123_16 : mCode 123 16 = some (.ireturn, 1) := by decide +kernel
theorem x123_16 {E : ME} {ls : MLs} {g : MG} {μ : MU} {Q : Option MV → MG → MU → Prop} {v : Int} : Wp E 123 16 ls [.inl v] g μ Q = Q (some (.inl v)) g μ := Wp_retI k123_16 (by decide)
theorem k123_17 : mCode 123 17 = some (.iconst 0, 1) := by decide +kernel
theorem x123_17 {E : ME} {ls : MLs} {st : List MV} {g : MG} {μ : MU} {Q : Option MV → MG → MU → Prop} : Wp E 123 17 ls st g μ Q = Wp E 123 18 ls (.inl 0 :: st) g μ Q := Wp_nx k123_17 rfl
theorem k123_18 : mCode 123 18 = some (.istore_n 2, 1) := by decide +kernel
theorem x123_18 {E : ME} {ls : MLs} {st : List MV} {g : MG} {μ : MU} {Q : Option MV → MG → MU → Prop} {l0 l1 : Option MV} {lk : Option MV} {v : Int} : Wp E 123 18 (l0 :: l1 :: lk :: ls) (.inl v :: st) g μ Q = ((mNl (some l1) = true ∧ mNl (some lk) = true) ∧ Wp E 123 19 (l0 :: l1 :: some (.inl v) :: ls) st g μ Q) := Wp_sti k123_18 (fun _ => rfl) rfl rfl rfl
theorem k123_19 : mCode 123 19 = some (.iconst 0, 1) := by decide +kernel
theorem x123_19 {E : ME} {ls : MLs} {st : List MV} {g : MG} {μ : MU} {Q : Option MV → MG → MU → Prop} : Wp E 123 19 ls st g μ Q = Wp E 123 20 ls (.inl 0 :: st) g μ Q := Wp_nx k123_19 rfl
theorem k123_20 : mCode 123 20 = some (.istore_n 3, 1) := by decide +kernel
theorem x123_20 {E : ME} {ls : MLs} {st : List MV} {g : MG} {μ : MU} {Q : Option MV → MG → MU → Prop} {l0 l1 l2 : Option MV} {lk : Option MV} {v : Int} : Wp E 123 20 (l0 :: l1 :: l2 :: lk :: ls) (.inl v :: st) g μ Q = ((mNl (some l2) = true ∧ mNl (some lk) = true) ∧ Wp E 123 21 (l0 :: l1 :: l2 :: some (.inl v) :: ls) st g μ Q) := Wp_sti k123_20 (fun _ => rfl) rfl rfl rfl
theorem k123_21 : mCode 123 21 = some (.iload_n 3, 1) := by decide +kernel
theorem x123_21 {E : ME} {ls : MLs} {st : List MV} {g : MG} {μ : MU} {Q : Option MV → MG → MU → Prop} {l0 l1 l2 : Option MV} {v : Int} : Wp E 123 21 (l0 :: l1 :: l2 :: some (.inl v) :: ls) st g μ Q = Wp E 123 22 (l0 :: l1 :: l2 :: some (.inl v) :: ls) (.inl v :: st) g μ Q := Wp_nx k123_21 rfl
theorem k123_22 : mCode 123 22 = some (.aload_n 0, 1) := by decide +kernel
theorem x123_22 {E : ME} {ls : MLs} {st : List MV} {g : MG} {μ : MU} {Q : Option MV → MG → MU → Prop} {v : Nat ⊕ Nat} : Wp E 123 22 (some (.inr (.inr v)) :: ls) st g μ Q = Wp E 123 23 (some (.inr (.inr v)) :: ls) (.inr (.inr v) :: st) g μ Q := Wp_nx k123_22 rfl
theorem k123_23 : mCode 123 23 = some (.getfield 7, 3) := by decide +kernel
theorem x123_23 {E : ME} {ls : MLs} {st : List MV} {g : MG} {μ : MU} {Q : Option MV → MG → MU → Prop} {a : Nat} : Wp E 123 23 ls (.inr (.inr (.inl a)) :: st) g μ Q = ((mKd g a).1 = 6 ∧ Wp E 123 26 ls (mRv (mRf g a 1) :: st) g μ Q) := Wp_getR k123_23 f6_7 (by decide) (by decide)
theorem k123_26 : mCode 123 26 = some (.bipush 6, 2) := by decide +kernel
theorem x123_26 {E : ME} {ls : MLs} {st : List MV} {g : MG} {μ : MU} {Q : Option MV → MG → MU → Prop} : Wp E 123 26 ls st g μ Q = Wp E 123 28 ls (.inl 6 :: st) g μ Q := Wp_nx k123_26 rfl
theorem k123_28 : mCode 123 28 = some (.iaload, 1) := by decide +kernel
theorem x123_28 {E : ME} {ls : MLs} {st : List MV} {g : MG} {μ : MU} {Q : Option MV → MG → MU → Prop} {a : Nat} {j : Int} : Wp E 123 28 ls (.inl j :: .inr (.inr (.inl a)) :: st) g μ Q = (((mKd g a).1 = 10 ∧ 0 ≤ j ∧ j < (mKd g a).2) ∧ Wp E 123 29 ls (.inl (μ a j.toNat) :: st) g μ Q) := Wp_ald k123_28 (fun _ => rfl)
theorem k123_29 : mCode 123 29 = some (.aload_n 0, 1) := by decide +kernel
theorem x123_29 {E : ME} {ls : MLs} {st : List MV} {g : MG} {μ : MU} {Q : Option MV → MG → MU → Prop} {v : Nat ⊕ Nat} : Wp E 123 29 (some (.inr (.inr v)) :: ls) st g μ Q = Wp E 123 30 (some (.inr (.inr v)) :: ls) (.inr (.inr v) :: st) g μ Q := Wp_nx k123_29 rfl
theorem k123_30 : mCode 123 30 = some (.getfield 7, 3) := by decide +kernel
theorem x123_30 {E : ME} {ls : MLs} {st : List MV} {g : MG} {μ : MU} {Q : Option MV → MG → MU → Prop} {a : Nat} : Wp E 123 30 ls (.inr (.inr (.inl a)) :: st) g μ Q = ((mKd g a).1 = 6 ∧ Wp E 123 33 ls (mRv (mRf g a 1) :: st) g μ Q) := Wp_getR k123_30 f6_7 (by decide) (by decide)
theorem k123_33 : mCode 123 33 = some (.iconst 3, 1) := by decide +kernel
theorem x123_33 {E : ME} {ls : MLs} {st : List MV} {g : MG} {μ : MU} {Q : Option MV → MG → MU → Prop} : Wp E 123 33 ls st g μ Q = Wp E 123 34 ls (.inl 3 :: st) g μ Q := Wp_nx k123_33 rfl
theorem k123_34 : mCode 123 34 = some (.iaload, 1) := by decide +kernel
theorem x123_34 {E : ME} {ls : MLs} {st : List MV} {g : MG} {μ : MU} {Q : Option MV → MG → MU → Prop} {a : Nat} {j : Int} : Wp E 123 34 ls (.inl j :: .inr (.inr (.inl a)) :: st) g μ Q = (((mKd g a).1 = 10 ∧ 0 ≤ j ∧ j < (mKd g a).2) ∧ Wp E 123 35 ls (.inl (μ a j.toNat) :: st) g μ Q) := Wp_ald k123_34 (fun _ => rfl)
theorem k123_35 : mCode 123 35 = some (.imul, 1) := by decide +kernel
theorem x123_35 {E : ME} {ls : MLs} {st : List MV} {g : MG} {μ : MU} {Q : Option MV → MG → MU → Prop} {a b : Int} : Wp E 123 35 ls (.inl b :: .inl a :: st) g μ Q = Wp E 123 36 ls (.inl (mWr (a * b)) :: st) g μ Q := Wp_nx k123_35 rfl
theorem k123_36 : mCode 123 36 = some (.if_icmp .ge 25, 3) := by decide +kernel
theorem x123_36 {E : ME} {ls : MLs} {st : List MV} {g : MG} {μ : MU} {Q : Option MV → MG → MU → Prop} {a b : Int} : Wp E 123 36 ls (.inl b :: .inl a :: st) g μ Q = ((b ≤ a → Wp E 123 61 ls st g μ Q) ∧ (a < b → Wp E 123 39 ls st g μ Q)) := Wp_cmp_ge k123_36 (by decide)
theorem k123_39 : mCode 123 39 = some (.iload_n 2, 1) := by decide +kernel
theorem x123_39 {E : ME} {ls : MLs} {st : List MV} {g : MG} {μ : MU} {Q : Option MV → MG → MU → Prop} {l0 l1 : Option MV} {v : Int} : Wp E 123 39 (l0 :: l1 :: some (.inl v) :: ls) st g μ Q = Wp E 123 40 (l0 :: l1 :: some (.inl v) :: ls) (.inl v :: st) g μ Q := Wp_nx k123_39 rfl
theorem k123_40 : mCode 123 40 = some (.iload_n 3, 1) := by decide +kernel
theorem x123_40 {E : ME} {ls : MLs} {st : List MV} {g : MG} {μ : MU} {Q : Option MV → MG → MU → Prop} {l0 l1 l2 : Option MV} {v : Int} : Wp E 123 40 (l0 :: l1 :: l2 :: some (.inl v) :: ls) st g μ Q = Wp E 123 41 (l0 :: l1 :: l2 :: some (.inl v) :: ls) (.inl v :: st) g μ Q := Wp_nx k123_40 rfl
theorem k123_41 : mCode 123 41 = some (.bipush 7, 2) := by decide +kernel
theorem x123_41 {E : ME} {ls : MLs} {st : List MV} {g : MG} {μ : MU} {Q : Option MV → MG → MU → Prop} : Wp E 123 41 ls st g μ Q = Wp E 123 43 ls (.inl 7 :: st) g μ Q := Wp_nx k123_41 rfl
theorem k123_43 : mCode 123 43 = some (.irem, 1) := by decide +kernel
theorem x123_43 {E : ME} {ls : MLs} {st : List MV} {g : MG} {μ : MU} {Q : Option MV → MG → MU → Prop} {a b : Int} : Wp E 123 43 ls (.inl b :: .inl a :: st) g μ Q = (¬ b = 0 ∧ Wp E 123 44 ls (.inl (a.tmod b) :: st) g μ Q) := Wp_div (f := mIrem) k123_43 (fun _ => rfl)
theorem k123_44 : mCode 123 44 = some (.iload_n 1, 1) := by decide +kernel
theorem x123_44 {E : ME} {ls : MLs} {st : List MV} {g : MG} {μ : MU} {Q : Option MV → MG → MU → Prop} {l0 : Option MV} {v : Int} : Wp E 123 44 (l0 :: some (.inl v) :: ls) st g μ Q = Wp E 123 45 (l0 :: some (.inl v) :: ls) (.inl v :: st) g μ Q := Wp_nx k123_44 rfl
theorem k123_45 : mCode 123 45 = some (.if_icmp .ne 7, 3) := by decide +kernel
theorem x123_45 {E : ME} {ls : MLs} {st : List MV} {g : MG} {μ : MU} {Q : Option MV → MG → MU → Prop} {a b : Int} : Wp E 123 45 ls (.inl b :: .inl a :: st) g μ Q = ((¬ a = b → Wp E 123 52 ls st g μ Q) ∧ (a = b → Wp E 123 48 ls st g μ Q)) := Wp_cmp_ne k123_45 (by decide)
theorem k123_48 : mCode 123 48 = some (.iconst 1, 1) := by decide +kernel
theorem x123_48 {E : ME} {ls : MLs} {st : List MV} {g : MG} {μ : MU} {Q : Option MV → MG → MU → Prop} : Wp E 123 48 ls st g μ Q = Wp E 123 49 ls (.inl 1 :: st) g μ Q := Wp_nx k123_48 rfl
theorem k123_49 : mCode 123 49 = some (.goto 4, 3) := by decide +kernel
theorem x123_49 {E : ME} {ls : MLs} {st : List MV} {g : MG} {μ : MU} {Q : Option MV → MG → MU → Prop} : Wp E 123 49 ls st g μ Q = Wp E 123 53 ls st g μ Q := Wp_goto k123_49 (by decide)
theorem k123_52 : mCode 123 52 = some (.iconst 0, 1) := by decide +kernel
theorem x123_52 {E : ME} {ls : MLs} {st : List MV} {g : MG} {μ : MU} {Q : Option MV → MG → MU → Prop} : Wp E 123 52 ls st g μ Q = Wp E 123 53 ls (.inl 0 :: st) g μ Q := Wp_nx k123_52 rfl
theorem k123_53 : mCode 123 53 = some (.iadd, 1) := by decide +kernel
theorem x123_53 {E : ME} {ls : MLs} {st : List MV} {g : MG} {μ : MU} {Q : Option MV → MG → MU → Prop} {a b : Int} : Wp E 123 53 ls (.inl b :: .inl a :: st) g μ Q = Wp E 123 54 ls (.inl (mWr (a + b)) :: st) g μ Q := Wp_nx k123_53 rfl
theorem k123_54 : mCode 123 54 = some (.istore_n 2, 1) := by decide +kernel
theorem x123_54 {E : ME} {ls : MLs} {st : List MV} {g : MG} {μ : MU} {Q : Option MV → MG → MU → Prop} {l0 l1 : Option MV} {lk : Option MV} {v : Int} : Wp E 123 54 (l0 :: l1 :: lk :: ls) (.inl v :: st) g μ Q = ((mNl (some l1) = true ∧ mNl (some lk) = true) ∧ Wp E 123 55 (l0 :: l1 :: some (.inl v) :: ls) st g μ Q) := Wp_sti k123_54 (fun _ => rfl) rfl rfl rfl
theorem k123_55 : mCode 123 55 = some (.iinc 3 1, 3) := by decide +kernel
theorem x123_55 {E : ME} {ls : MLs} {st : List MV} {g : MG} {μ : MU} {Q : Option MV → MG → MU → Prop} {l0 l1 l2 : Option MV} {v : Int} : Wp E 123 55 (l0 :: l1 :: l2 :: some (.inl v) :: ls) st g μ Q = (mNl (some l2) = true ∧ Wp E 123 58 (l0 :: l1 :: l2 :: some (.inl (mWr (v + 1))) :: ls) st g μ Q) := Wp_inc k123_55 rfl rfl rfl
theorem k123_58 : mCode 123 58 = some (.goto (-37), 3) := by decide +kernel
theorem x123_58 {E : ME} {ls : MLs} {st : List MV} {g : MG} {μ : MU} {Q : Option MV → MG → MU → Prop} : Wp E 123 58 ls st g μ Q = Wp E 123 21 ls st g μ Q := Wp_goto k123_58 (by decide)
theorem k123_61 : mCode 123 61 = some (.iload_n 2, 1) := by decide +kernel
theorem x123_61 {E : ME} {ls : MLs} {st : List MV} {g : MG} {μ : MU} {Q : Option MV → MG → MU → Prop} {l0 l1 : Option MV} {v : Int} : Wp E 123 61 (l0 :: l1 :: some (.inl v) :: ls) st g μ Q = Wp E 123 62 (l0 :: l1 :: some (.inl v) :: ls) (.inl v :: st) g μ Q := Wp_nx k123_61 rfl
theorem k123_62 : mCode 123 62 = some (.ireturn, 1) := by decide +kernel
theorem x123_62 {E : ME} {ls : MLs} {g : MG} {μ : MU} {Q : Option MV → MG → MU → Prop} {v : Int} : Wp E 123 62 ls [.inl v] g μ Q = Q (some (.inl v)) g μ := Wp_retI k123_62 (by decide)
theorem k124_0 : mCode 124 0 = some (.aload_n 0, 1) := by decide +kernel
theorem x124_0 {E : ME} {ls : MLs} {st : List MV} {g : MG} {μ : MU} {Q : Option MV → MG → MU → Prop} {v : Nat ⊕ Nat} : Wp E 124 0 (some (.inr (.inr v)) :: ls) st g μ Q = Wp E 124 1 (some (.inr (.inr v)) :: ls) (.inr (.inr v) :: st) g μ Q := Wp_nx k124_0 rfl
theorem k124_1 : mCode 124 1 = some (.getfield 7, 3) := by decide +kernel
theorem x124_1 {E : ME} {ls : MLs} {st : List MV} {g : MG} {μ : MU} {Q : Option MV → MG → MU → Prop} {a : Nat} : Wp E 124 1 ls (.inr (.inr (.inl a)) :: st) g μ Q = ((mKd g a).1 = 6 ∧ Wp E 124 4 ls (mRv (mRf g a 1) :: st) g μ Q) := Wp_getR k124_1 f6_7 (by decide) (by decide)
theorem k124_4 : mCode 124 4 = some (.bipush 6, 2) := by decide +kernel
theorem x124_4 {E : ME} {ls : MLs} {st : List MV} {g : MG} {μ : MU} {Q : Option MV → MG → MU → Prop} : Wp E 124 4 ls st g μ Q = Wp E 124 6 ls (.inl 6 :: st) g μ Q := Wp_nx k124_4 rfl
theorem k124_6 : mCode 124 6 = some (.iaload, 1) := by decide +kernel
theorem x124_6 {E : ME} {ls : MLs} {st : List MV} {g : MG} {μ : MU} {Q : Option MV → MG → MU → Prop} {a : Nat} {j : Int} : Wp E 124 6 ls (.inl j :: .inr (.inr (.inl a)) :: st) g μ Q = (((mKd g a).1 = 10 ∧ 0 ≤ j ∧ j < (mKd g a).2) ∧ Wp E 124 7 ls (.inl (μ a j.toNat) :: st) g μ Q) := Wp_ald k124_6 (fun _ => rfl)
theorem k124_7 : mCode 124 7 = some (.iconst 1, 1) := by decide +kernel
theorem x124_7 {E : ME} {ls : MLs} {st : List MV} {g : MG} {μ : MU} {Q : Option MV → MG → MU → Prop} : Wp E 124 7 ls st g μ Q = Wp E 124 8 ls (.inl 1 :: st) g μ Q := Wp_nx k124_7 rfl
theorem k124_8 : mCode 124 8 = some (.isub, 1) := by decide +kernel
theorem x124_8 {E : ME} {ls : MLs} {st : List MV} {g : MG} {μ : MU} {Q : Option MV → MG → MU → Prop} {a b : Int} : Wp E 124 8 ls (.inl b :: .inl a :: st) g μ Q = Wp E 124 9 ls (.inl (mWr (a - b)) :: st) g μ Q := Wp_nx k124_8 rfl
theorem k124_9 : mCode 124 9 = some (.istore_n 1, 1) := by decide +kernel
theorem x124_9 {E : ME} {ls : MLs} {st : List MV} {g : MG} {μ : MU} {Q : Option MV → MG → MU → Prop} {l0 : Option MV} {lk : Option MV} {v : Int} : Wp E 124 9 (l0 :: lk :: ls) (.inl v :: st) g μ Q = ((mNl (some l0) = true ∧ mNl (some lk) = true) ∧ Wp E 124 10 (l0 :: some (.inl v) :: ls) st g μ Q) := Wp_sti k124_9 (fun _ => rfl) rfl rfl rfl
theorem k124_10 : mCode 124 10 = some (.aload_n 0, 1) := by decide +kernel
theorem x124_10 {E : ME} {ls : MLs} {st : List MV} {g : MG} {μ : MU} {Q : Option MV → MG → MU → Prop} {v : Nat ⊕ Nat} : Wp E 124 10 (some (.inr (.inr v)) :: ls) st g μ Q = Wp E 124 11 (some (.inr (.inr v)) :: ls) (.inr (.inr v) :: st) g μ Q := Wp_nx k124_10 rfl
theorem k124_11 : mCode 124 11 = some (.getfield 32, 3) := by decide +kernel
theorem x124_11 {E : ME} {ls : MLs} {st : List MV} {g : MG} {μ : MU} {Q : Option MV → MG → MU → Prop} {a : Nat} : Wp E 124 11 ls (.inr (.inr (.inl a)) :: st) g μ Q = ((mKd g a).1 = 6 ∧ Wp E 124 14 ls (mRv (mRf g a 10) :: st) g μ Q) := Wp_getR k124_11 f6_32 (by decide) (by decide)
theorem k124_14 : mCode 124 14 = some (.iload_n 1, 1) := by decide +kernel
theorem x124_14 {E : ME} {ls : MLs} {st : List MV} {g : MG} {μ : MU} {Q : Option MV → MG → MU → Prop} {l0 : Option MV} {v : Int} : Wp E 124 14 (l0 :: some (.inl v) :: ls) st g μ Q = Wp E 124 15 (l0 :: some (.inl v) :: ls) (.inl v :: st) g μ Q := Wp_nx k124_14 rfl
theorem k124_15 : mCode 124 15 = some (.iaload, 1) := by decide +kernel
theorem x124_15 {E : ME} {ls : MLs} {st : List MV} {g : MG} {μ : MU} {Q : Option MV → MG → MU → Prop} {a : Nat} {j : Int} : Wp E 124 15 ls (.inl j :: .inr (.inr (.inl a)) :: st) g μ Q = (((mKd g a).1 = 10 ∧ 0 ≤ j ∧ j < (mKd g a).2) ∧ Wp E 124 16 ls (.inl (μ a j.toNat) :: st) g μ Q) := Wp_ald k124_15 (fun _ => rfl)
theorem k124_16 : mCode 124 16 = some (.ifCond .ne 16, 3) := by decide +kernel
theorem x124_16 {E : ME} {ls : MLs} {st : List MV} {g : MG} {μ : MU} {Q : Option MV → MG → MU → Prop} {a : Int} : Wp E 124 16 ls (.inl a :: st) g μ Q = ((¬ a = 0 → Wp E 124 32 ls st g μ Q) ∧ (a = 0 → Wp E 124 19 ls st g μ Q)) := Wp_if_ne k124_16 (by decide)
theorem k124_19 : mCode 124 19 = some (.aload_n 0, 1) := by decide +kernel
theorem x124_19 {E : ME} {ls : MLs} {st : List MV} {g : MG} {μ : MU} {Q : Option MV → MG → MU → Prop} {v : Nat ⊕ Nat} : Wp E 124 19 (some (.inr (.inr v)) :: ls) st g μ Q = Wp E 124 20 (some (.inr (.inr v)) :: ls) (.inr (.inr v) :: st) g μ Q := Wp_nx k124_19 rfl
theorem k124_20 : mCode 124 20 = some (.getfield 35, 3) := by decide +kernel
theorem x124_20 {E : ME} {ls : MLs} {st : List MV} {g : MG} {μ : MU} {Q : Option MV → MG → MU → Prop} {a : Nat} : Wp E 124 20 ls (.inr (.inr (.inl a)) :: st) g μ Q = ((mKd g a).1 = 6 ∧ Wp E 124 23 ls (mRv (mRf g a 11) :: st) g μ Q) := Wp_getR k124_20 f6_35 (by decide) (by decide)
theorem k124_23 : mCode 124 23 = some (.iload_n 1, 1) := by decide +kernel
theorem x124_23 {E : ME} {ls : MLs} {st : List MV} {g : MG} {μ : MU} {Q : Option MV → MG → MU → Prop} {l0 : Option MV} {v : Int} : Wp E 124 23 (l0 :: some (.inl v) :: ls) st g μ Q = Wp E 124 24 (l0 :: some (.inl v) :: ls) (.inl v :: st) g μ Q := Wp_nx k124_23 rfl
theorem k124_24 : mCode 124 24 = some (.iaload, 1) := by decide +kernel
theorem x124_24 {E : ME} {ls : MLs} {st : List MV} {g : MG} {μ : MU} {Q : Option MV → MG → MU → Prop} {a : Nat} {j : Int} : Wp E 124 24 ls (.inl j :: .inr (.inr (.inl a)) :: st) g μ Q = (((mKd g a).1 = 10 ∧ 0 ≤ j ∧ j < (mKd g a).2) ∧ Wp E 124 25 ls (.inl (μ a j.toNat) :: st) g μ Q) := Wp_ald k124_24 (fun _ => rfl)
theorem k124_25 : mCode 124 25 = some (.ifCond .ne 7, 3) := by decide +kernel
theorem x124_25 {E : ME} {ls : MLs} {st : List MV} {g : MG} {μ : MU} {Q : Option MV → MG → MU → Prop} {a : Int} : Wp E 124 25 ls (.inl a :: st) g μ Q = ((¬ a = 0 → Wp E 124 32 ls st g μ Q) ∧ (a = 0 → Wp E 124 28 ls st g μ Q)) := Wp_if_ne k124_25 (by decide)
theorem k124_28 : mCode 124 28 = some (.iconst 1, 1) := by decide +kernel
theorem x124_28 {E : ME} {ls : MLs} {st : List MV} {g : MG} {μ : MU} {Q : Option MV → MG → MU → Prop} : Wp E 124 28 ls st g μ Q = Wp E 124 29 ls (.inl 1 :: st) g μ Q := Wp_nx k124_28 rfl
theorem k124_29 : mCode 124 29 = some (.goto 4, 3) := by decide +kernel
theorem x124_29 {E : ME} {ls : MLs} {st : List MV} {g : MG} {μ : MU} {Q : Option MV → MG → MU → Prop} : Wp E 124 29 ls st g μ Q = Wp E 124 33 ls st g μ Q := Wp_goto k124_29 (by decide)
theorem k124_32 : mCode 124 32 = some (.iconst 0, 1) := by decide +kernel
theorem x124_32 {E : ME} {ls : MLs} {st : List MV} {g : MG} {μ : MU} {Q : Option MV → MG → MU → Prop} : Wp E 124 32 ls st g μ Q = Wp E 124 33 ls (.inl 0 :: st) g μ Q := Wp_nx k124_32 rfl
theorem k124_33 : mCode 124 33 = some (.istore_n 2, 1) := by decide +kernel
theorem x124_33 {E : ME} {ls : MLs} {st : List MV} {g : MG} {μ : MU} {Q : Option MV → MG → MU → Prop} {l0 l1 : Option MV} {lk : Option MV} {v : Int} : Wp E 124 33 (l0 :: l1 :: lk :: ls) (.inl v :: st) g μ Q = ((mNl (some l1) = true ∧ mNl (some lk) = true) ∧ Wp E 124 34 (l0 :: l1 :: some (.inl v) :: ls) st g μ Q) := Wp_sti k124_33 (fun _ => rfl) rfl rfl rfl
theorem k124_34 : mCode 124 34 = some (.iconst 0, 1) := by decide +kernel
theorem x124_34 {E : ME} {ls : MLs} {st : List MV} {g : MG} {μ : MU} {Q : Option MV → MG → MU → Prop} : Wp E 124 34 ls st g μ Q = Wp E 124 35 ls (.inl 0 :: st) g μ Q := Wp_nx k124_34 rfl
theorem k124_35 : mCode 124 35 = some (.istore_n 3, 1) := by decide +kernel
theorem x124_35 {E : ME} {ls : MLs} {st : List MV} {g : MG} {μ : MU} {Q : Option MV → MG → MU → Prop} {l0 l1 l2 : Option MV} {lk : Option MV} {v : Int} : Wp E 124 35 (l0 :: l1 :: l2 :: lk :: ls) (.inl v :: st) g μ Q = ((mNl (some l2) = true ∧ mNl (some lk) = true) ∧ Wp E 124 36 (l0 :: l1 :: l2 :: some (.inl v) :: ls) st g μ Q) := Wp_sti k124_35 (fun _ => rfl) rfl rfl rfl
theorem k124_36 : mCode 124 36 = some (.iload_n 3, 1) := by decide +kernel
theorem x124_36 {E : ME} {ls : MLs} {st : List MV} {g : MG} {μ : MU} {Q : Option MV → MG → MU → Prop} {l0 l1 l2 : Option MV} {v : Int} : Wp E 124 36 (l0 :: l1 :: l2 :: some (.inl v) :: ls) st g μ Q = Wp E 124 37 (l0 :: l1 :: l2 :: some (.inl v) :: ls) (.inl v :: st) g μ Q := Wp_nx k124_36 rfl
theorem k124_37 : mCode 124 37 = some (.iload_n 1, 1) := by decide +kernel
theorem x124_37 {E : ME} {ls : MLs} {st : List MV} {g : MG} {μ : MU} {Q : Option MV → MG → MU → Prop} {l0 : Option MV} {v : Int} : Wp E 124 37 (l0 :: some (.inl v) :: ls) st g μ Q = Wp E 124 38 (l0 :: some (.inl v) :: ls) (.inl v :: st) g μ Q := Wp_nx k124_37 rfl
theorem k124_38 : mCode 124 38 = some (.if_icmp .ge 52, 3) := by decide +kernel
theorem x124_38 {E : ME} {ls : MLs} {st : List MV} {g : MG} {μ : MU} {Q : Option MV → MG → MU → Prop} {a b : Int} : Wp E 124 38 ls (.inl b :: .inl a :: st) g μ Q = ((b ≤ a → Wp E 124 90 ls st g μ Q) ∧ (a < b → Wp E 124 41 ls st g μ Q)) := Wp_cmp_ge k124_38 (by decide)
theorem k124_41 : mCode 124 41 = some (.iload_n 2, 1) := by decide +kernel
theorem x124_41 {E : ME} {ls : MLs} {st : List MV} {g : MG} {μ : MU} {Q : Option MV → MG → MU → Prop} {l0 l1 : Option MV} {v : Int} : Wp E 124 41 (l0 :: l1 :: some (.inl v) :: ls) st g μ Q = Wp E 124 42 (l0 :: l1 :: some (.inl v) :: ls) (.inl v :: st) g μ Q := Wp_nx k124_41 rfl
theorem k124_42 : mCode 124 42 = some (.ifCond .eq 40, 3) := by decide +kernel
theorem x124_42 {E : ME} {ls : MLs} {st : List MV} {g : MG} {μ : MU} {Q : Option MV → MG → MU → Prop} {a : Int} : Wp E 124 42 ls (.inl a :: st) g μ Q = ((a = 0 → Wp E 124 82 ls st g μ Q) ∧ (¬ a = 0 → Wp E 124 45 ls st g μ Q)) := Wp_if_eq k124_42 (by decide)
theorem k124_45 : mCode 124 45 = some (.aload_n 0, 1) := by decide +kernel
theorem x124_45 {E : ME} {ls : MLs} {st : List MV} {g : MG} {μ : MU} {Q : Option MV → MG → MU → Prop} {v : Nat ⊕ Nat} : Wp E 124 45 (some (.inr (.inr v)) :: ls) st g μ Q = Wp E 124 46 (some (.inr (.inr v)) :: ls) (.inr (.inr v) :: st) g μ Q := Wp_nx k124_45 rfl
theorem k124_46 : mCode 124 46 = some (.getfield 32, 3) := by decide +kernel
theorem x124_46 {E : ME} {ls : MLs} {st : List MV} {g : MG} {μ : MU} {Q : Option MV → MG → MU → Prop} {a : Nat} : Wp E 124 46 ls (.inr (.inr (.inl a)) :: st) g μ Q = ((mKd g a).1 = 6 ∧ Wp E 124 49 ls (mRv (mRf g a 10) :: st) g μ Q) := Wp_getR k124_46 f6_32 (by decide) (by decide)
theorem k124_49 : mCode 124 49 = some (.iload_n 3, 1) := by decide +kernel
theorem x124_49 {E : ME} {ls : MLs} {st : List MV} {g : MG} {μ : MU} {Q : Option MV → MG → MU → Prop} {l0 l1 l2 : Option MV} {v : Int} : Wp E 124 49 (l0 :: l1 :: l2 :: some (.inl v) :: ls) st g μ Q = Wp E 124 50 (l0 :: l1 :: l2 :: some (.inl v) :: ls) (.inl v :: st) g μ Q := Wp_nx k124_49 rfl
theorem k124_50 : mCode 124 50 = some (.iaload, 1) := by decide +kernel
theorem x124_50 {E : ME} {ls : MLs} {st : List MV} {g : MG} {μ : MU} {Q : Option MV → MG → MU → Prop} {a : Nat} {j : Int} : Wp E 124 50 ls (.inl j :: .inr (.inr (.inl a)) :: st) g μ Q = (((mKd g a).1 = 10 ∧ 0 ≤ j ∧ j < (mKd g a).2) ∧ Wp E 124 51 ls (.inl (μ a j.toNat) :: st) g μ Q) := Wp_ald k124_50 (fun _ => rfl)
theorem k124_51 : mCode 124 51 = some (.aload_n 0, 1) := by decide +kernel
theorem x124_51 {E : ME} {ls : MLs} {st : List MV} {g : MG} {μ : MU} {Q : Option MV → MG → MU → Prop} {v : Nat ⊕ Nat} : Wp E 124 51 (some (.inr (.inr v)) :: ls) st g μ Q = Wp E 124 52 (some (.inr (.inr v)) :: ls) (.inr (.inr v) :: st) g μ Q := Wp_nx k124_51 rfl
theorem k124_52 : mCode 124 52 = some (.getfield 56, 3) := by decide +kernel
theorem x124_52 {E : ME} {ls : MLs} {st : List MV} {g : MG} {μ : MU} {Q : Option MV → MG → MU → Prop} {a : Nat} : Wp E 124 52 ls (.inr (.inr (.inl a)) :: st) g μ Q = ((mKd g a).1 = 6 ∧ Wp E 124 55 ls (mRv (mRf g a 19) :: st) g μ Q) := Wp_getR k124_52 f6_56 (by decide) (by decide)
theorem k124_55 : mCode 124 55 = some (.iload_n 3, 1) := by decide +kernel
theorem x124_55 {E : ME} {ls : MLs} {st : List MV} {g : MG} {μ : MU} {Q : Option MV → MG → MU → Prop} {l0 l1 l2 : Option MV} {v : Int} : Wp E 124 55 (l0 :: l1 :: l2 :: some (.inl v) :: ls) st g μ Q = Wp E 124 56 (l0 :: l1 :: l2 :: some (.inl v) :: ls) (.inl v :: st) g μ Q := Wp_nx k124_55 rfl
theorem k124_56 : mCode 124 56 = some (.iaload, 1) := by decide +kernel
theorem x124_56 {E : ME} {ls : MLs} {st : List MV} {g : MG} {μ : MU} {Q : Option MV → MG → MU → Prop} {a : Nat} {j : Int} : Wp E 124 56 ls (.inl j :: .inr (.inr (.inl a)) :: st) g μ Q = (((mKd g a).1 = 10 ∧ 0 ≤ j ∧ j < (mKd g a).2) ∧ Wp E 124 57 ls (.inl (μ a j.toNat) :: st) g μ Q) := Wp_ald k124_56 (fun _ => rfl)
theorem k124_57 : mCode 124 57 = some (.if_icmp .gt 25, 3) := by decide +kernel
theorem x124_57 {E : ME} {ls : MLs} {st : List MV} {g : MG} {μ : MU} {Q : Option MV → MG → MU → Prop} {a b : Int} : Wp E 124 57 ls (.inl b :: .inl a :: st) g μ Q = ((b < a → Wp E 124 82 ls st g μ Q) ∧ (a ≤ b → Wp E 124 60 ls st g μ Q)) := Wp_cmp_gt k124_57 (by decide)
theorem k124_60 : mCode 124 60 = some (.aload_n 0, 1) := by decide +kernel
theorem x124_60 {E : ME} {ls : MLs} {st : List MV} {g : MG} {μ : MU} {Q : Option MV → MG → MU → Prop} {v : Nat ⊕ Nat} : Wp E 124 60 (some (.inr (.inr v)) :: ls) st g μ Q = Wp E 124 61 (some (.inr (.inr v)) :: ls) (.inr (.inr v) :: st) g μ Q := Wp_nx k124_60 rfl
theorem k124_61 : mCode 124 61 = some (.getfield 35, 3) := by decide +kernel
theorem x124_61 {E : ME} {ls : MLs} {st : List MV} {g : MG} {μ : MU} {Q : Option MV → MG → MU → Prop} {a : Nat} : Wp E 124 61 ls (.inr (.inr (.inl a)) :: st) g μ Q = ((mKd g a).1 = 6 ∧ Wp E 124 64 ls (mRv (mRf g a 11) :: st) g μ Q) := Wp_getR k124_61 f6_35 (by decide) (by decide)
theorem k124_64 : mCode 124 64 = some (.iload_n 3, 1) := by decide +kernel
theorem x124_64 {E : ME} {ls : MLs} {st : List MV} {g : MG} {μ : MU} {Q : Option MV → MG → MU → Prop} {l0 l1 l2 : Option MV} {v : Int} : Wp E 124 64 (l0 :: l1 :: l2 :: some (.inl v) :: ls) st g μ Q = Wp E 124 65 (l0 :: l1 :: l2 :: some (.inl v) :: ls) (.inl v :: st) g μ Q := Wp_nx k124_64 rfl
theorem k124_65 : mCode 124 65 = some (.iaload, 1) := by decide +kernel
theorem x124_65 {E : ME} {ls : MLs} {st : List MV} {g : MG} {μ : MU} {Q : Option MV → MG → MU → Prop} {a : Nat} {j : Int} : Wp E 124 65 ls (.inl j :: .inr (.inr (.inl a)) :: st) g μ Q = (((mKd g a).1 = 10 ∧ 0 ≤ j ∧ j < (mKd g a).2) ∧ Wp E 124 66 ls (.inl (μ a j.toNat) :: st) g μ Q) := Wp_ald k124_65 (fun _ => rfl)
theorem k124_66 : mCode 124 66 = some (.invokestatic 108, 3) := by decide +kernel
theorem x124_66 {E : ME} {ls : MLs} {st : List MV} {g : MG} {μ : MU} {Q : Option MV → MG → MU → Prop} {a0 : Int} : Wp E 124 66 ls (.inl a0 :: st) g μ Q = (st.length ≤ 4 ∧ Wp E 90 0 [some (.inl a0), none, none] [] g μ (fun r g' μ' => (g'.1 = g.1 ∧ g'.2.1 = g.2.1) ∧ Wp E 124 69 ls (mPush r st) g' μ' Q)) := Wp_cS k124_66 m6_108 (by decide) (as := [.inl a0]) rfl rfl rfl ⟨Nat.le_of_ble_eq_true rfl, by decide⟩
theorem k124_69 : mCode 124 69 = some (.aload_n 0, 1) := by decide +kernel
theorem x124_69 {E : ME} {ls : MLs} {st : List MV} {g : MG} {μ : MU} {Q : Option MV → MG → MU → Prop} {v : Nat ⊕ Nat} : Wp E 124 69 (some (.inr (.inr v)) :: ls) st g μ Q = Wp E 124 70 (some (.inr (.inr v)) :: ls) (.inr (.inr v) :: st) g μ Q := Wp_nx k124_69 rfl
theorem k124_70 : mCode 124 70 = some (.getfield 59, 3) := by decide +kernel
theorem x124_70 {E : ME} {ls : MLs} {st : List MV} {g : MG} {μ : MU} {Q : Option MV → MG → MU → Prop} {a : Nat} : Wp E 124 70 ls (.inr (.inr (.inl a)) :: st) g μ Q = ((mKd g a).1 = 6 ∧ Wp E 124 73 ls (mRv (mRf g a 20) :: st) g μ Q) := Wp_getR k124_70 f6_59 (by decide) (by decide)
theorem k124_73 : mCode 124 73 = some (.iload_n 3, 1) := by decide +kernel
theorem x124_73 {E : ME} {ls : MLs} {st : List MV} {g : MG} {μ : MU} {Q : Option MV → MG → MU → Prop} {l0 l1 l2 : Option MV} {v : Int} : Wp E 124 73 (l0 :: l1 :: l2 :: some (.inl v) :: ls) st g μ Q = Wp E 124 74 (l0 :: l1 :: l2 :: some (.inl v) :: ls) (.inl v :: st) g μ Q := Wp_nx k124_73 rfl
theorem k124_74 : mCode 124 74 = some (.iaload, 1) := by decide +kernel
theorem x124_74 {E : ME} {ls : MLs} {st : List MV} {g : MG} {μ : MU} {Q : Option MV → MG → MU → Prop} {a : Nat} {j : Int} : Wp E 124 74 ls (.inl j :: .inr (.inr (.inl a)) :: st) g μ Q = (((mKd g a).1 = 10 ∧ 0 ≤ j ∧ j < (mKd g a).2) ∧ Wp E 124 75 ls (.inl (μ a j.toNat) :: st) g μ Q) := Wp_ald k124_74 (fun _ => rfl)
theorem k124_75 : mCode 124 75 = some (.if_icmp .gt 7, 3) := by decide +kernel
theorem x124_75 {E : ME} {ls : MLs} {st : List MV} {g : MG} {μ : MU} {Q : Option MV → MG → MU → Prop} {a b : Int} : Wp E 124 75 ls (.inl b :: .inl a :: st) g μ Q = ((b < a → Wp E 124 82 ls st g μ Q) ∧ (a ≤ b → Wp E 124 78 ls st g μ Q)) := Wp_cmp_gt k124_75 (by decide)
theorem k124_78 : mCode 124 78 = some (.iconst 1, 1) := by decide +kernel
theorem x124_78 {E : ME} {ls : MLs} {st : List MV} {g : MG} {μ : MU} {Q : Option MV → MG → MU → Prop} : Wp E 124 78 ls st g μ Q = Wp E 124 79 ls (.inl 1 :: st) g μ Q := Wp_nx k124_78 rfl
theorem k124_79 : mCode 124 79 = some (.goto 4, 3) := by decide +kernel
theorem x124_79 {E : ME} {ls : MLs} {st : List MV} {g : MG} {μ : MU} {Q : Option MV → MG → MU → Prop} : Wp E 124 79 ls st g μ Q = Wp E 124 83 ls st g μ Q := Wp_goto k124_79 (by decide)
theorem k124_82 : mCode 124 82 = some (.iconst 0, 1) := by decide +kernel
theorem x124_82 {E : ME} {ls : MLs} {st : List MV} {g : MG} {μ : MU} {Q : Option MV → MG → MU → Prop} : Wp E 124 82 ls st g μ Q = Wp E 124 83 ls (.inl 0 :: st) g μ Q := Wp_nx k124_82 rfl
theorem k124_83 : mCode 124 83 = some (.istore_n 2, 1) := by decide +kernel
theorem x124_83 {E : ME} {ls : MLs} {st : List MV} {g : MG} {μ : MU} {Q : Option MV → MG → MU → Prop} {l0 l1 : Option MV} {lk : Option MV} {v : Int} : Wp E 124 83 (l0 :: l1 :: lk :: ls) (.inl v :: st) g μ Q = ((mNl (some l1) = true ∧ mNl (some lk) = true) ∧ Wp E 124 84 (l0 :: l1 :: some (.inl v) :: ls) st g μ Q) := Wp_sti k124_83 (fun _ => rfl) rfl rfl rfl
theorem k124_84 : mCode 124 84 = some (.iinc 3 1, 3) := by decide +kernel
theorem x124_84 {E : ME} {ls : MLs} {st : List MV} {g : MG} {μ : MU} {Q : Option MV → MG → MU → Prop} {l0 l1 l2 : Option MV} {v : Int} : Wp E 124 84 (l0 :: l1 :: l2 :: some (.inl v) :: ls) st g μ Q = (mNl (some l2) = true ∧ Wp E 124 87 (l0 :: l1 :: l2 :: some (.inl (mWr (v + 1))) :: ls) st g μ Q) := Wp_inc k124_84 rfl rfl rfl
theorem k124_87 : mCode 124 87 = some (.goto (-51), 3) := by decide +kernel
theorem x124_87 {E : ME} {ls : MLs} {st : List MV} {g : MG} {μ : MU} {Q : Option MV → MG → MU → Prop} : Wp E 124 87 ls st g μ Q = Wp E 124 36 ls st g μ Q := Wp_goto k124_87 (by decide)
theorem k124_90 : mCode 124 90 = some (.iload_n 2, 1) := by decide +kernel
theorem x124_90 {E : ME} {ls : MLs} {st : List MV} {g : MG} {μ : MU} {Q : Option MV → MG → MU → Prop} {l0 l1 : Option MV} {v : Int} : Wp E 124 90 (l0 :: l1 :: some (.inl v) :: ls) st g μ Q = Wp E 124 91 (l0 :: l1 :: some (.inl v) :: ls) (.inl v :: st) g μ Q := Wp_nx k124_90 rfl
theorem k124_91 : mCode 124 91 = some (.ireturn, 1) := by decide +kernel
theorem x124_91 {E : ME} {ls : MLs} {g : MG} {μ : MU} {Q : Option MV → MG → MU → Prop} {v : Int} : Wp E 124 91 ls [.inl v] g μ Q = ((v = 0 ∨ v = 1) ∧ Q (some (.inl v)) g μ) := Wp_retZ k124_91 (by decide)
theorem k125_0 : mCode 125 0 = some (.aload_n 0, 1) := by decide +kernel
theorem x125_0 {E : ME} {ls : MLs} {st : List MV} {g : MG} {μ : MU} {Q : Option MV → MG → MU → Prop} {v : Nat ⊕ Nat} : Wp E 125 0 (some (.inr (.inr v)) :: ls) st g μ Q = Wp E 125 1 (some (.inr (.inr v)) :: ls) (.inr (.inr v) :: st) g μ Q := Wp_nx k125_0 rfl
theorem k125_1 : mCode 125 1 = some (.iconst 0, 1) := by decide +kernel
theorem x125_1 {E : ME} {ls : MLs} {st : List MV} {g : MG} {μ : MU} {Q : Option MV → MG → MU → Prop} : Wp E 125 1 ls st g μ Q = Wp E 125 2 ls (.inl 0 :: st) g μ Q := Wp_nx k125_1 rfl
theorem k125_2 : mCode 125 2 = some (.putfield 65, 3) := by decide +kernel
theorem x125_2 {E : ME} {ls : MLs} {st : List MV} {g : MG} {μ : MU} {Q : Option MV → MG → MU → Prop} {a : Nat} {v : Int} : Wp E 125 2 ls (.inl v :: .inr (.inr (.inl a)) :: st) g μ Q = ((mKd g a).1 = 6 ∧ Wp E 125 5 ls st g (mUp μ a 0 v) Q) := Wp_putI0 k125_2 f6_65 (by decide) (by decide)
theorem k125_5 : mCode 125 5 = some (.aload_n 0, 1) := by decide +kernel
theorem x125_5 {E : ME} {ls : MLs} {st : List MV} {g : MG} {μ : MU} {Q : Option MV → MG → MU → Prop} {v : Nat ⊕ Nat} : Wp E 125 5 (some (.inr (.inr v)) :: ls) st g μ Q = Wp E 125 6 (some (.inr (.inr v)) :: ls) (.inr (.inr v) :: st) g μ Q := Wp_nx k125_5 rfl
theorem k125_6 : mCode 125 6 = some (.iload_n 1, 1) := by decide +kernel
theorem x125_6 {E : ME} {ls : MLs} {st : List MV} {g : MG} {μ : MU} {Q : Option MV → MG → MU → Prop} {l0 : Option MV} {v : Int} : Wp E 125 6 (l0 :: some (.inl v) :: ls) st g μ Q = Wp E 125 7 (l0 :: some (.inl v) :: ls) (.inl v :: st) g μ Q := Wp_nx k125_6 rfl
theorem k125_7 : mCode 125 7 = some (.iload_n 2, 1) := by decide +kernel
theorem x125_7 {E : ME} {ls : MLs} {st : List MV} {g : MG} {μ : MU} {Q : Option MV → MG → MU → Prop} {l0 l1 : Option MV} {v : Int} : Wp E 125 7 (l0 :: l1 :: some (.inl v) :: ls) st g μ Q = Wp E 125 8 (l0 :: l1 :: some (.inl v) :: ls) (.inl v :: st) g μ Q := Wp_nx k125_7 rfl
theorem k125_8 : mCode 125 8 = some (.iload_n 3, 1) := by decide +kernel
theorem x125_8 {E : ME} {ls : MLs} {st : List MV} {g : MG} {μ : MU} {Q : Option MV → MG → MU → Prop} {l0 l1 l2 : Option MV} {v : Int} : Wp E 125 8 (l0 :: l1 :: l2 :: some (.inl v) :: ls) st g μ Q = Wp E 125 9 (l0 :: l1 :: l2 :: some (.inl v) :: ls) (.inl v :: st) g μ Q := Wp_nx k125_8 rfl
theorem k125_9 : mCode 125 9 = some (.iconst 0, 1) := by decide +kernel
theorem x125_9 {E : ME} {ls : MLs} {st : List MV} {g : MG} {μ : MU} {Q : Option MV → MG → MU → Prop} : Wp E 125 9 ls st g μ Q = Wp E 125 10 ls (.inl 0 :: st) g μ Q := Wp_nx k125_9 rfl
theorem k125_10 : mCode 125 10 = some (.invokevirtual 139, 3) := by decide +kernel
theorem x125_10 {E : ME} {ls : MLs} {st : List MV} {g : MG} {μ : MU} {Q : Option MV → MG → MU → Prop} {r : Nat} {a0 : Int} {a1 : Int} {a2 : Int} {a3 : Int} : Wp E 125 10 ls (.inl a3 :: .inl a2 :: .inl a1 :: .inl a0 :: .inr (.inr (.inl r)) :: st) g μ Q = ((st.length ≤ 4 ∧ ((mKd g r).1 == 6) = true) ∧ Wp E 103 0 [some (.inr (.inr (.inl r))), some (.inl a0), some (.inl a1), some (.inl a2), some (.inl a3)] [] g μ (fun r g' μ' => (g'.1 = g.1 ∧ g'.2.1 = g.2.1) ∧ Wp E 125 13 ls (mPush r st) g' μ' Q)) := Wp_cV k125_10 m6_139 (by decide) (as := [.inr (.inr (.inl r)), .inl a0, .inl a1, .inl a2, .inl a3]) rfl rfl rfl ⟨Nat.le_of_ble_eq_true rfl, by decide⟩
theorem k125_13 : mCode 125 13 = some (.istore 4, 2) := by decide +kernel
theorem x125_13 {E : ME} {ls : MLs} {st : List MV} {g : MG} {μ : MU} {Q : Option MV → MG → MU → Prop} {l0 l1 l2 l3 : Option MV} {lk : Option MV} {v : Int} : Wp E 125 13 (l0 :: l1 :: l2 :: l3 :: lk :: ls) (.inl v :: st) g μ Q = ((mNl (some l3) = true ∧ mNl (some lk) = true) ∧ Wp E 125 15 (l0 :: l1 :: l2 :: l3 :: some (.inl v) :: ls) st g μ Q) := Wp_sti k125_13 (fun _ => rfl) rfl rfl rfl
theorem k125_15 : mCode 125 15 = some (.iload 4, 2) := by decide +kernel
theorem x125_15 {E : ME} {ls : MLs} {st : List MV} {g : MG} {μ : MU} {Q : Option MV → MG → MU → Prop} {l0 l1 l2 l3 : Option MV} {v : Int} : Wp E 125 15 (l0 :: l1 :: l2 :: l3 :: some (.inl v) :: ls) st g μ Q = Wp E 125 17 (l0 :: l1 :: l2 :: l3 :: some (.inl v) :: ls) (.inl v :: st) g μ Q := Wp_nx k125_15 rfl
theorem k125_17 : mCode 125 17 = some (.ifCond .eq 6, 3) := by decide +kernel
theorem x125_17 {E : ME} {ls : MLs} {st : List MV} {g : MG} {μ : MU} {Q : Option MV → MG → MU → Prop} {a : Int} : Wp E 125 17 ls (.inl a :: st) g μ Q = ((a = 0 → Wp E 125 23 ls st g μ Q) ∧ (¬ a = 0 → Wp E 125 20 ls st g μ Q)) := Wp_if_eq k125_17 (by decide)
theorem k125_20 : mCode 125 20 = some (.iload 4, 2) := by decide +kernel
theorem x125_20 {E : ME} {ls : MLs} {st : List MV} {g : MG} {μ : MU} {Q : Option MV → MG → MU → Prop} {l0 l1 l2 l3 : Option MV} {v : Int} : Wp E 125 20 (l0 :: l1 :: l2 :: l3 :: some (.inl v) :: ls) st g μ Q = Wp E 125 22 (l0 :: l1 :: l2 :: l3 :: some (.inl v) :: ls) (.inl v :: st) g μ Q := Wp_nx k125_20 rfl
theorem k125_22 : mCode 125 22 = some (.ireturn, 1) := by decide +kernel
theorem x125_22 {E : ME} {ls : MLs} {g : MG} {μ : MU} {Q : Option MV → MG → MU → Prop} {v : Int} : Wp E 125 22 ls [.inl v] g μ Q = Q (some (.inl v)) g μ := Wp_retI k125_22 (by decide)
theorem k125_23 : mCode 125 23 = some (.aload_n 0, 1) := by decide +kernel
theorem x125_23 {E : ME} {ls : MLs} {st : List MV} {g : MG} {μ : MU} {Q : Option MV → MG → MU → Prop} {v : Nat ⊕ Nat} : Wp E 125 23 (some (.inr (.inr v)) :: ls) st g μ Q = Wp E 125 24 (some (.inr (.inr v)) :: ls) (.inr (.inr v) :: st) g μ Q := Wp_nx k125_23 rfl
theorem k125_24 : mCode 125 24 = some (.iconst 0, 1) := by decide +kernel
theorem x125_24 {E : ME} {ls : MLs} {st : List MV} {g : MG} {μ : MU} {Q : Option MV → MG → MU → Prop} : Wp E 125 24 ls st g μ Q = Wp E 125 25 ls (.inl 0 :: st) g μ Q := Wp_nx k125_24 rfl
theorem k125_25 : mCode 125 25 = some (.invokevirtual 164, 3) := by decide +kernel
theorem x125_25 {E : ME} {ls : MLs} {st : List MV} {g : MG} {μ : MU} {Q : Option MV → MG → MU → Prop} {r : Nat} {a0 : Int} : Wp E 125 25 ls (.inl a0 :: .inr (.inr (.inl r)) :: st) g μ Q = ((st.length ≤ 4 ∧ ((mKd g r).1 == 6) = true) ∧ Wp E 89 0 [some (.inr (.inr (.inl r))), some (.inl a0), none, none] [] g μ (fun r g' μ' => (g'.1 = g.1 ∧ g'.2.1 = g.2.1) ∧ Wp E 125 28 ls (mPush r st) g' μ' Q)) := Wp_cV k125_25 m6_164 (by decide) (as := [.inr (.inr (.inl r)), .inl a0]) rfl rfl rfl ⟨Nat.le_of_ble_eq_true rfl, by decide⟩
theorem k125_28 : mCode 125 28 = some (.iconst 0, 1) := by decide +kernel
theorem x125_28 {E : ME} {ls : MLs} {st : List MV} {g : MG} {μ : MU} {Q : Option MV → MG → MU → Prop} : Wp E 125 28 ls st g μ Q = Wp E 125 29 ls (.inl 0 :: st) g μ Q := Wp_nx k125_28 rfl
theorem k125_29 : mCode 125 29 = some (.istore 5, 2) := by decide +kernel
theorem x125_29 {E : ME} {ls : MLs} {st : List MV} {g : MG} {μ : MU} {Q : Option MV → MG → MU → Prop} {l0 l1 l2 l3 l4 : Option MV} {lk : Option MV} {v : Int} : Wp E 125 29 (l0 :: l1 :: l2 :: l3 :: l4 :: lk :: ls) (.inl v :: st) g μ Q = ((mNl (some l4) = true ∧ mNl (some lk) = true) ∧ Wp E 125 31 (l0 :: l1 :: l2 :: l3 :: l4 :: some (.inl v) :: ls) st g μ Q) := Wp_sti k125_29 (fun _ => rfl) rfl rfl rfl
theorem k125_31 : mCode 125 31 = some (.iload 5, 2) := by decide +kernel
theorem x125_31 {E : ME} {ls : MLs} {st : List MV} {g : MG} {μ : MU} {Q : Option MV → MG → MU → Prop} {l0 l1 l2 l3 l4 : Option MV} {v : Int} : Wp E 125 31 (l0 :: l1 :: l2 :: l3 :: l4 :: some (.inl v) :: ls) st g μ Q = Wp E 125 33 (l0 :: l1 :: l2 :: l3 :: l4 :: some (.inl v) :: ls) (.inl v :: st) g μ Q := Wp_nx k125_31 rfl
theorem k125_33 : mCode 125 33 = some (.aload_n 0, 1) := by decide +kernel
theorem x125_33 {E : ME} {ls : MLs} {st : List MV} {g : MG} {μ : MU} {Q : Option MV → MG → MU → Prop} {v : Nat ⊕ Nat} : Wp E 125 33 (some (.inr (.inr v)) :: ls) st g μ Q = Wp E 125 34 (some (.inr (.inr v)) :: ls) (.inr (.inr v) :: st) g μ Q := Wp_nx k125_33 rfl
theorem k125_34 : mCode 125 34 = some (.getfield 7, 3) := by decide +kernel
theorem x125_34 {E : ME} {ls : MLs} {st : List MV} {g : MG} {μ : MU} {Q : Option MV → MG → MU → Prop} {a : Nat} : Wp E 125 34 ls (.inr (.inr (.inl a)) :: st) g μ Q = ((mKd g a).1 = 6 ∧ Wp E 125 37 ls (mRv (mRf g a 1) :: st) g μ Q) := Wp_getR k125_34 f6_7 (by decide) (by decide)
theorem k125_37 : mCode 125 37 = some (.bipush 6, 2) := by decide +kernel
theorem x125_37 {E : ME} {ls : MLs} {st : List MV} {g : MG} {μ : MU} {Q : Option MV → MG → MU → Prop} : Wp E 125 37 ls st g μ Q = Wp E 125 39 ls (.inl 6 :: st) g μ Q := Wp_nx k125_37 rfl
theorem k125_39 : mCode 125 39 = some (.iaload, 1) := by decide +kernel
theorem x125_39 {E : ME} {ls : MLs} {st : List MV} {g : MG} {μ : MU} {Q : Option MV → MG → MU → Prop} {a : Nat} {j : Int} : Wp E 125 39 ls (.inl j :: .inr (.inr (.inl a)) :: st) g μ Q = (((mKd g a).1 = 10 ∧ 0 ≤ j ∧ j < (mKd g a).2) ∧ Wp E 125 40 ls (.inl (μ a j.toNat) :: st) g μ Q) := Wp_ald k125_39 (fun _ => rfl)
theorem k125_40 : mCode 125 40 = some (.if_icmp .ge 40, 3) := by decide +kernel
theorem x125_40 {E : ME} {ls : MLs} {st : List MV} {g : MG} {μ : MU} {Q : Option MV → MG → MU → Prop} {a b : Int} : Wp E 125 40 ls (.inl b :: .inl a :: st) g μ Q = ((b ≤ a → Wp E 125 80 ls st g μ Q) ∧ (a < b → Wp E 125 43 ls st g μ Q)) := Wp_cmp_ge k125_40 (by decide)
theorem k125_43 : mCode 125 43 = some (.aload_n 0, 1) := by decide +kernel
theorem x125_43 {E : ME} {ls : MLs} {st : List MV} {g : MG} {μ : MU} {Q : Option MV → MG → MU → Prop} {v : Nat ⊕ Nat} : Wp E 125 43 (some (.inr (.inr v)) :: ls) st g μ Q = Wp E 125 44 (some (.inr (.inr v)) :: ls) (.inr (.inr v) :: st) g μ Q := Wp_nx k125_43 rfl
theorem k125_44 : mCode 125 44 = some (.getfield 56, 3) := by decide +kernel
theorem x125_44 {E : ME} {ls : MLs} {st : List MV} {g : MG} {μ : MU} {Q : Option MV → MG → MU → Prop} {a : Nat} : Wp E 125 44 ls (.inr (.inr (.inl a)) :: st) g μ Q = ((mKd g a).1 = 6 ∧ Wp E 125 47 ls (mRv (mRf g a 19) :: st) g μ Q) := Wp_getR k125_44 f6_56 (by decide) (by decide)
theorem k125_47 : mCode 125 47 = some (.iload 5, 2) := by decide +kernel
theorem x125_47 {E : ME} {ls : MLs} {st : List MV} {g : MG} {μ : MU} {Q : Option MV → MG → MU → Prop} {l0 l1 l2 l3 l4 : Option MV} {v : Int} : Wp E 125 47 (l0 :: l1 :: l2 :: l3 :: l4 :: some (.inl v) :: ls) st g μ Q = Wp E 125 49 (l0 :: l1 :: l2 :: l3 :: l4 :: some (.inl v) :: ls) (.inl v :: st) g μ Q := Wp_nx k125_47 rfl
theorem k125_49 : mCode 125 49 = some (.aload_n 0, 1) := by decide +kernel
theorem x125_49 {E : ME} {ls : MLs} {st : List MV} {g : MG} {μ : MU} {Q : Option MV → MG → MU → Prop} {v : Nat ⊕ Nat} : Wp E 125 49 (some (.inr (.inr v)) :: ls) st g μ Q = Wp E 125 50 (some (.inr (.inr v)) :: ls) (.inr (.inr v) :: st) g μ Q := Wp_nx k125_49 rfl
theorem k125_50 : mCode 125 50 = some (.getfield 32, 3) := by decide +kernel
theorem x125_50 {E : ME} {ls : MLs} {st : List MV} {g : MG} {μ : MU} {Q : Option MV → MG → MU → Prop} {a : Nat} : Wp E 125 50 ls (.inr (.inr (.inl a)) :: st) g μ Q = ((mKd g a).1 = 6 ∧ Wp E 125 53 ls (mRv (mRf g a 10) :: st) g μ Q) := Wp_getR k125_50 f6_32 (by decide) (by decide)
theorem k125_53 : mCode 125 53 = some (.iload 5, 2) := by decide +kernel
theorem x125_53 {E : ME} {ls : MLs} {st : List MV} {g : MG} {μ : MU} {Q : Option MV → MG → MU → Prop} {l0 l1 l2 l3 l4 : Option MV} {v : Int} : Wp E 125 53 (l0 :: l1 :: l2 :: l3 :: l4 :: some (.inl v) :: ls) st g μ Q = Wp E 125 55 (l0 :: l1 :: l2 :: l3 :: l4 :: some (.inl v) :: ls) (.inl v :: st) g μ Q := Wp_nx k125_53 rfl
theorem k125_55 : mCode 125 55 = some (.iaload, 1) := by decide +kernel
theorem x125_55 {E : ME} {ls : MLs} {st : List MV} {g : MG} {μ : MU} {Q : Option MV → MG → MU → Prop} {a : Nat} {j : Int} : Wp E 125 55 ls (.inl j :: .inr (.inr (.inl a)) :: st) g μ Q = (((mKd g a).1 = 10 ∧ 0 ≤ j ∧ j < (mKd g a).2) ∧ Wp E 125 56 ls (.inl (μ a j.toNat) :: st) g μ Q) := Wp_ald k125_55 (fun _ => rfl)
theorem k125_56 : mCode 125 56 = some (.iastore, 1) := by decide +kernel
theorem x125_56 {E : ME} {ls : MLs} {st : List MV} {g : MG} {μ : MU} {Q : Option MV → MG → MU → Prop} {a : Nat} {j v : Int} : Wp E 125 56 ls (.inl v :: .inl j :: .inr (.inr (.inl a)) :: st) g μ Q = (((mKd g a).1 = 10 ∧ 0 ≤ j ∧ j < (mKd g a).2) ∧ Wp E 125 57 ls st g (mUp μ a j.toNat v) Q) := Wp_iast k125_56
theorem k125_57 : mCode 125 57 = some (.aload_n 0, 1) := by decide +kernel
theorem x125_57 {E : ME} {ls : MLs} {st : List MV} {g : MG} {μ : MU} {Q : Option MV → MG → MU → Prop} {v : Nat ⊕ Nat} : Wp E 125 57 (some (.inr (.inr v)) :: ls) st g μ Q = Wp E 125 58 (some (.inr (.inr v)) :: ls) (.inr (.inr v) :: st) g μ Q := Wp_nx k125_57 rfl
theorem k125_58 : mCode 125 58 = some (.getfield 59, 3) := by decide +kernel
theorem x125_58 {E : ME} {ls : MLs} {st : List MV} {g : MG} {μ : MU} {Q : Option MV → MG → MU → Prop} {a : Nat} : Wp E 125 58 ls (.inr (.inr (.inl a)) :: st) g μ Q = ((mKd g a).1 = 6 ∧ Wp E 125 61 ls (mRv (mRf g a 20) :: st) g μ Q) := Wp_getR k125_58 f6_59 (by decide) (by decide)
theorem k125_61 : mCode 125 61 = some (.iload 5, 2) := by decide +kernel
theorem x125_61 {E : ME} {ls : MLs} {st : List MV} {g : MG} {μ : MU} {Q : Option MV → MG → MU → Prop} {l0 l1 l2 l3 l4 : Option MV} {v : Int} : Wp E 125 61 (l0 :: l1 :: l2 :: l3 :: l4 :: some (.inl v) :: ls) st g μ Q = Wp E 125 63 (l0 :: l1 :: l2 :: l3 :: l4 :: some (.inl v) :: ls) (.inl v :: st) g μ Q := Wp_nx k125_61 rfl
theorem k125_63 : mCode 125 63 = some (.aload_n 0, 1) := by decide +kernel
theorem x125_63 {E : ME} {ls : MLs} {st : List MV} {g : MG} {μ : MU} {Q : Option MV → MG → MU → Prop} {v : Nat ⊕ Nat} : Wp E 125 63 (some (.inr (.inr v)) :: ls) st g μ Q = Wp E 125 64 (some (.inr (.inr v)) :: ls) (.inr (.inr v) :: st) g μ Q := Wp_nx k125_63 rfl
theorem k125_64 : mCode 125 64 = some (.getfield 35, 3) := by decide +kernel
theorem x125_64 {E : ME} {ls : MLs} {st : List MV} {g : MG} {μ : MU} {Q : Option MV → MG → MU → Prop} {a : Nat} : Wp E 125 64 ls (.inr (.inr (.inl a)) :: st) g μ Q = ((mKd g a).1 = 6 ∧ Wp E 125 67 ls (mRv (mRf g a 11) :: st) g μ Q) := Wp_getR k125_64 f6_35 (by decide) (by decide)
theorem k125_67 : mCode 125 67 = some (.iload 5, 2) := by decide +kernel
theorem x125_67 {E : ME} {ls : MLs} {st : List MV} {g : MG} {μ : MU} {Q : Option MV → MG → MU → Prop} {l0 l1 l2 l3 l4 : Option MV} {v : Int} : Wp E 125 67 (l0 :: l1 :: l2 :: l3 :: l4 :: some (.inl v) :: ls) st g μ Q = Wp E 125 69 (l0 :: l1 :: l2 :: l3 :: l4 :: some (.inl v) :: ls) (.inl v :: st) g μ Q := Wp_nx k125_67 rfl
theorem k125_69 : mCode 125 69 = some (.iaload, 1) := by decide +kernel
theorem x125_69 {E : ME} {ls : MLs} {st : List MV} {g : MG} {μ : MU} {Q : Option MV → MG → MU → Prop} {a : Nat} {j : Int} : Wp E 125 69 ls (.inl j :: .inr (.inr (.inl a)) :: st) g μ Q = (((mKd g a).1 = 10 ∧ 0 ≤ j ∧ j < (mKd g a).2) ∧ Wp E 125 70 ls (.inl (μ a j.toNat) :: st) g μ Q) := Wp_ald k125_69 (fun _ => rfl)
theorem k125_70 : mCode 125 70 = some (.invokestatic 108, 3) := by decide +kernel
theorem x125_70 {E : ME} {ls : MLs} {st : List MV} {g : MG} {μ : MU} {Q : Option MV → MG → MU → Prop} {a0 : Int} : Wp E 125 70 ls (.inl a0 :: st) g μ Q = (st.length ≤ 4 ∧ Wp E 90 0 [some (.inl a0), none, none] [] g μ (fun r g' μ' => (g'.1 = g.1 ∧ g'.2.1 = g.2.1) ∧ Wp E 125 73 ls (mPush r st) g' μ' Q)) := Wp_cS k125_70 m6_108 (by decide) (as := [.inl a0]) rfl rfl rfl ⟨Nat.le_of_ble_eq_true rfl, by decide⟩
theorem k125_73 : mCode 125 73 = some (.iastore, 1) := by decide +kernel
theorem x125_73 {E : ME} {ls : MLs} {st : List MV} {g : MG} {μ : MU} {Q : Option MV → MG → MU → Prop} {a : Nat} {j v : Int} : Wp E 125 73 ls (.inl v :: .inl j :: .inr (.inr (.inl a)) :: st) g μ Q = (((mKd g a).1 = 10 ∧ 0 ≤ j ∧ j < (mKd g a).2) ∧ Wp E 125 74 ls st g (mUp μ a j.toNat v) Q) := Wp_iast k125_73
theorem k125_74 : mCode 125 74 = some (.iinc 5 1, 3) := by decide +kernel
theorem x125_74 {E : ME} {ls : MLs} {st : List MV} {g : MG} {μ : MU} {Q : Option MV → MG → MU → Prop} {l0 l1 l2 l3 l4 : Option MV} {v : Int} : Wp E 125 74 (l0 :: l1 :: l2 :: l3 :: l4 :: some (.inl v) :: ls) st g μ Q = (mNl (some l4) = true ∧ Wp E 125 77 (l0 :: l1 :: l2 :: l3 :: l4 :: some (.inl (mWr (v + 1))) :: ls) st g μ Q) := Wp_inc k125_74 rfl rfl rfl
theorem k125_77 : mCode 125 77 = some (.goto (-46), 3) := by decide +kernel
theorem x125_77 {E : ME} {ls : MLs} {st : List MV} {g : MG} {μ : MU} {Q : Option MV → MG → MU → Prop} : Wp E 125 77 ls st g μ Q = Wp E 125 31 ls st g μ Q := Wp_goto k125_77 (by decide)
theorem k125_80 : mCode 125 80 = some (.aload_n 0, 1) := by decide +kernel
theorem x125_80 {E : ME} {ls : MLs} {st : List MV} {g : MG} {μ : MU} {Q : Option MV → MG → MU → Prop} {v : Nat ⊕ Nat} : Wp E 125 80 (some (.inr (.inr v)) :: ls) st g μ Q = Wp E 125 81 (some (.inr (.inr v)) :: ls) (.inr (.inr v) :: st) g μ Q := Wp_nx k125_80 rfl
theorem k125_81 : mCode 125 81 = some (.iload_n 1, 1) := by decide +kernel
theorem x125_81 {E : ME} {ls : MLs} {st : List MV} {g : MG} {μ : MU} {Q : Option MV → MG → MU → Prop} {l0 : Option MV} {v : Int} : Wp E 125 81 (l0 :: some (.inl v) :: ls) st g μ Q = Wp E 125 82 (l0 :: some (.inl v) :: ls) (.inl v :: st) g μ Q := Wp_nx k125_81 rfl
theorem k125_82 : mCode 125 82 = some (.iload_n 2, 1) := by decide +kernel
theorem x125_82 {E : ME} {ls : MLs} {st : List MV} {g : MG} {μ : MU} {Q : Option MV → MG → MU → Prop} {l0 l1 : Option MV} {v : Int} : Wp E 125 82 (l0 :: l1 :: some (.inl v) :: ls) st g μ Q = Wp E 125 83 (l0 :: l1 :: some (.inl v) :: ls) (.inl v :: st) g μ Q := Wp_nx k125_82 rfl
theorem k125_83 : mCode 125 83 = some (.iload_n 3, 1) := by decide +kernel
theorem x125_83 {E : ME} {ls : MLs} {st : List MV} {g : MG} {μ : MU} {Q : Option MV → MG → MU → Prop} {l0 l1 l2 : Option MV} {v : Int} : Wp E 125 83 (l0 :: l1 :: l2 :: some (.inl v) :: ls) st g μ Q = Wp E 125 84 (l0 :: l1 :: l2 :: some (.inl v) :: ls) (.inl v :: st) g μ Q := Wp_nx k125_83 rfl
theorem k125_84 : mCode 125 84 = some (.iconst 0, 1) := by decide +kernel
theorem x125_84 {E : ME} {ls : MLs} {st : List MV} {g : MG} {μ : MU} {Q : Option MV → MG → MU → Prop} : Wp E 125 84 ls st g μ Q = Wp E 125 85 ls (.inl 0 :: st) g μ Q := Wp_nx k125_84 rfl
theorem k125_85 : mCode 125 85 = some (.invokevirtual 143, 3) := by decide +kernel
theorem x125_85 {E : ME} {ls : MLs} {st : List MV} {g : MG} {μ : MU} {Q : Option MV → MG → MU → Prop} {r : Nat} {a0 : Int} {a1 : Int} {a2 : Int} {a3 : Int} : Wp E 125 85 ls (.inl a3 :: .inl a2 :: .inl a1 :: .inl a0 :: .inr (.inr (.inl r)) :: st) g μ Q = ((st.length ≤ 4 ∧ ((mKd g r).1 == 6) = true) ∧ Wp E 104 0 [some (.inr (.inr (.inl r))), some (.inl a0), some (.inl a1), some (.inl a2), some (.inl a3), none] [] g μ (fun r g' μ' => (g'.1 = g.1 ∧ g'.2.1 = g.2.1) ∧ Wp E 125 88 ls (mPush r st) g' μ' Q)) := Wp_cV k125_85 m6_143 (by decide) (as := [.inr (.inr (.inl r)), .inl a0, .inl a1, .inl a2, .inl a3]) rfl rfl rfl ⟨Nat.le_of_ble_eq_true rfl, by decide⟩
theorem k125_88 : mCode 125 88 = some (.istore 5, 2) := by decide +kernel
theorem x125_88 {E : ME} {ls : MLs} {st : List MV} {g : MG} {μ : MU} {Q : Option MV → MG → MU → Prop} {l0 l1 l2 l3 l4 : Option MV} {lk : Option MV} {v : Int} : Wp E 125 88 (l0 :: l1 :: l2 :: l3 :: l4 :: lk :: ls) (.inl v :: st) g μ Q = ((mNl (some l4) = true ∧ mNl (some lk) = true) ∧ Wp E 125 90 (l0 :: l1 :: l2 :: l3 :: l4 :: some (.inl v) :: ls) st g μ Q) := Wp_sti k125_88 (fun _ => rfl) rfl rfl rfl
theorem k125_90 : mCode 125 90 = some (.bipush (-6), 2) := by decide +kernel
theorem x125_90 {E : ME} {ls : MLs} {st : List MV} {g : MG} {μ : MU} {Q : Option MV → MG → MU → Prop} : Wp E 125 90 ls st g μ Q = Wp E 125 92 ls (.inl (-6) :: st) g μ Q := Wp_nx k125_90 rfl
theorem k125_92 : mCode 125 92 = some (.istore 6, 2) := by decide +kernel
theorem x125_92 {E : ME} {ls : MLs} {st : List MV} {g : MG} {μ : MU} {Q : Option MV → MG → MU → Prop} {l0 l1 l2 l3 l4 l5 : Option MV} {lk : Option MV} {v : Int} : Wp E 125 92 (l0 :: l1 :: l2 :: l3 :: l4 :: l5 :: lk :: ls) (.inl v :: st) g μ Q = ((mNl (some l5) = true ∧ mNl (some lk) = true) ∧ Wp E 125 94 (l0 :: l1 :: l2 :: l3 :: l4 :: l5 :: some (.inl v) :: ls) st g μ Q) := Wp_sti k125_92 (fun _ => rfl) rfl rfl rfl
theorem k125_94 : mCode 125 94 = some (.iload_n 3, 1) := by decide +kernel
theorem x125_94 {E : ME} {ls : MLs} {st : List MV} {g : MG} {μ : MU} {Q : Option MV → MG → MU → Prop} {l0 l1 l2 : Option MV} {v : Int} : Wp E 125 94 (l0 :: l1 :: l2 :: some (.inl v) :: ls) st g μ Q = Wp E 125 95 (l0 :: l1 :: l2 :: some (.inl v) :: ls) (.inl v :: st) g μ Q := Wp_nx k125_94 rfl
theorem k125_95 : mCode 125 95 = some (.istore 7, 2) := by decide +kernel
theorem x125_95 {E : ME} {ls : MLs} {st : List MV} {g : MG} {μ : MU} {Q : Option MV → MG → MU → Prop} {l0 l1 l2 l3 l4 l5 l6 : Option MV} {lk : Option MV} {v : Int} : Wp E 125 95 (l0 :: l1 :: l2 :: l3 :: l4 :: l5 :: l6 :: lk :: ls) (.inl v :: st) g μ Q = ((mNl (some l6) = true ∧ mNl (some lk) = true) ∧ Wp E 125 97 (l0 :: l1 :: l2 :: l3 :: l4 :: l5 :: l6 :: some (.inl v) :: ls) st g μ Q) := Wp_sti k125_95 (fun _ => rfl) rfl rfl rfl
theorem k125_97 : mCode 125 97 = some (.iload 7, 2) := by decide +kernel
theorem x125_97 {E : ME} {ls : MLs} {st : List MV} {g : MG} {μ : MU} {Q : Option MV → MG → MU → Prop} {l0 l1 l2 l3 l4 l5 l6 : Option MV} {v : Int} : Wp E 125 97 (l0 :: l1 :: l2 :: l3 :: l4 :: l5 :: l6 :: some (.inl v) :: ls) st g μ Q = Wp E 125 99 (l0 :: l1 :: l2 :: l3 :: l4 :: l5 :: l6 :: some (.inl v) :: ls) (.inl v :: st) g μ Q := Wp_nx k125_97 rfl
theorem k125_99 : mCode 125 99 = some (.sipush 1439, 3) := by decide +kernel
theorem x125_99 {E : ME} {ls : MLs} {st : List MV} {g : MG} {μ : MU} {Q : Option MV → MG → MU → Prop} : Wp E 125 99 ls st g μ Q = Wp E 125 102 ls (.inl 1439 :: st) g μ Q := Wp_nx k125_99 rfl
theorem k125_102 : mCode 125 102 = some (.if_icmp .gt 53, 3) := by decide +kernel
theorem x125_102 {E : ME} {ls : MLs} {st : List MV} {g : MG} {μ : MU} {Q : Option MV → MG → MU → Prop} {a b : Int} : Wp E 125 102 ls (.inl b :: .inl a :: st) g μ Q = ((b < a → Wp E 125 155 ls st g μ Q) ∧ (a ≤ b → Wp E 125 105 ls st g μ Q)) := Wp_cmp_gt k125_102 (by decide)
theorem k125_105 : mCode 125 105 = some (.iload 6, 2) := by decide +kernel
theorem x125_105 {E : ME} {ls : MLs} {st : List MV} {g : MG} {μ : MU} {Q : Option MV → MG → MU → Prop} {l0 l1 l2 l3 l4 l5 : Option MV} {v : Int} : Wp E 125 105 (l0 :: l1 :: l2 :: l3 :: l4 :: l5 :: some (.inl v) :: ls) st g μ Q = Wp E 125 107 (l0 :: l1 :: l2 :: l3 :: l4 :: l5 :: some (.inl v) :: ls) (.inl v :: st) g μ Q := Wp_nx k125_105 rfl
theorem k125_107 : mCode 125 107 = some (.bipush (-6), 2) := by decide +kernel
theorem x125_107 {E : ME} {ls : MLs} {st : List MV} {g : MG} {μ : MU} {Q : Option MV → MG → MU → Prop} : Wp E 125 107 ls st g μ Q = Wp E 125 109 ls (.inl (-6) :: st) g μ Q := Wp_nx k125_107 rfl
theorem k125_109 : mCode 125 109 = some (.if_icmp .ne 46, 3) := by decide +kernel
theorem x125_109 {E : ME} {ls : MLs} {st : List MV} {g : MG} {μ : MU} {Q : Option MV → MG → MU → Prop} {a b : Int} : Wp E 125 109 ls (.inl b :: .inl a :: st) g μ Q = ((¬ a = b → Wp E 125 155 ls st g μ Q) ∧ (a = b → Wp E 125 112 ls st g μ Q)) := Wp_cmp_ne k125_109 (by decide)
theorem k125_112 : mCode 125 112 = some (.aload_n 0, 1) := by decide +kernel
theorem x125_112 {E : ME} {ls : MLs} {st : List MV} {g : MG} {μ : MU} {Q : Option MV → MG → MU → Prop} {v : Nat ⊕ Nat} : Wp E 125 112 (some (.inr (.inr v)) :: ls) st g μ Q = Wp E 125 113 (some (.inr (.inr v)) :: ls) (.inr (.inr v) :: st) g μ Q := Wp_nx k125_112 rfl
theorem k125_113 : mCode 125 113 = some (.getfield 7, 3) := by decide +kernel
theorem x125_113 {E : ME} {ls : MLs} {st : List MV} {g : MG} {μ : MU} {Q : Option MV → MG → MU → Prop} {a : Nat} : Wp E 125 113 ls (.inr (.inr (.inl a)) :: st) g μ Q = ((mKd g a).1 = 6 ∧ Wp E 125 116 ls (mRv (mRf g a 1) :: st) g μ Q) := Wp_getR k125_113 f6_7 (by decide) (by decide)
theorem k125_116 : mCode 125 116 = some (.bipush 68, 2) := by decide +kernel
theorem x125_116 {E : ME} {ls : MLs} {st : List MV} {g : MG} {μ : MU} {Q : Option MV → MG → MU → Prop} : Wp E 125 116 ls st g μ Q = Wp E 125 118 ls (.inl 68 :: st) g μ Q := Wp_nx k125_116 rfl
theorem k125_118 : mCode 125 118 = some (.iconst 4, 1) := by decide +kernel
theorem x125_118 {E : ME} {ls : MLs} {st : List MV} {g : MG} {μ : MU} {Q : Option MV → MG → MU → Prop} : Wp E 125 118 ls st g μ Q = Wp E 125 119 ls (.inl 4 :: st) g μ Q := Wp_nx k125_118 rfl
theorem k125_119 : mCode 125 119 = some (.iload 5, 2) := by decide +kernel
theorem x125_119 {E : ME} {ls : MLs} {st : List MV} {g : MG} {μ : MU} {Q : Option MV → MG → MU → Prop} {l0 l1 l2 l3 l4 : Option MV} {v : Int} : Wp E 125 119 (l0 :: l1 :: l2 :: l3 :: l4 :: some (.inl v) :: ls) st g μ Q = Wp E 125 121 (l0 :: l1 :: l2 :: l3 :: l4 :: some (.inl v) :: ls) (.inl v :: st) g μ Q := Wp_nx k125_119 rfl
theorem k125_121 : mCode 125 121 = some (.imul, 1) := by decide +kernel
theorem x125_121 {E : ME} {ls : MLs} {st : List MV} {g : MG} {μ : MU} {Q : Option MV → MG → MU → Prop} {a b : Int} : Wp E 125 121 ls (.inl b :: .inl a :: st) g μ Q = Wp E 125 122 ls (.inl (mWr (a * b)) :: st) g μ Q := Wp_nx k125_121 rfl
theorem k125_122 : mCode 125 122 = some (.iadd, 1) := by decide +kernel
theorem x125_122 {E : ME} {ls : MLs} {st : List MV} {g : MG} {μ : MU} {Q : Option MV → MG → MU → Prop} {a b : Int} : Wp E 125 122 ls (.inl b :: .inl a :: st) g μ Q = Wp E 125 123 ls (.inl (mWr (a + b)) :: st) g μ Q := Wp_nx k125_122 rfl
theorem k125_123 : mCode 125 123 = some (.iconst 2, 1) := by decide +kernel
theorem x125_123 {E : ME} {ls : MLs} {st : List MV} {g : MG} {μ : MU} {Q : Option MV → MG → MU → Prop} : Wp E 125 123 ls st g μ Q = Wp E 125 124 ls (.inl 2 :: st) g μ Q := Wp_nx k125_123 rfl
theorem k125_124 : mCode 125 124 = some (.iadd, 1) := by decide +kernel
theorem x125_124 {E : ME} {ls : MLs} {st : List MV} {g : MG} {μ : MU} {Q : Option MV → MG → MU → Prop} {a b : Int} : Wp E 125 124 ls (.inl b :: .inl a :: st) g μ Q = Wp E 125 125 ls (.inl (mWr (a + b)) :: st) g μ Q := Wp_nx k125_124 rfl
theorem k125_125 : mCode 125 125 = some (.iload 7, 2) := by decide +kernel
theorem x125_125 {E : ME} {ls : MLs} {st : List MV} {g : MG} {μ : MU} {Q : Option MV → MG → MU → Prop} {l0 l1 l2 l3 l4 l5 l6 : Option MV} {v : Int} : Wp E 125 125 (l0 :: l1 :: l2 :: l3 :: l4 :: l5 :: l6 :: some (.inl v) :: ls) st g μ Q = Wp E 125 127 (l0 :: l1 :: l2 :: l3 :: l4 :: l5 :: l6 :: some (.inl v) :: ls) (.inl v :: st) g μ Q := Wp_nx k125_125 rfl
theorem k125_127 : mCode 125 127 = some (.iastore, 1) := by decide +kernel
theorem x125_127 {E : ME} {ls : MLs} {st : List MV} {g : MG} {μ : MU} {Q : Option MV → MG → MU → Prop} {a : Nat} {j v : Int} : Wp E 125 127 ls (.inl v :: .inl j :: .inr (.inr (.inl a)) :: st) g μ Q = (((mKd g a).1 = 10 ∧ 0 ≤ j ∧ j < (mKd g a).2) ∧ Wp E 125 128 ls st g (mUp μ a j.toNat v) Q) := Wp_iast k125_127
theorem k125_128 : mCode 125 128 = some (.aload_n 0, 1) := by decide +kernel
theorem x125_128 {E : ME} {ls : MLs} {st : List MV} {g : MG} {μ : MU} {Q : Option MV → MG → MU → Prop} {v : Nat ⊕ Nat} : Wp E 125 128 (some (.inr (.inr v)) :: ls) st g μ Q = Wp E 125 129 (some (.inr (.inr v)) :: ls) (.inr (.inr v) :: st) g μ Q := Wp_nx k125_128 rfl
theorem k125_129 : mCode 125 129 = some (.iconst 0, 1) := by decide +kernel
theorem x125_129 {E : ME} {ls : MLs} {st : List MV} {g : MG} {μ : MU} {Q : Option MV → MG → MU → Prop} : Wp E 125 129 ls st g μ Q = Wp E 125 130 ls (.inl 0 :: st) g μ Q := Wp_nx k125_129 rfl
theorem k125_130 : mCode 125 130 = some (.invokevirtual 164, 3) := by decide +kernel
theorem x125_130 {E : ME} {ls : MLs} {st : List MV} {g : MG} {μ : MU} {Q : Option MV → MG → MU → Prop} {r : Nat} {a0 : Int} : Wp E 125 130 ls (.inl a0 :: .inr (.inr (.inl r)) :: st) g μ Q = ((st.length ≤ 4 ∧ ((mKd g r).1 == 6) = true) ∧ Wp E 89 0 [some (.inr (.inr (.inl r))), some (.inl a0), none, none] [] g μ (fun r g' μ' => (g'.1 = g.1 ∧ g'.2.1 = g.2.1) ∧ Wp E 125 133 ls (mPush r st) g' μ' Q)) := Wp_cV k125_130 m6_164 (by decide) (as := [.inr (.inr (.inl r)), .inl a0]) rfl rfl rfl ⟨Nat.le_of_ble_eq_true rfl, by decide⟩
theorem k125_133 : mCode 125 133 = some (.aload_n 0, 1) := by decide +kernel
theorem x125_133 {E : ME} {ls : MLs} {st : List MV} {g : MG} {μ : MU} {Q : Option MV → MG → MU → Prop} {v : Nat ⊕ Nat} : Wp E 125 133 (some (.inr (.inr v)) :: ls) st g μ Q = Wp E 125 134 (some (.inr (.inr v)) :: ls) (.inr (.inr v) :: st) g μ Q := Wp_nx k125_133 rfl
theorem k125_134 : mCode 125 134 = some (.invokevirtual 186, 3) := by decide +kernel
theorem x125_134 {E : ME} {ls : MLs} {st : List MV} {g : MG} {μ : MU} {Q : Option MV → MG → MU → Prop} {r : Nat} : Wp E 125 134 ls (.inr (.inr (.inl r)) :: st) g μ Q = ((st.length ≤ 4 ∧ ((mKd g r).1 == 6) = true) ∧ Wp E 124 0 [some (.inr (.inr (.inl r))), none, none, none] [] g μ (fun r g' μ' => (g'.1 = g.1 ∧ g'.2.1 = g.2.1) ∧ Wp E 125 137 ls (mPush r st) g' μ' Q)) := Wp_cV k125_134 m6_186 (by decide) (as := [.inr (.inr (.inl r))]) rfl rfl rfl ⟨Nat.le_of_ble_eq_true rfl, by decide⟩
theorem k125_137 : mCode 125 137 = some (.ifCond .eq 8, 3) := by decide +kernel
theorem x125_137 {E : ME} {ls : MLs} {st : List MV} {g : MG} {μ : MU} {Q : Option MV → MG → MU → Prop} {a : Int} : Wp E 125 137 ls (.inl a :: st) g μ Q = ((a = 0 → Wp E 125 145 ls st g μ Q) ∧ (¬ a = 0 → Wp E 125 140 ls st g μ Q)) := Wp_if_eq k125_137 (by decide)
theorem k125_140 : mCode 125 140 = some (.iload 7, 2) := by decide +kernel
theorem x125_140 {E : ME} {ls : MLs} {st : List MV} {g : MG} {μ : MU} {Q : Option MV → MG → MU → Prop} {l0 l1 l2 l3 l4 l5 l6 : Option MV} {v : Int} : Wp E 125 140 (l0 :: l1 :: l2 :: l3 :: l4 :: l5 :: l6 :: some (.inl v) :: ls) st g μ Q = Wp E 125 142 (l0 :: l1 :: l2 :: l3 :: l4 :: l5 :: l6 :: some (.inl v) :: ls) (.inl v :: st) g μ Q := Wp_nx k125_140 rfl
theorem k125_142 : mCode 125 142 = some (.goto 5, 3) := by decide +kernel
theorem x125_142 {E : ME} {ls : MLs} {st : List MV} {g : MG} {μ : MU} {Q : Option MV → MG → MU → Prop} : Wp E 125 142 ls st g μ Q = Wp E 125 147 ls st g μ Q := Wp_goto k125_142 (by decide)
theorem k125_145 : mCode 125 145 = some (.bipush (-6), 2) := by decide +kernel
theorem x125_145 {E : ME} {ls : MLs} {st : List MV} {g : MG} {μ : MU} {Q : Option MV → MG → MU → Prop} : Wp E 125 145 ls st g μ Q = Wp E 125 147 ls (.inl (-6) :: st) g μ Q := Wp_nx k125_145 rfl
theorem k125_147 : mCode 125 147 = some (.istore 6, 2) := by decide +kernel
theorem x125_147 {E : ME} {ls : MLs} {st : List MV} {g : MG} {μ : MU} {Q : Option MV → MG → MU → Prop} {l0 l1 l2 l3 l4 l5 : Option MV} {lk : Option MV} {v : Int} : Wp E 125 147 (l0 :: l1 :: l2 :: l3 :: l4 :: l5 :: lk :: ls) (.inl v :: st) g μ Q = ((mNl (some l5) = true ∧ mNl (some lk) = true) ∧ Wp E 125 149 (l0 :: l1 :: l2 :: l3 :: l4 :: l5 :: some (.inl v) :: ls) st g μ Q) := Wp_sti k125_147 (fun _ => rfl) rfl rfl rfl
theorem k125_149 : mCode 125 149 = some (.iinc 7 1, 3) := by decide +kernel
theorem x125_149 {E : ME} {ls : MLs} {st : List MV} {g : MG} {μ : MU} {Q : Option MV → MG → MU → Prop} {l0 l1 l2 l3 l4 l5 l6 : Option MV} {v : Int} : Wp E 125 149 (l0 :: l1 :: l2 :: l3 :: l4 :: l5 :: l6 :: some (.inl v) :: ls) st g μ Q = (mNl (some l6) = true ∧ Wp E 125 152 (l0 :: l1 :: l2 :: l3 :: l4 :: l5 :: l6 :: some (.inl (mWr (v + 1))) :: ls) st g μ Q) := Wp_inc k125_149 rfl rfl rfl
theorem k125_152 : mCode 125 152 = some (.goto (-55), 3) := by decide +kernel
theorem x125_152 {E : ME} {ls : MLs} {st : List MV} {g : MG} {μ : MU} {Q : Option MV → MG → MU → Prop} : Wp E 125 152 ls st g μ Q = Wp E 125 97 ls st g μ Q := Wp_goto k125_152 (by decide)
theorem k125_155 : mCode 125 155 = some (.aload_n 0, 1) := by decide +kernel
theorem x125_155 {E : ME} {ls : MLs} {st : List MV} {g : MG} {μ : MU} {Q : Option MV → MG → MU → Prop} {v : Nat ⊕ Nat} : Wp E 125 155 (some (.inr (.inr v)) :: ls) st g μ Q = Wp E 125 156 (some (.inr (.inr v)) :: ls) (.inr (.inr v) :: st) g μ Q := Wp_nx k125_155 rfl
theorem k125_156 : mCode 125 156 = some (.iload 5, 2) := by decide +kernel
theorem x125_156 {E : ME} {ls : MLs} {st : List MV} {g : MG} {μ : MU} {Q : Option MV → MG → MU → Prop} {l0 l1 l2 l3 l4 : Option MV} {v : Int} : Wp E 125 156 (l0 :: l1 :: l2 :: l3 :: l4 :: some (.inl v) :: ls) st g μ Q = Wp E 125 158 (l0 :: l1 :: l2 :: l3 :: l4 :: some (.inl v) :: ls) (.inl v :: st) g μ Q := Wp_nx k125_156 rfl
theorem k125_158 : mCode 125 158 = some (.invokevirtual 149, 3) := by decide +kernel
theorem x125_158 {E : ME} {ls : MLs} {st : List MV} {g : MG} {μ : MU} {Q : Option MV → MG → MU → Prop} {r : Nat} {a0 : Int} : Wp E 125 158 ls (.inl a0 :: .inr (.inr (.inl r)) :: st) g μ Q = ((st.length ≤ 4 ∧ ((mKd g r).1 == 6) = true) ∧ Wp E 106 0 [some (.inr (.inr (.inl r))), some (.inl a0), none] [] g μ (fun r g' μ' => (g'.1 = g.1 ∧ g'.2.1 = g.2.1) ∧ Wp E 125 161 ls (mPush r st) g' μ' Q)) := Wp_cV k125_158 m6_149 (by decide) (as := [.inr (.inr (.inl r)), .inl a0]) rfl rfl rfl ⟨Nat.le_of_ble_eq_true rfl, by decide⟩
theorem k125_161 : mCode 125 161 = some (.pop, 1) := by decide +kernel
theorem x125_161 {E : ME} {ls : MLs} {st : List MV} {g : MG} {μ : MU} {Q : Option MV → MG → MU → Prop} {v : MV} : Wp E 125 161 ls (v :: st) g μ Q = (mC1 v = true ∧ Wp E 125 162 ls st g μ Q) := Wp_pop k125_161
theorem k125_162 : mCode 125 162 = some (.iload 6, 2) := by decide +kernel
theorem x125_162 {E : ME} {ls : MLs} {st : List MV} {g : MG} {μ : MU} {Q : Option MV → MG → MU → Prop} {l0 l1 l2 l3 l4 l5 : Option MV} {v : Int} : Wp E 125 162 (l0 :: l1 :: l2 :: l3 :: l4 :: l5 :: some (.inl v) :: ls) st g μ Q = Wp E 125 164 (l0 :: l1 :: l2 :: l3 :: l4 :: l5 :: some (.inl v) :: ls) (.inl v :: st) g μ Q := Wp_nx k125_162 rfl
theorem k125_164 : mCode 125 164 = some (.ireturn, 1) := by decide +kernel
theorem x125_164 {E : ME} {ls : MLs} {g : MG} {μ : MU} {Q : Option MV → MG → MU → Prop} {v : Int} : Wp E 125 164 ls [.inl v] g μ Q = Q (some (.inl v)) g μ := Wp_retI k125_164 (by decide)
theorem k126_0 : mCode 126 0 = some (.aload_n 0, 1) := by decide +kernel
theorem x126_0 {E : ME} {ls : MLs} {st : List MV} {g : MG} {μ : MU} {Q : Option MV → MG → MU → Prop} {v : Nat ⊕ Nat} : Wp E 126 0 (some (.inr (.inr v)) :: ls) st g μ Q = Wp E 126 1 (some (.inr (.inr v)) :: ls) (.inr (.inr v) :: st) g μ Q := Wp_nx k126_0 rfl
theorem k126_1 : mCode 126 1 = some (.iconst 0, 1) := by decide +kernel
theorem x126_1 {E : ME} {ls : MLs} {st : List MV} {g : MG} {μ : MU} {Q : Option MV → MG → MU → Prop} : Wp E 126 1 ls st g μ Q = Wp E 126 2 ls (.inl 0 :: st) g μ Q := Wp_nx k126_1 rfl
theorem k126_2 : mCode 126 2 = some (.putfield 65, 3) := by decide +kernel
theorem x126_2 {E : ME} {ls : MLs} {st : List MV} {g : MG} {μ : MU} {Q : Option MV → MG → MU → Prop} {a : Nat} {v : Int} : Wp E 126 2 ls (.inl v :: .inr (.inr (.inl a)) :: st) g μ Q = ((mKd g a).1 = 6 ∧ Wp E 126 5 ls st g (mUp μ a 0 v) Q) := Wp_putI0 k126_2 f6_65 (by decide) (by decide)
theorem k126_5 : mCode 126 5 = some (.iload_n 1, 1) := by decide +kernel
theorem x126_5 {E : ME} {ls : MLs} {st : List MV} {g : MG} {μ : MU} {Q : Option MV → MG → MU → Prop} {l0 : Option MV} {v : Int} : Wp E 126 5 (l0 :: some (.inl v) :: ls) st g μ Q = Wp E 126 6 (l0 :: some (.inl v) :: ls) (.inl v :: st) g μ Q := Wp_nx k126_5 rfl
theorem k126_6 : mCode 126 6 = some (.iconst 0, 1) := by decide +kernel
theorem x126_6 {E : ME} {ls : MLs} {st : List MV} {g : MG} {μ : MU} {Q : Option MV → MG → MU → Prop} : Wp E 126 6 ls st g μ Q = Wp E 126 7 ls (.inl 0 :: st) g μ Q := Wp_nx k126_6 rfl
theorem k126_7 : mCode 126 7 = some (.bipush 99, 2) := by decide +kernel
theorem x126_7 {E : ME} {ls : MLs} {st : List MV} {g : MG} {μ : MU} {Q : Option MV → MG → MU → Prop} : Wp E 126 7 ls st g μ Q = Wp E 126 9 ls (.inl 99 :: st) g μ Q := Wp_nx k126_7 rfl
theorem k126_9 : mCode 126 9 = some (.invokestatic 69, 3) := by decide +kernel
theorem x126_9 {E : ME} {ls : MLs} {st : List MV} {g : MG} {μ : MU} {Q : Option MV → MG → MU → Prop} {a0 : Int} {a1 : Int} {a2 : Int} : Wp E 126 9 ls (.inl a2 :: .inl a1 :: .inl a0 :: st) g μ Q = (st.length ≤ 4 ∧ Wp E 77 0 [some (.inl a0), some (.inl a1), some (.inl a2)] [] g μ (fun r g' μ' => (g'.1 = g.1 ∧ g'.2.1 = g.2.1) ∧ Wp E 126 12 ls (mPush r st) g' μ' Q)) := Wp_cS k126_9 m6_69 (by decide) (as := [.inl a0, .inl a1, .inl a2]) rfl rfl rfl ⟨Nat.le_of_ble_eq_true rfl, by decide⟩
theorem k126_12 : mCode 126 12 = some (.ifCond .ne 6, 3) := by decide +kernel
theorem x126_12 {E : ME} {ls : MLs} {st : List MV} {g : MG} {μ : MU} {Q : Option MV → MG → MU → Prop} {a : Int} : Wp E 126 12 ls (.inl a :: st) g μ Q = ((¬ a = 0 → Wp E 126 18 ls st g μ Q) ∧ (a = 0 → Wp E 126 15 ls st g μ Q)) := Wp_if_ne k126_12 (by decide)
theorem k126_15 : mCode 126 15 = some (.bipush (-2), 2) := by decide +kernel
theorem x126_15 {E : ME} {ls : MLs} {st : List MV} {g : MG} {μ : MU} {Q : Option MV → MG → MU → Prop} : Wp E 126 15 ls st g μ Q = Wp E 126 17 ls (.inl (-2) :: st) g μ Q := Wp_nx k126_15 rfl
theorem k126_17 : mCode 126 17 = some (.ireturn, 1) := by decide +kernel
theorem x126_17 {E : ME} {ls : MLs} {g : MG} {μ : MU} {Q : Option MV → MG → MU → Prop} {v : Int} : Wp E 126 17 ls [.inl v] g μ Q = Q (some (.inl v)) g μ := Wp_retI k126_17 (by decide)
theorem k126_18 : mCode 126 18 = some (.aload_n 0, 1) := by decide +kernel
theorem x126_18 {E : ME} {ls : MLs} {st : List MV} {g : MG} {μ : MU} {Q : Option MV → MG → MU → Prop} {v : Nat ⊕ Nat} : Wp E 126 18 (some (.inr (.inr v)) :: ls) st g μ Q = Wp E 126 19 (some (.inr (.inr v)) :: ls) (.inr (.inr v) :: st) g μ Q := Wp_nx k126_18 rfl
theorem k126_19 : mCode 126 19 = some (.iconst 0, 1) := by decide +kernel
theorem x126_19 {E : ME} {ls : MLs} {st : List MV} {g : MG} {μ : MU} {Q : Option MV → MG → MU → Prop} : Wp E 126 19 ls st g μ Q = Wp E 126 20 ls (.inl 0 :: st) g μ Q := Wp_nx k126_19 rfl
theorem k126_20 : mCode 126 20 = some (.invokevirtual 164, 3) := by decide +kernel
theorem x126_20 {E : ME} {ls : MLs} {st : List MV} {g : MG} {μ : MU} {Q : Option MV → MG → MU → Prop} {r : Nat} {a0 : Int} : Wp E 126 20 ls (.inl a0 :: .inr (.inr (.inl r)) :: st) g μ Q = ((st.length ≤ 4 ∧ ((mKd g r).1 == 6) = true) ∧ Wp E 89 0 [some (.inr (.inr (.inl r))), some (.inl a0), none, none] [] g μ (fun r g' μ' => (g'.1 = g.1 ∧ g'.2.1 = g.2.1) ∧ Wp E 126 23 ls (mPush r st) g' μ' Q)) := Wp_cV k126_20 m6_164 (by decide) (as := [.inr (.inr (.inl r)), .inl a0]) rfl rfl rfl ⟨Nat.le_of_ble_eq_true rfl, by decide⟩
theorem k126_23 : mCode 126 23 = some (.aload_n 0, 1) := by decide +kernel
theorem x126_23 {E : ME} {ls : MLs} {st : List MV} {g : MG} {μ : MU} {Q : Option MV → MG → MU → Prop} {v : Nat ⊕ Nat} : Wp E 126 23 (some (.inr (.inr v)) :: ls) st g μ Q = Wp E 126 24 (some (.inr (.inr v)) :: ls) (.inr (.inr v) :: st) g μ Q := Wp_nx k126_23 rfl
theorem k126_24 : mCode 126 24 = some (.bipush (-6), 2) := by decide +kernel
theorem x126_24 {E : ME} {ls : MLs} {st : List MV} {g : MG} {μ : MU} {Q : Option MV → MG → MU → Prop} : Wp E 126 24 ls st g μ Q = Wp E 126 26 ls (.inl (-6) :: st) g μ Q := Wp_nx k126_24 rfl
theorem k126_26 : mCode 126 26 = some (.bipush (-6), 2) := by decide +kernel
theorem x126_26 {E : ME} {ls : MLs} {st : List MV} {g : MG} {μ : MU} {Q : Option MV → MG → MU → Prop} : Wp E 126 26 ls st g μ Q = Wp E 126 28 ls (.inl (-6) :: st) g μ Q := Wp_nx k126_26 rfl
theorem k126_28 : mCode 126 28 = some (.iconst 4, 1) := by decide +kernel
theorem x126_28 {E : ME} {ls : MLs} {st : List MV} {g : MG} {μ : MU} {Q : Option MV → MG → MU → Prop} : Wp E 126 28 ls st g μ Q = Wp E 126 29 ls (.inl 4 :: st) g μ Q := Wp_nx k126_28 rfl
theorem k126_29 : mCode 126 29 = some (.invokevirtual 167, 3) := by decide +kernel
theorem x126_29 {E : ME} {ls : MLs} {st : List MV} {g : MG} {μ : MU} {Q : Option MV → MG → MU → Prop} {r : Nat} {a0 : Int} {a1 : Int} {a2 : Int} : Wp E 126 29 ls (.inl a2 :: .inl a1 :: .inl a0 :: .inr (.inr (.inl r)) :: st) g μ Q = ((st.length ≤ 4 ∧ ((mKd g r).1 == 6) = true) ∧ Wp E 112 0 [some (.inr (.inr (.inl r))), some (.inl a0), some (.inl a1), some (.inl a2), none, none, none, none] [] g μ (fun r g' μ' => (g'.1 = g.1 ∧ g'.2.1 = g.2.1) ∧ Wp E 126 32 ls (mPush r st) g' μ' Q)) := Wp_cV k126_29 m6_167 (by decide) (as := [.inr (.inr (.inl r)), .inl a0, .inl a1, .inl a2]) rfl rfl rfl ⟨Nat.le_of_ble_eq_true rfl, by decide⟩
theorem k126_32 : mCode 126 32 = some (.istore_n 2, 1) := by decide +kernel
theorem x126_32 {E : ME} {ls : MLs} {st : List MV} {g : MG} {μ : MU} {Q : Option MV → MG → MU → Prop} {l0 l1 : Option MV} {lk : Option MV} {v : Int} : Wp E 126 32 (l0 :: l1 :: lk :: ls) (.inl v :: st) g μ Q = ((mNl (some l1) = true ∧ mNl (some lk) = true) ∧ Wp E 126 33 (l0 :: l1 :: some (.inl v) :: ls) st g μ Q) := Wp_sti k126_32 (fun _ => rfl) rfl rfl rfl
theorem k126_33 : mCode 126 33 = some (.aload_n 0, 1) := by decide +kernel
theorem x126_33 {E : ME} {ls : MLs} {st : List MV} {g : MG} {μ : MU} {Q : Option MV → MG → MU → Prop} {v : Nat ⊕ Nat} : Wp E 126 33 (some (.inr (.inr v)) :: ls) st g μ Q = Wp E 126 34 (some (.inr (.inr v)) :: ls) (.inr (.inr v) :: st) g μ Q := Wp_nx k126_33 rfl
theorem k126_34 : mCode 126 34 = some (.iload_n 1, 1) := by decide +kernel
theorem x126_34 {E : ME} {ls : MLs} {st : List MV} {g : MG} {μ : MU} {Q : Option MV → MG → MU → Prop} {l0 : Option MV} {v : Int} : Wp E 126 34 (l0 :: some (.inl v) :: ls) st g μ Q = Wp E 126 35 (l0 :: some (.inl v) :: ls) (.inl v :: st) g μ Q := Wp_nx k126_34 rfl
theorem k126_35 : mCode 126 35 = some (.invokevirtual 164, 3) := by decide +kernel
theorem x126_35 {E : ME} {ls : MLs} {st : List MV} {g : MG} {μ : MU} {Q : Option MV → MG → MU → Prop} {r : Nat} {a0 : Int} : Wp E 126 35 ls (.inl a0 :: .inr (.inr (.inl r)) :: st) g μ Q = ((st.length ≤ 4 ∧ ((mKd g r).1 == 6) = true) ∧ Wp E 89 0 [some (.inr (.inr (.inl r))), some (.inl a0), none, none] [] g μ (fun r g' μ' => (g'.1 = g.1 ∧ g'.2.1 = g.2.1) ∧ Wp E 126 38 ls (mPush r st) g' μ' Q)) := Wp_cV k126_35 m6_164 (by decide) (as := [.inr (.inr (.inl r)), .inl a0]) rfl rfl rfl ⟨Nat.le_of_ble_eq_true rfl, by decide⟩
theorem k126_38 : mCode 126 38 = some (.aload_n 0, 1) := by decide +kernel
theorem x126_38 {E : ME} {ls : MLs} {st : List MV} {g : MG} {μ : MU} {Q : Option MV → MG → MU → Prop} {v : Nat ⊕ Nat} : Wp E 126 38 (some (.inr (.inr v)) :: ls) st g μ Q = Wp E 126 39 (some (.inr (.inr v)) :: ls) (.inr (.inr v) :: st) g μ Q := Wp_nx k126_38 rfl
theorem k126_39 : mCode 126 39 = some (.bipush (-6), 2) := by decide +kernel
theorem x126_39 {E : ME} {ls : MLs} {st : List MV} {g : MG} {μ : MU} {Q : Option MV → MG → MU → Prop} : Wp E 126 39 ls st g μ Q = Wp E 126 41 ls (.inl (-6) :: st) g μ Q := Wp_nx k126_39 rfl
theorem k126_41 : mCode 126 41 = some (.bipush (-6), 2) := by decide +kernel
theorem x126_41 {E : ME} {ls : MLs} {st : List MV} {g : MG} {μ : MU} {Q : Option MV → MG → MU → Prop} : Wp E 126 41 ls st g μ Q = Wp E 126 43 ls (.inl (-6) :: st) g μ Q := Wp_nx k126_41 rfl
theorem k126_43 : mCode 126 43 = some (.iconst 4, 1) := by decide +kernel
theorem x126_43 {E : ME} {ls : MLs} {st : List MV} {g : MG} {μ : MU} {Q : Option MV → MG → MU → Prop} : Wp E 126 43 ls st g μ Q = Wp E 126 44 ls (.inl 4 :: st) g μ Q := Wp_nx k126_43 rfl
theorem k126_44 : mCode 126 44 = some (.invokevirtual 167, 3) := by decide +kernel
theorem x126_44 {E : ME} {ls : MLs} {st : List MV} {g : MG} {μ : MU} {Q : Option MV → MG → MU → Prop} {r : Nat} {a0 : Int} {a1 : Int} {a2 : Int} : Wp E 126 44 ls (.inl a2 :: .inl a1 :: .inl a0 :: .inr (.inr (.inl r)) :: st) g μ Q = ((st.length ≤ 4 ∧ ((mKd g r).1 == 6) = true) ∧ Wp E 112 0 [some (.inr (.inr (.inl r))), some (.inl a0), some (.inl a1), some (.inl a2), none, none, none, none] [] g μ (fun r g' μ' => (g'.1 = g.1 ∧ g'.2.1 = g.2.1) ∧ Wp E 126 47 ls (mPush r st) g' μ' Q)) := Wp_cV k126_44 m6_167 (by decide) (as := [.inr (.inr (.inl r)), .inl a0, .inl a1, .inl a2]) rfl rfl rfl ⟨Nat.le_of_ble_eq_true rfl, by decide⟩
theorem k126_47 : mCode 126 47 = some (.iload_n 2, 1) := by decide +kernel
theorem x126_47 {E : ME} {ls : MLs} {st : List MV} {g : MG} {μ : MU} {Q : Option MV → MG → MU → Prop} {l0 l1 : Option MV} {v : Int} : Wp E 126 47 (l0 :: l1 :: some (.inl v) :: ls) st g μ Q = Wp E 126 48 (l0 :: l1 :: some (.inl v) :: ls) (.inl v :: st) g μ Q := Wp_nx k126_47 rfl
theorem k126_48 : mCode 126 48 = some (.isub, 1) := by decide +kernel
theorem x126_48 {E : ME} {ls : MLs} {st : List MV} {g : MG} {μ : MU} {Q : Option MV → MG → MU → Prop} {a b : Int} : Wp E 126 48 ls (.inl b :: .inl a :: st) g μ Q = Wp E 126 49 ls (.inl (mWr (a - b)) :: st) g μ Q := Wp_nx k126_48 rfl
theorem k126_49 : mCode 126 49 = some (.sipush 1000, 3) := by decide +kernel
theorem x126_49 {E : ME} {ls : MLs} {st : List MV} {g : MG} {μ : MU} {Q : Option MV → MG → MU → Prop} : Wp E 126 49 ls st g μ Q = Wp E 126 52 ls (.inl 1000 :: st) g μ Q := Wp_nx k126_49 rfl
theorem k126_52 : mCode 126 52 = some (.iadd, 1) := by decide +kernel
theorem x126_52 {E : ME} {ls : MLs} {st : List MV} {g : MG} {μ : MU} {Q : Option MV → MG → MU → Prop} {a b : Int} : Wp E 126 52 ls (.inl b :: .inl a :: st) g μ Q = Wp E 126 53 ls (.inl (mWr (a + b)) :: st) g μ Q := Wp_nx k126_52 rfl
theorem k126_53 : mCode 126 53 = some (.ireturn, 1) := by decide +kernel
theorem x126_53 {E : ME} {ls : MLs} {g : MG} {μ : MU} {Q : Option MV → MG → MU → Prop} {v : Int} : Wp E 126 53 ls [.inl v] g μ Q = Q (some (.inl v)) g μ := Wp_retI k126_53 (by decide)
theorem k127_0 : mCode 127 0 = some (.aload_n 0, 1) := by decide +kernel
theorem x127_0 {E : ME} {ls : MLs} {st : List MV} {g : MG} {μ : MU} {Q : Option MV → MG → MU → Prop} {v : Nat ⊕ Nat} : Wp E 127 0 (some (.inr (.inr v)) :: ls) st g μ Q = Wp E 127 1 (some (.inr (.inr v)) :: ls) (.inr (.inr v) :: st) g μ Q := Wp_nx k127_0 rfl
theorem k127_1 : mCode 127 1 = some (.iconst 0, 1) := by decide +kernel
theorem x127_1 {E : ME} {ls : MLs} {st : List MV} {g : MG} {μ : MU} {Q : Option MV → MG → MU → Prop} : Wp E 127 1 ls st g μ Q = Wp E 127 2 ls (.inl 0 :: st) g μ Q := Wp_nx k127_1 rfl
theorem k127_2 : mCode 127 2 = some (.putfield 65, 3) := by decide +kernel
theorem x127_2 {E : ME} {ls : MLs} {st : List MV} {g : MG} {μ : MU} {Q : Option MV → MG → MU → Prop} {a : Nat} {v : Int} : Wp E 127 2 ls (.inl v :: .inr (.inr (.inl a)) :: st) g μ Q = ((mKd g a).1 = 6 ∧ Wp E 127 5 ls st g (mUp μ a 0 v) Q) := Wp_putI0 k127_2 f6_65 (by decide) (by decide)
theorem k127_5 : mCode 127 5 = some (.iconst 0, 1) := by decide +kernel
theorem x127_5 {E : ME} {ls : MLs} {st : List MV} {g : MG} {μ : MU} {Q : Option MV → MG → MU → Prop} : Wp E 127 5 ls st g μ Q = Wp E 127 6 ls (.inl 0 :: st) g μ Q := Wp_nx k127_5 rfl
theorem k127_6 : mCode 127 6 = some (.istore_n 3, 1) := by decide +kernel
theorem x127_6 {E : ME} {ls : MLs} {st : List MV} {g : MG} {μ : MU} {Q : Option MV → MG → MU → Prop} {l0 l1 l2 : Option MV} {lk : Option MV} {v : Int} : Wp E 127 6 (l0 :: l1 :: l2 :: lk :: ls) (.inl v :: st) g μ Q = ((mNl (some l2) = true ∧ mNl (some lk) = true) ∧ Wp E 127 7 (l0 :: l1 :: l2 :: some (.inl v) :: ls) st g μ Q) := Wp_sti k127_6 (fun _ => rfl) rfl rfl rfl
theorem k127_7 : mCode 127 7 = some (.lload_n 1, 1) := by decide +kernel
theorem x127_7 {E : ME} {ls : MLs} {st : List MV} {g : MG} {μ : MU} {Q : Option MV → MG → MU → Prop} {l0 : Option MV} {v : Int} : Wp E 127 7 (l0 :: some (.inr (.inl v)) :: ls) st g μ Q = Wp E 127 8 (l0 :: some (.inr (.inl v)) :: ls) (.inr (.inl v) :: st) g μ Q := Wp_nx k127_7 rfl
theorem k127_8 : mCode 127 8 = some (.lstore 4, 2) := by decide +kernel
theorem x127_8 {E : ME} {ls : MLs} {st : List MV} {g : MG} {μ : MU} {Q : Option MV → MG → MU → Prop} {l0 l1 l2 l3 : Option MV} {l9 lk : Option MV} {v : Int} : Wp E 127 8 (l0 :: l1 :: l2 :: l3 :: l9 :: lk :: ls) (.inr (.inl v) :: st) g μ Q = ((mNl (some l3) = true ∧ mNl (some lk) = true) ∧ Wp E 127 10 (l0 :: l1 :: l2 :: l3 :: some (.inr (.inl v)) :: none :: ls) st g μ Q) := Wp_stl k127_8 (fun _ => rfl) rfl rfl rfl
theorem k127_10 : mCode 127 10 = some (.iconst 1, 1) := by decide +kernel
theorem x127_10 {E : ME} {ls : MLs} {st : List MV} {g : MG} {μ : MU} {Q : Option MV → MG → MU → Prop} : Wp E 127 10 ls st g μ Q = Wp E 127 11 ls (.inl 1 :: st) g μ Q := Wp_nx k127_10 rfl
theorem k127_11 : mCode 127 11 = some (.istore 6, 2) := by decide +kernel
theorem x127_11 {E : ME} {ls : MLs} {st : List MV} {g : MG} {μ : MU} {Q : Option MV → MG → MU → Prop} {l0 l1 l2 l3 l4 l5 : Option MV} {lk : Option MV} {v : Int} : Wp E 127 11 (l0 :: l1 :: l2 :: l3 :: l4 :: l5 :: lk :: ls) (.inl v :: st) g μ Q = ((mNl (some l5) = true ∧ mNl (some lk) = true) ∧ Wp E 127 13 (l0 :: l1 :: l2 :: l3 :: l4 :: l5 :: some (.inl v) :: ls) st g μ Q) := Wp_sti k127_11 (fun _ => rfl) rfl rfl rfl
theorem k127_13 : mCode 127 13 = some (.iload_n 3, 1) := by decide +kernel
theorem x127_13 {E : ME} {ls : MLs} {st : List MV} {g : MG} {μ : MU} {Q : Option MV → MG → MU → Prop} {l0 l1 l2 : Option MV} {v : Int} : Wp E 127 13 (l0 :: l1 :: l2 :: some (.inl v) :: ls) st g μ Q = Wp E 127 14 (l0 :: l1 :: l2 :: some (.inl v) :: ls) (.inl v :: st) g μ Q := Wp_nx k127_13 rfl
theorem k127_14 : mCode 127 14 = some (.bipush 8, 2) := by decide +kernel
theorem x127_14 {E : ME} {ls : MLs} {st : List MV} {g : MG} {μ : MU} {Q : Option MV → MG → MU → Prop} : Wp E 127 14 ls st g μ Q = Wp E 127 16 ls (.inl 8 :: st) g μ Q := Wp_nx k127_14 rfl
theorem k127_16 : mCode 127 16 = some (.if_icmp .ge 56, 3) := by decide +kernel
theorem x127_16 {E : ME} {ls : MLs} {st : List MV} {g : MG} {μ : MU} {Q : Option MV → MG → MU → Prop} {a b : Int} : Wp E 127 16 ls (.inl b :: .inl a :: st) g μ Q = ((b ≤ a → Wp E 127 72 ls st g μ Q) ∧ (a < b → Wp E 127 19 ls st g μ Q)) := Wp_cmp_ge k127_16 (by decide)
theorem k127_19 : mCode 127 19 = some (.lload 4, 2) := by decide +kernel
theorem x127_19 {E : ME} {ls : MLs} {st : List MV} {g : MG} {μ : MU} {Q : Option MV → MG → MU → Prop} {l0 l1 l2 l3 : Option MV} {v : Int} : Wp E 127 19 (l0 :: l1 :: l2 :: l3 :: some (.inr (.inl v)) :: ls) st g μ Q = Wp E 127 21 (l0 :: l1 :: l2 :: l3 :: some (.inr (.inl v)) :: ls) (.inr (.inl v) :: st) g μ Q := Wp_nx k127_19 rfl
theorem k127_21 : mCode 127 21 = some (.ldc2_w 190, 3) := by decide +kernel
theorem x127_21 {E : ME} {ls : MLs} {st : List MV} {g : MG} {μ : MU} {Q : Option MV → MG → MU → Prop} : Wp E 127 21 ls st g μ Q = Wp E 127 24 ls (mL (255) :: st) g μ Q := Wp_ldc2_w k127_21 (by decide +kernel)
theorem k127_24 : mCode 127 24 = some (.land, 1) := by decide +kernel
theorem x127_24 {E : ME} {ls : MLs} {st : List MV} {g : MG} {μ : MU} {Q : Option MV → MG → MU → Prop} {a b : Int} : Wp E 127 24 ls (.inr (.inl b) :: .inr (.inl a) :: st) g μ Q = Wp E 127 25 ls (.inr (.inl (mLand a b)) :: st) g μ Q := Wp_nx k127_24 rfl
theorem k127_25 : mCode 127 25 = some (.lconst 0, 1) := by decide +kernel
theorem x127_25 {E : ME} {ls : MLs} {st : List MV} {g : MG} {μ : MU} {Q : Option MV → MG → MU → Prop} : Wp E 127 25 ls st g μ Q = Wp E 127 26 ls (.inr (.inl 0) :: st) g μ Q := Wp_nx k127_25 rfl
theorem k127_26 : mCode 127 26 = some (.lcmp, 1) := by decide +kernel
theorem x127_26 {E : ME} {ls : MLs} {st : List MV} {g : MG} {μ : MU} {Q : Option MV → MG → MU → Prop} {a b : Int} : Wp E 127 26 ls (.inr (.inl b) :: .inr (.inl a) :: st) g μ Q = Wp E 127 27 ls (.inl (if a < b then -1 else if a = b then 0 else 1) :: st) g μ Q := Wp_nx k127_26 rfl
theorem k127_27 : mCode 127 27 = some (.ifCond .eq 45, 3) := by decide +kernel
theorem x127_27 {E : ME} {ls : MLs} {st : List MV} {g : MG} {μ : MU} {Q : Option MV → MG → MU → Prop} {a : Int} : Wp E 127 27 ls (.inl a :: st) g μ Q = ((a = 0 → Wp E 127 72 ls st g μ Q) ∧ (¬ a = 0 → Wp E 127 30 ls st g μ Q)) := Wp_if_eq k127_27 (by decide)
theorem k127_30 : mCode 127 30 = some (.iload 6, 2) := by decide +kernel
theorem x127_30 {E : ME} {ls : MLs} {st : List MV} {g : MG} {μ : MU} {Q : Option MV → MG → MU → Prop} {l0 l1 l2 l3 l4 l5 : Option MV} {v : Int} : Wp E 127 30 (l0 :: l1 :: l2 :: l3 :: l4 :: l5 :: some (.inl v) :: ls) st g μ Q = Wp E 127 32 (l0 :: l1 :: l2 :: l3 :: l4 :: l5 :: some (.inl v) :: ls) (.inl v :: st) g μ Q := Wp_nx k127_30 rfl
theorem k127_32 : mCode 127 32 = some (.ifCond .eq 24, 3) := by decide +kernel
theorem x127_32 {E : ME} {ls : MLs} {st : List MV} {g : MG} {μ : MU} {Q : Option MV → MG → MU → Prop} {a : Int} : Wp E 127 32 ls (.inl a :: st) g μ Q = ((a = 0 → Wp E 127 56 ls st g μ Q) ∧ (¬ a = 0 → Wp E 127 35 ls st g μ Q)) := Wp_if_eq k127_32 (by decide)
theorem k127_35 : mCode 127 35 = some (.lload 4, 2) := by decide +kernel
theorem x127_35 {E : ME} {ls : MLs} {st : List MV} {g : MG} {μ : MU} {Q : Option MV → MG → MU → Prop} {l0 l1 l2 l3 : Option MV} {v : Int} : Wp E 127 35 (l0 :: l1 :: l2 :: l3 :: some (.inr (.inl v)) :: ls) st g μ Q = Wp E 127 37 (l0 :: l1 :: l2 :: l3 :: some (.inr (.inl v)) :: ls) (.inr (.inl v) :: st) g μ Q := Wp_nx k127_35 rfl
theorem k127_37 : mCode 127 37 = some (.ldc2_w 190, 3) := by decide +kernel
theorem x127_37 {E : ME} {ls : MLs} {st : List MV} {g : MG} {μ : MU} {Q : Option MV → MG → MU → Prop} : Wp E 127 37 ls st g μ Q = Wp E 127 40 ls (mL (255) :: st) g μ Q := Wp_ldc2_w k127_37 (by decide +kernel)
theorem k127_40 : mCode 127 40 = some (.land, 1) := by decide +kernel
theorem x127_40 {E : ME} {ls : MLs} {st : List MV} {g : MG} {μ : MU} {Q : Option MV → MG → MU → Prop} {a b : Int} : Wp E 127 40 ls (.inr (.inl b) :: .inr (.inl a) :: st) g μ Q = Wp E 127 41 ls (.inr (.inl (mLand a b)) :: st) g μ Q := Wp_nx k127_40 rfl
theorem k127_41 : mCode 127 41 = some (.l2i, 1) := by decide +kernel
theorem x127_41 {E : ME} {ls : MLs} {st : List MV} {g : MG} {μ : MU} {Q : Option MV → MG → MU → Prop} {a : Int} : Wp E 127 41 ls (.inr (.inl a) :: st) g μ Q = Wp E 127 42 ls (.inl (mWr a) :: st) g μ Q := Wp_nx k127_41 rfl
theorem k127_42 : mCode 127 42 = some (.bipush 33, 2) := by decide +kernel
theorem x127_42 {E : ME} {ls : MLs} {st : List MV} {g : MG} {μ : MU} {Q : Option MV → MG → MU → Prop} : Wp E 127 42 ls st g μ Q = Wp E 127 44 ls (.inl 33 :: st) g μ Q := Wp_nx k127_42 rfl
theorem k127_44 : mCode 127 44 = some (.bipush 126, 2) := by decide +kernel
theorem x127_44 {E : ME} {ls : MLs} {st : List MV} {g : MG} {μ : MU} {Q : Option MV → MG → MU → Prop} : Wp E 127 44 ls st g μ Q = Wp E 127 46 ls (.inl 126 :: st) g μ Q := Wp_nx k127_44 rfl
theorem k127_46 : mCode 127 46 = some (.invokestatic 69, 3) := by decide +kernel
theorem x127_46 {E : ME} {ls : MLs} {st : List MV} {g : MG} {μ : MU} {Q : Option MV → MG → MU → Prop} {a0 : Int} {a1 : Int} {a2 : Int} : Wp E 127 46 ls (.inl a2 :: .inl a1 :: .inl a0 :: st) g μ Q = (st.length ≤ 4 ∧ Wp E 77 0 [some (.inl a0), some (.inl a1), some (.inl a2)] [] g μ (fun r g' μ' => (g'.1 = g.1 ∧ g'.2.1 = g.2.1) ∧ Wp E 127 49 ls (mPush r st) g' μ' Q)) := Wp_cS k127_46 m6_69 (by decide) (as := [.inl a0, .inl a1, .inl a2]) rfl rfl rfl ⟨Nat.le_of_ble_eq_true rfl, by decide⟩
theorem k127_49 : mCode 127 49 = some (.ifCond .eq 7, 3) := by decide +kernel
theorem x127_49 {E : ME} {ls : MLs} {st : List MV} {g : MG} {μ : MU} {Q : Option MV → MG → MU → Prop} {a : Int} : Wp E 127 49 ls (.inl a :: st) g μ Q = ((a = 0 → Wp E 127 56 ls st g μ Q) ∧ (¬ a = 0 → Wp E 127 52 ls st g μ Q)) := Wp_if_eq k127_49 (by decide)
theorem k127_52 : mCode 127 52 = some (.iconst 1, 1) := by decide +kernel
theorem x127_52 {E : ME} {ls : MLs} {st : List MV} {g : MG} {μ : MU} {Q : Option MV → MG → MU → Prop} : Wp E 127 52 ls st g μ Q = Wp E 127 53 ls (.inl 1 :: st) g μ Q := Wp_nx k127_52 rfl
theorem k127_53 : mCode 127 53 = some (.goto 4, 3) := by decide +kernel
theorem x127_53 {E : ME} {ls : MLs} {st : List MV} {g : MG} {μ : MU} {Q : Option MV → MG → MU → Prop} : Wp E 127 53 ls st g μ Q = Wp E 127 57 ls st g μ Q := Wp_goto k127_53 (by decide)
theorem k127_56 : mCode 127 56 = some (.iconst 0, 1) := by decide +kernel
theorem x127_56 {E : ME} {ls : MLs} {st : List MV} {g : MG} {μ : MU} {Q : Option MV → MG → MU → Prop} : Wp E 127 56 ls st g μ Q = Wp E 127 57 ls (.inl 0 :: st) g μ Q := Wp_nx k127_56 rfl
theorem k127_57 : mCode 127 57 = some (.istore 6, 2) := by decide +kernel
theorem x127_57 {E : ME} {ls : MLs} {st : List MV} {g : MG} {μ : MU} {Q : Option MV → MG → MU → Prop} {l0 l1 l2 l3 l4 l5 : Option MV} {lk : Option MV} {v : Int} : Wp E 127 57 (l0 :: l1 :: l2 :: l3 :: l4 :: l5 :: lk :: ls) (.inl v :: st) g μ Q = ((mNl (some l5) = true ∧ mNl (some lk) = true) ∧ Wp E 127 59 (l0 :: l1 :: l2 :: l3 :: l4 :: l5 :: some (.inl v) :: ls) st g μ Q) := Wp_sti k127_57 (fun _ => rfl) rfl rfl rfl
theorem k127_59 : mCode 127 59 = some (.lload 4, 2) := by decide +kernel
theorem x127_59 {E : ME} {ls : MLs} {st : List MV} {g : MG} {μ : MU} {Q : Option MV → MG → MU → Prop} {l0 l1 l2 l3 : Option MV} {v : Int} : Wp E 127 59 (l0 :: l1 :: l2 :: l3 :: some (.inr (.inl v)) :: ls) st g μ Q = Wp E 127 61 (l0 :: l1 :: l2 :: l3 :: some (.inr (.inl v)) :: ls) (.inr (.inl v) :: st) g μ Q := Wp_nx k127_59 rfl
theorem k127_61 : mCode 127 61 = some (.bipush 8, 2) := by decide +kernel
theorem x127_61 {E : ME} {ls : MLs} {st : List MV} {g : MG} {μ : MU} {Q : Option MV → MG → MU → Prop} : Wp E 127 61 ls st g μ Q = Wp E 127 63 ls (.inl 8 :: st) g μ Q := Wp_nx k127_61 rfl
theorem k127_63 : mCode 127 63 = some (.lushr, 1) := by decide +kernel
theorem x127_63 {E : ME} {ls : MLs} {st : List MV} {g : MG} {μ : MU} {Q : Option MV → MG → MU → Prop} {a b : Int} : Wp E 127 63 ls (.inl b :: .inr (.inl a) :: st) g μ Q = Wp E 127 64 ls (.inr (.inl (mLushr a b)) :: st) g μ Q := Wp_nx k127_63 rfl
theorem k127_64 : mCode 127 64 = some (.lstore 4, 2) := by decide +kernel
theorem x127_64 {E : ME} {ls : MLs} {st : List MV} {g : MG} {μ : MU} {Q : Option MV → MG → MU → Prop} {l0 l1 l2 l3 : Option MV} {l9 lk : Option MV} {v : Int} : Wp E 127 64 (l0 :: l1 :: l2 :: l3 :: l9 :: lk :: ls) (.inr (.inl v) :: st) g μ Q = ((mNl (some l3) = true ∧ mNl (some lk) = true) ∧ Wp E 127 66 (l0 :: l1 :: l2 :: l3 :: some (.inr (.inl v)) :: none :: ls) st g μ Q) := Wp_stl k127_64 (fun _ => rfl) rfl rfl rfl
theorem k127_66 : mCode 127 66 = some (.iinc 3 1, 3) := by decide +kernel
theorem x127_66 {E : ME} {ls : MLs} {st : List MV} {g : MG} {μ : MU} {Q : Option MV → MG → MU → Prop} {l0 l1 l2 : Option MV} {v : Int} : Wp E 127 66 (l0 :: l1 :: l2 :: some (.inl v) :: ls) st g μ Q = (mNl (some l2) = true ∧ Wp E 127 69 (l0 :: l1 :: l2 :: some (.inl (mWr (v + 1))) :: ls) st g μ Q) := Wp_inc k127_66 rfl rfl rfl
theorem k127_69 : mCode 127 69 = some (.goto (-56), 3) := by decide +kernel
theorem x127_69 {E : ME} {ls : MLs} {st : List MV} {g : MG} {μ : MU} {Q : Option MV → MG → MU → Prop} : Wp E 127 69 ls st g μ Q = Wp E 127 13 ls st g μ Q := Wp_goto k127_69 (by decide)
theorem k127_72 : mCode 127 72 = some (.iload_n 3, 1) := by decide +kernel
theorem x127_72 {E : ME} {ls : MLs} {st : List MV} {g : MG} {μ : MU} {Q : Option MV → MG → MU → Prop} {l0 l1 l2 : Option MV} {v : Int} : Wp E 127 72 (l0 :: l1 :: l2 :: some (.inl v) :: ls) st g μ Q = Wp E 127 73 (l0 :: l1 :: l2 :: some (.inl v) :: ls) (.inl v :: st) g μ Q := Wp_nx k127_72 rfl
theorem k127_73 : mCode 127 73 = some (.ifCond .eq 15, 3) := by decide +kernel
theorem x127_73 {E : ME} {ls : MLs} {st : List MV} {g : MG} {μ : MU} {Q : Option MV → MG → MU → Prop} {a : Int} : Wp E 127 73 ls (.inl a :: st) g μ Q = ((a = 0 → Wp E 127 88 ls st g μ Q) ∧ (¬ a = 0 → Wp E 127 76 ls st g μ Q)) := Wp_if_eq k127_73 (by decide)
theorem k127_76 : mCode 127 76 = some (.iload 6, 2) := by decide +kernel
theorem x127_76 {E : ME} {ls : MLs} {st : List MV} {g : MG} {μ : MU} {Q : Option MV → MG → MU → Prop} {l0 l1 l2 l3 l4 l5 : Option MV} {v : Int} : Wp E 127 76 (l0 :: l1 :: l2 :: l3 :: l4 :: l5 :: some (.inl v) :: ls) st g μ Q = Wp E 127 78 (l0 :: l1 :: l2 :: l3 :: l4 :: l5 :: some (.inl v) :: ls) (.inl v :: st) g μ Q := Wp_nx k127_76 rfl
theorem k127_78 : mCode 127 78 = some (.ifCond .eq 10, 3) := by decide +kernel
theorem x127_78 {E : ME} {ls : MLs} {st : List MV} {g : MG} {μ : MU} {Q : Option MV → MG → MU → Prop} {a : Int} : Wp E 127 78 ls (.inl a :: st) g μ Q = ((a = 0 → Wp E 127 88 ls st g μ Q) ∧ (¬ a = 0 → Wp E 127 81 ls st g μ Q)) := Wp_if_eq k127_78 (by decide)
theorem k127_81 : mCode 127 81 = some (.lload 4, 2) := by decide +kernel
theorem x127_81 {E : ME} {ls : MLs} {st : List MV} {g : MG} {μ : MU} {Q : Option MV → MG → MU → Prop} {l0 l1 l2 l3 : Option MV} {v : Int} : Wp E 127 81 (l0 :: l1 :: l2 :: l3 :: some (.inr (.inl v)) :: ls) st g μ Q = Wp E 127 83 (l0 :: l1 :: l2 :: l3 :: some (.inr (.inl v)) :: ls) (.inr (.inl v) :: st) g μ Q := Wp_nx k127_81 rfl
theorem k127_83 : mCode 127 83 = some (.lconst 0, 1) := by decide +kernel
theorem x127_83 {E : ME} {ls : MLs} {st : List MV} {g : MG} {μ : MU} {Q : Option MV → MG → MU → Prop} : Wp E 127 83 ls st g μ Q = Wp E 127 84 ls (.inr (.inl 0) :: st) g μ Q := Wp_nx k127_83 rfl
theorem k127_84 : mCode 127 84 = some (.lcmp, 1) := by decide +kernel
theorem x127_84 {E : ME} {ls : MLs} {st : List MV} {g : MG} {μ : MU} {Q : Option MV → MG → MU → Prop} {a b : Int} : Wp E 127 84 ls (.inr (.inl b) :: .inr (.inl a) :: st) g μ Q = Wp E 127 85 ls (.inl (if a < b then -1 else if a = b then 0 else 1) :: st) g μ Q := Wp_nx k127_84 rfl
theorem k127_85 : mCode 127 85 = some (.ifCond .eq 6, 3) := by decide +kernel
theorem x127_85 {E : ME} {ls : MLs} {st : List MV} {g : MG} {μ : MU} {Q : Option MV → MG → MU → Prop} {a : Int} : Wp E 127 85 ls (.inl a :: st) g μ Q = ((a = 0 → Wp E 127 91 ls st g μ Q) ∧ (¬ a = 0 → Wp E 127 88 ls st g μ Q)) := Wp_if_eq k127_85 (by decide)
theorem k127_88 : mCode 127 88 = some (.bipush (-2), 2) := by decide +kernel
theorem x127_88 {E : ME} {ls : MLs} {st : List MV} {g : MG} {μ : MU} {Q : Option MV → MG → MU → Prop} : Wp E 127 88 ls st g μ Q = Wp E 127 90 ls (.inl (-2) :: st) g μ Q := Wp_nx k127_88 rfl
theorem k127_90 : mCode 127 90 = some (.ireturn, 1) := by decide +kernel
theorem x127_90 {E : ME} {ls : MLs} {g : MG} {μ : MU} {Q : Option MV → MG → MU → Prop} {v : Int} : Wp E 127 90 ls [.inl v] g μ Q = Q (some (.inl v)) g μ := Wp_retI k127_90 (by decide)
theorem k127_91 : mCode 127 91 = some (.aload_n 0, 1) := by decide +kernel
theorem x127_91 {E : ME} {ls : MLs} {st : List MV} {g : MG} {μ : MU} {Q : Option MV → MG → MU → Prop} {v : Nat ⊕ Nat} : Wp E 127 91 (some (.inr (.inr v)) :: ls) st g μ Q = Wp E 127 92 (some (.inr (.inr v)) :: ls) (.inr (.inr v) :: st) g μ Q := Wp_nx k127_91 rfl
theorem k127_92 : mCode 127 92 = some (.getfield 183, 3) := by decide +kernel
theorem x127_92 {E : ME} {ls : MLs} {st : List MV} {g : MG} {μ : MU} {Q : Option MV → MG → MU → Prop} {a : Nat} : Wp E 127 92 ls (.inr (.inr (.inl a)) :: st) g μ Q = ((mKd g a).1 = 6 ∧ Wp E 127 95 ls (.inl (μ a 7) :: st) g μ Q) := Wp_getI k127_92 f6_183 (by decide) (by decide)
theorem k127_95 : mCode 127 95 = some (.iload_n 3, 1) := by decide +kernel
theorem x127_95 {E : ME} {ls : MLs} {st : List MV} {g : MG} {μ : MU} {Q : Option MV → MG → MU → Prop} {l0 l1 l2 : Option MV} {v : Int} : Wp E 127 95 (l0 :: l1 :: l2 :: some (.inl v) :: ls) st g μ Q = Wp E 127 96 (l0 :: l1 :: l2 :: some (.inl v) :: ls) (.inl v :: st) g μ Q := Wp_nx k127_95 rfl
theorem k127_96 : mCode 127 96 = some (.iadd, 1) := by decide +kernel
theorem x127_96 {E : ME} {ls : MLs} {st : List MV} {g : MG} {μ : MU} {Q : Option MV → MG → MU → Prop} {a b : Int} : Wp E 127 96 ls (.inl b :: .inl a :: st) g μ Q = Wp E 127 97 ls (.inl (mWr (a + b)) :: st) g μ Q := Wp_nx k127_96 rfl
theorem k127_97 : mCode 127 97 = some (.bipush 80, 2) := by decide +kernel
theorem x127_97 {E : ME} {ls : MLs} {st : List MV} {g : MG} {μ : MU} {Q : Option MV → MG → MU → Prop} : Wp E 127 97 ls st g μ Q = Wp E 127 99 ls (.inl 80 :: st) g μ Q := Wp_nx k127_97 rfl
theorem k127_99 : mCode 127 99 = some (.if_icmp .le 6, 3) := by decide +kernel
theorem x127_99 {E : ME} {ls : MLs} {st : List MV} {g : MG} {μ : MU} {Q : Option MV → MG → MU → Prop} {a b : Int} : Wp E 127 99 ls (.inl b :: .inl a :: st) g μ Q = ((a ≤ b → Wp E 127 105 ls st g μ Q) ∧ (b < a → Wp E 127 102 ls st g μ Q)) := Wp_cmp_le k127_99 (by decide)
theorem k127_102 : mCode 127 102 = some (.bipush (-4), 2) := by decide +kernel
theorem x127_102 {E : ME} {ls : MLs} {st : List MV} {g : MG} {μ : MU} {Q : Option MV → MG → MU → Prop} : Wp E 127 102 ls st g μ Q = Wp E 127 104 ls (.inl (-4) :: st) g μ Q := Wp_nx k127_102 rfl
theorem k127_104 : mCode 127 104 = some (.ireturn, 1) := by decide +kernel
theorem x127_104 {E : ME} {ls : MLs} {g : MG} {μ : MU} {Q : Option MV → MG → MU → Prop} {v : Int} : Wp E 127 104 ls [.inl v] g μ Q = Q (some (.inl v)) g μ := Wp_retI k127_104 (by decide)
theorem k127_105 : mCode 127 105 = some (.iconst 0, 1) := by decide +kernel
theorem x127_105 {E : ME} {ls : MLs} {st : List MV} {g : MG} {μ : MU} {Q : Option MV → MG → MU → Prop} : Wp E 127 105 ls st g μ Q = Wp E 127 106 ls (.inl 0 :: st) g μ Q := Wp_nx k127_105 rfl
theorem k127_106 : mCode 127 106 = some (.istore 7, 2) := by decide +kernel
theorem x127_106 {E : ME} {ls : MLs} {st : List MV} {g : MG} {μ : MU} {Q : Option MV → MG → MU → Prop} {l0 l1 l2 l3 l4 l5 l6 : Option MV} {lk : Option MV} {v : Int} : Wp E 127 106 (l0 :: l1 :: l2 :: l3 :: l4 :: l5 :: l6 :: lk :: ls) (.inl v :: st) g μ Q = ((mNl (some l6) = true ∧ mNl (some lk) = true) ∧ Wp E 127 108 (l0 :: l1 :: l2 :: l3 :: l4 :: l5 :: l6 :: some (.inl v) :: ls) st g μ Q) := Wp_sti k127_106 (fun _ => rfl) rfl rfl rfl
theorem k127_108 : mCode 127 108 = some (.iload 7, 2) := by decide +kernel
theorem x127_108 {E : ME} {ls : MLs} {st : List MV} {g : MG} {μ : MU} {Q : Option MV → MG → MU → Prop} {l0 l1 l2 l3 l4 l5 l6 : Option MV} {v : Int} : Wp E 127 108 (l0 :: l1 :: l2 :: l3 :: l4 :: l5 :: l6 :: some (.inl v) :: ls) st g μ Q = Wp E 127 110 (l0 :: l1 :: l2 :: l3 :: l4 :: l5 :: l6 :: some (.inl v) :: ls) (.inl v :: st) g μ Q := Wp_nx k127_108 rfl
theorem k127_110 : mCode 127 110 = some (.iload_n 3, 1) := by decide +kernel
theorem x127_110 {E : ME} {ls : MLs} {st : List MV} {g : MG} {μ : MU} {Q : Option MV → MG → MU → Prop} {l0 l1 l2 : Option MV} {v : Int} : Wp E 127 110 (l0 :: l1 :: l2 :: some (.inl v) :: ls) st g μ Q = Wp E 127 111 (l0 :: l1 :: l2 :: some (.inl v) :: ls) (.inl v :: st) g μ Q := Wp_nx k127_110 rfl
theorem k127_111 : mCode 127 111 = some (.if_icmp .ge 37, 3) := by decide +kernel
theorem x127_111 {E : ME} {ls : MLs} {st : List MV} {g : MG} {μ : MU} {Q : Option MV → MG → MU → Prop} {a b : Int} : Wp E 127 111 ls (.inl b :: .inl a :: st) g μ Q = ((b ≤ a → Wp E 127 148 ls st g μ Q) ∧ (a < b → Wp E 127 114 ls st g μ Q)) := Wp_cmp_ge k127_111 (by decide)
theorem k127_114 : mCode 127 114 = some (.aload_n 0, 1) := by decide +kernel
theorem x127_114 {E : ME} {ls : MLs} {st : List MV} {g : MG} {μ : MU} {Q : Option MV → MG → MU → Prop} {v : Nat ⊕ Nat} : Wp E 127 114 (some (.inr (.inr v)) :: ls) st g μ Q = Wp E 127 115 (some (.inr (.inr v)) :: ls) (.inr (.inr v) :: st) g μ Q := Wp_nx k127_114 rfl
theorem k127_115 : mCode 127 115 = some (.getfield 23, 3) := by decide +kernel
theorem x127_115 {E : ME} {ls : MLs} {st : List MV} {g : MG} {μ : MU} {Q : Option MV → MG → MU → Prop} {a : Nat} : Wp E 127 115 ls (.inr (.inr (.inl a)) :: st) g μ Q = ((mKd g a).1 = 6 ∧ Wp E 127 118 ls (mRv (mRf g a 6) :: st) g μ Q) := Wp_getR k127_115 f6_23 (by decide) (by decide)
theorem k127_118 : mCode 127 118 = some (.aload_n 0, 1) := by decide +kernel
theorem x127_118 {E : ME} {ls : MLs} {st : List MV} {g : MG} {μ : MU} {Q : Option MV → MG → MU → Prop} {v : Nat ⊕ Nat} : Wp E 127 118 (some (.inr (.inr v)) :: ls) st g μ Q = Wp E 127 119 (some (.inr (.inr v)) :: ls) (.inr (.inr v) :: st) g μ Q := Wp_nx k127_118 rfl
theorem k127_119 : mCode 127 119 = some (.getfield 183, 3) := by decide +kernel
theorem x127_119 {E : ME} {ls : MLs} {st : List MV} {g : MG} {μ : MU} {Q : Option MV → MG → MU → Prop} {a : Nat} : Wp E 127 119 ls (.inr (.inr (.inl a)) :: st) g μ Q = ((mKd g a).1 = 6 ∧ Wp E 127 122 ls (.inl (μ a 7) :: st) g μ Q) := Wp_getI k127_119 f6_183 (by decide) (by decide)
theorem k127_122 : mCode 127 122 = some (.iload 7, 2) := by decide +kernel
theorem x127_122 {E : ME} {ls : MLs} {st : List MV} {g : MG} {μ : MU} {Q : Option MV → MG → MU → Prop} {l0 l1 l2 l3 l4 l5 l6 : Option MV} {v : Int} : Wp E 127 122 (l0 :: l1 :: l2 :: l3 :: l4 :: l5 :: l6 :: some (.inl v) :: ls) st g μ Q = Wp E 127 124 (l0 :: l1 :: l2 :: l3 :: l4 :: l5 :: l6 :: some (.inl v) :: ls) (.inl v :: st) g μ Q := Wp_nx k127_122 rfl
theorem k127_124 : mCode 127 124 = some (.iadd, 1) := by decide +kernel
theorem x127_124 {E : ME} {ls : MLs} {st : List MV} {g : MG} {μ : MU} {Q : Option MV → MG → MU → Prop} {a b : Int} : Wp E 127 124 ls (.inl b :: .inl a :: st) g μ Q = Wp E 127 125 ls (.inl (mWr (a + b)) :: st) g μ Q := Wp_nx k127_124 rfl
theorem k127_125 : mCode 127 125 = some (.lload_n 1, 1) := by decide +kernel
theorem x127_125 {E : ME} {ls : MLs} {st : List MV} {g : MG} {μ : MU} {Q : Option MV → MG → MU → Prop} {l0 : Option MV} {v : Int} : Wp E 127 125 (l0 :: some (.inr (.inl v)) :: ls) st g μ Q = Wp E 127 126 (l0 :: some (.inr (.inl v)) :: ls) (.inr (.inl v) :: st) g μ Q := Wp_nx k127_125 rfl
theorem k127_126 : mCode 127 126 = some (.bipush 8, 2) := by decide +kernel
theorem x127_126 {E : ME} {ls : MLs} {st : List MV} {g : MG} {μ : MU} {Q : Option MV → MG → MU → Prop} : Wp E 127 126 ls st g μ Q = Wp E 127 128 ls (.inl 8 :: st) g μ Q := Wp_nx k127_126 rfl
theorem k127_128 : mCode 127 128 = some (.iload_n 3, 1) := by decide +kernel
theorem x127_128 {E : ME} {ls : MLs} {st : List MV} {g : MG} {μ : MU} {Q : Option MV → MG → MU → Prop} {l0 l1 l2 : Option MV} {v : Int} : Wp E 127 128 (l0 :: l1 :: l2 :: some (.inl v) :: ls) st g μ Q = Wp E 127 129 (l0 :: l1 :: l2 :: some (.inl v) :: ls) (.inl v :: st) g μ Q := Wp_nx k127_128 rfl
theorem k127_129 : mCode 127 129 = some (.iconst 1, 1) := by decide +kernel
theorem x127_129 {E : ME} {ls : MLs} {st : List MV} {g : MG} {μ : MU} {Q : Option MV → MG → MU → Prop} : Wp E 127 129 ls st g μ Q = Wp E 127 130 ls (.inl 1 :: st) g μ Q := Wp_nx k127_129 rfl
theorem k127_130 : mCode 127 130 = some (.isub, 1) := by decide +kernel
theorem x127_130 {E : ME} {ls : MLs} {st : List MV} {g : MG} {μ : MU} {Q : Option MV → MG → MU → Prop} {a b : Int} : Wp E 127 130 ls (.inl b :: .inl a :: st) g μ Q = Wp E 127 131 ls (.inl (mWr (a - b)) :: st) g μ Q := Wp_nx k127_130 rfl
theorem k127_131 : mCode 127 131 = some (.iload 7, 2) := by decide +kernel
theorem x127_131 {E : ME} {ls : MLs} {st : List MV} {g : MG} {μ : MU} {Q : Option MV → MG → MU → Prop} {l0 l1 l2 l3 l4 l5 l6 : Option MV} {v : Int} : Wp E 127 131 (l0 :: l1 :: l2 :: l3 :: l4 :: l5 :: l6 :: some (.inl v) :: ls) st g μ Q = Wp E 127 133 (l0 :: l1 :: l2 :: l3 :: l4 :: l5 :: l6 :: some (.inl v) :: ls) (.inl v :: st) g μ Q := Wp_nx k127_131 rfl
theorem k127_133 : mCode 127 133 = some (.isub, 1) := by decide +kernel
theorem x127_133 {E : ME} {ls : MLs} {st : List MV} {g : MG} {μ : MU} {Q : Option MV → MG → MU → Prop} {a b : Int} : Wp E 127 133 ls (.inl b :: .inl a :: st) g μ Q = Wp E 127 134 ls (.inl (mWr (a - b)) :: st) g μ Q := Wp_nx k127_133 rfl
theorem k127_134 : mCode 127 134 = some (.imul, 1) := by decide +kernel
theorem x127_134 {E : ME} {ls : MLs} {st : List MV} {g : MG} {μ : MU} {Q : Option MV → MG → MU → Prop} {a b : Int} : Wp E 127 134 ls (.inl b :: .inl a :: st) g μ Q = Wp E 127 135 ls (.inl (mWr (a * b)) :: st) g μ Q := Wp_nx k127_134 rfl
theorem k127_135 : mCode 127 135 = some (.lushr, 1) := by decide +kernel
theorem x127_135 {E : ME} {ls : MLs} {st : List MV} {g : MG} {μ : MU} {Q : Option MV → MG → MU → Prop} {a b : Int} : Wp E 127 135 ls (.inl b :: .inr (.inl a) :: st) g μ Q = Wp E 127 136 ls (.inr (.inl (mLushr a b)) :: st) g μ Q := Wp_nx k127_135 rfl
theorem k127_136 : mCode 127 136 = some (.ldc2_w 190, 3) := by decide +kernel
theorem x127_136 {E : ME} {ls : MLs} {st : List MV} {g : MG} {μ : MU} {Q : Option MV → MG → MU → Prop} : Wp E 127 136 ls st g μ Q = Wp E 127 139 ls (mL (255) :: st) g μ Q := Wp_ldc2_w k127_136 (by decide +kernel)
theorem k127_139 : mCode 127 139 = some (.land, 1) := by decide +kernel
theorem x127_139 {E : ME} {ls : MLs} {st : List MV} {g : MG} {μ : MU} {Q : Option MV → MG → MU → Prop} {a b : Int} : Wp E 127 139 ls (.inr (.inl b) :: .inr (.inl a) :: st) g μ Q = Wp E 127 140 ls (.inr (.inl (mLand a b)) :: st) g μ Q := Wp_nx k127_139 rfl
theorem k127_140 : mCode 127 140 = some (.l2i, 1) := by decide +kernel
theorem x127_140 {E : ME} {ls : MLs} {st : List MV} {g : MG} {μ : MU} {Q : Option MV → MG → MU → Prop} {a : Int} : Wp E 127 140 ls (.inr (.inl a) :: st) g μ Q = Wp E 127 141 ls (.inl (mWr a) :: st) g μ Q := Wp_nx k127_140 rfl
theorem k127_141 : mCode 127 141 = some (.iastore, 1) := by decide +kernel
theorem x127_141 {E : ME} {ls : MLs} {st : List MV} {g : MG} {μ : MU} {Q : Option MV → MG → MU → Prop} {a : Nat} {j v : Int} : Wp E 127 141 ls (.inl v :: .inl j :: .inr (.inr (.inl a)) :: st) g μ Q = (((mKd g a).1 = 10 ∧ 0 ≤ j ∧ j < (mKd g a).2) ∧ Wp E 127 142 ls st g (mUp μ a j.toNat v) Q) := Wp_iast k127_141
theorem k127_142 : mCode 127 142 = some (.iinc 7 1, 3) := by decide +kernel
theorem x127_142 {E : ME} {ls : MLs} {st : List MV} {g : MG} {μ : MU} {Q : Option MV → MG → MU → Prop} {l0 l1 l2 l3 l4 l5 l6 : Option MV} {v : Int} : Wp E 127 142 (l0 :: l1 :: l2 :: l3 :: l4 :: l5 :: l6 :: some (.inl v) :: ls) st g μ Q = (mNl (some l6) = true ∧ Wp E 127 145 (l0 :: l1 :: l2 :: l3 :: l4 :: l5 :: l6 :: some (.inl (mWr (v + 1))) :: ls) st g μ Q) := Wp_inc k127_142 rfl rfl rfl
theorem k127_145 : mCode 127 145 = some (.goto (-37), 3) := by decide +kernel
theorem x127_145 {E : ME} {ls : MLs} {st : List MV} {g : MG} {μ : MU} {Q : Option MV → MG → MU → Prop} : Wp E 127 145 ls st g μ Q = Wp E 127 108 ls st g μ Q := Wp_goto k127_145 (by decide)
theorem k127_148 : mCode 127 148 = some (.aload_n 0, 1) := by decide +kernel
theorem x127_148 {E : ME} {ls : MLs} {st : List MV} {g : MG} {μ : MU} {Q : Option MV → MG → MU → Prop} {v : Nat ⊕ Nat} : Wp E 127 148 (some (.inr (.inr v)) :: ls) st g μ Q = Wp E 127 149 (some (.inr (.inr v)) :: ls) (.inr (.inr v) :: st) g μ Q := Wp_nx k127_148 rfl
theorem k127_149 : mCode 127 149 = some (.dup, 1) := by decide +kernel
theorem x127_149 {E : ME} {ls : MLs} {st : List MV} {g : MG} {μ : MU} {Q : Option MV → MG → MU → Prop} {v : MV} : Wp E 127 149 ls (v :: st) g μ Q = (mC1 v = true ∧ Wp E 127 150 ls (v :: v :: st) g μ Q) := Wp_dup k127_149
theorem k127_150 : mCode 127 150 = some (.getfield 183, 3) := by decide +kernel
theorem x127_150 {E : ME} {ls : MLs} {st : List MV} {g : MG} {μ : MU} {Q : Option MV → MG → MU → Prop} {a : Nat} : Wp E 127 150 ls (.inr (.inr (.inl a)) :: st) g μ Q = ((mKd g a).1 = 6 ∧ Wp E 127 153 ls (.inl (μ a 7) :: st) g μ Q) := Wp_getI k127_150 f6_183 (by decide) (by decide)
theorem k127_153 : mCode 127 153 = some (.iload_n 3, 1) := by decide +kernel
theorem x127_153 {E : ME} {ls : MLs} {st : List MV} {g : MG} {μ : MU} {Q : Option MV → MG → MU → Prop} {l0 l1 l2 : Option MV} {v : Int} : Wp E 127 153 (l0 :: l1 :: l2 :: some (.inl v) :: ls) st g μ Q = Wp E 127 154 (l0 :: l1 :: l2 :: some (.inl v) :: ls) (.inl v :: st) g μ Q := Wp_nx k127_153 rfl
theorem k127_154 : mCode 127 154 = some (.iadd, 1) := by decide +kernel
theorem x127_154 {E : ME} {ls : MLs} {st : List MV} {g : MG} {μ : MU} {Q : Option MV → MG → MU → Prop} {a b : Int} : Wp E 127 154 ls (.inl b :: .inl a :: st) g μ Q = Wp E 127 155 ls (.inl (mWr (a + b)) :: st) g μ Q := Wp_nx k127_154 rfl
theorem k127_155 : mCode 127 155 = some (.putfield 183, 3) := by decide +kernel
theorem x127_155 {E : ME} {ls : MLs} {st : List MV} {g : MG} {μ : MU} {Q : Option MV → MG → MU → Prop} {a : Nat} {v : Int} : Wp E 127 155 ls (.inl v :: .inr (.inr (.inl a)) :: st) g μ Q = ((mKd g a).1 = 6 ∧ Wp E 127 158 ls st g (mUp μ a 7 v) Q) := Wp_putI0 k127_155 f6_183 (by decide) (by decide)
theorem k127_158 : mCode 127 158 = some (.aload_n 0, 1) := by decide +kernel
theorem x127_158 {E : ME} {ls : MLs} {st : List MV} {g : MG} {μ : MU} {Q : Option MV → MG → MU → Prop} {v : Nat ⊕ Nat} : Wp E 127 158 (some (.inr (.inr v)) :: ls) st g μ Q = Wp E 127 159 (some (.inr (.inr v)) :: ls) (.inr (.inr v) :: st) g μ Q := Wp_nx k127_158 rfl
theorem k127_159 : mCode 127 159 = some (.getfield 183, 3) := by decide +kernel
theorem x127_159 {E : ME} {ls : MLs} {st : List MV} {g : MG} {μ : MU} {Q : Option MV → MG → MU → Prop} {a : Nat} : Wp E 127 159 ls (.inr (.inr (.inl a)) :: st) g μ Q = ((mKd g a).1 = 6 ∧ Wp E 127 162 ls (.inl (μ a 7) :: st) g μ Q) := Wp_getI k127_159 f6_183 (by decide) (by decide)
theorem k127_162 : mCode 127 162 = some (.ireturn, 1) := by decide +kernel
theorem x127_162 {E : ME} {ls : MLs} {g : MG} {μ : MU} {Q : Option MV → MG → MU → Prop} {v : Int} : Wp E 127 162 ls [.inl v] g μ Q = Q (some (.inl v)) g μ := Wp_retI k127_162 (by decide)
theorem k128_0 : mCode 128 0 = some (.aload_n 0, 1) := by decide +kernel
theorem x128_0 {E : ME} {ls : MLs} {st : List MV} {g : MG} {μ : MU} {Q : Option MV → MG → MU → Prop} {v : Nat ⊕ Nat} : Wp E 128 0 (some (.inr (.inr v)) :: ls) st g μ Q = Wp E 128 1 (some (.inr (.inr v)) :: ls) (.inr (.inr v) :: st) g μ Q := Wp_nx k128_0 rfl
theorem k128_1 : mCode 128 1 = some (.iconst 0, 1) := by decide +kernel
theorem x128_1 {E : ME} {ls : MLs} {st : List MV} {g : MG} {μ : MU} {Q : Option MV → MG → MU → Prop} : Wp E 128 1 ls st g μ Q = Wp E 128 2 ls (.inl 0 :: st) g μ Q := Wp_nx k128_1 rfl
theorem k128_2 : mCode 128 2 = some (.putfield 65, 3) := by decide +kernel
theorem x128_2 {E : ME} {ls : MLs} {st : List MV} {g : MG} {μ : MU} {Q : Option MV → MG → MU → Prop} {a : Nat} {v : Int} : Wp E 128 2 ls (.inl v :: .inr (.inr (.inl a)) :: st) g μ Q = ((mKd g a).1 = 6 ∧ Wp E 128 5 ls st g (mUp μ a 0 v) Q) := Wp_putI0 k128_2 f6_65 (by decide) (by decide)
theorem k128_5 : mCode 128 5 = some (.aload_n 0, 1) := by decide +kernel
theorem x128_5 {E : ME} {ls : MLs} {st : List MV} {g : MG} {μ : MU} {Q : Option MV → MG → MU → Prop} {v : Nat ⊕ Nat} : Wp E 128 5 (some (.inr (.inr v)) :: ls) st g μ Q = Wp E 128 6 (some (.inr (.inr v)) :: ls) (.inr (.inr v) :: st) g μ Q := Wp_nx k128_5 rfl
theorem k128_6 : mCode 128 6 = some (.getfield 183, 3) := by decide +kernel
theorem x128_6 {E : ME} {ls : MLs} {st : List MV} {g : MG} {μ : MU} {Q : Option MV → MG → MU → Prop} {a : Nat} : Wp E 128 6 ls (.inr (.inr (.inl a)) :: st) g μ Q = ((mKd g a).1 = 6 ∧ Wp E 128 9 ls (.inl (μ a 7) :: st) g μ Q) := Wp_getI k128_6 f6_183 (by decide) (by decide)
theorem k128_9 : mCode 128 9 = some (.istore_n 1, 1) := by decide +kernel
theorem x128_9 {E : ME} {ls : MLs} {st : List MV} {g : MG} {μ : MU} {Q : Option MV → MG → MU → Prop} {l0 : Option MV} {lk : Option MV} {v : Int} : Wp E 128 9 (l0 :: lk :: ls) (.inl v :: st) g μ Q = ((mNl (some l0) = true ∧ mNl (some lk) = true) ∧ Wp E 128 10 (l0 :: some (.inl v) :: ls) st g μ Q) := Wp_sti k128_9 (fun _ => rfl) rfl rfl rfl
theorem k128_10 : mCode 128 10 = some (.aload_n 0, 1) := by decide +kernel
theorem x128_10 {E : ME} {ls : MLs} {st : List MV} {g : MG} {μ : MU} {Q : Option MV → MG → MU → Prop} {v : Nat ⊕ Nat} : Wp E 128 10 (some (.inr (.inr v)) :: ls) st g μ Q = Wp E 128 11 (some (.inr (.inr v)) :: ls) (.inr (.inr v) :: st) g μ Q := Wp_nx k128_10 rfl
theorem k128_11 : mCode 128 11 = some (.iconst 0, 1) := by decide +kernel
theorem x128_11 {E : ME} {ls : MLs} {st : List MV} {g : MG} {μ : MU} {Q : Option MV → MG → MU → Prop} : Wp E 128 11 ls st g μ Q = Wp E 128 12 ls (.inl 0 :: st) g μ Q := Wp_nx k128_11 rfl
theorem k128_12 : mCode 128 12 = some (.putfield 183, 3) := by decide +kernel
theorem x128_12 {E : ME} {ls : MLs} {st : List MV} {g : MG} {μ : MU} {Q : Option MV → MG → MU → Prop} {a : Nat} {v : Int} : Wp E 128 12 ls (.inl v :: .inr (.inr (.inl a)) :: st) g μ Q = ((mKd g a).1 = 6 ∧ Wp E 128 15 ls st g (mUp μ a 7 v) Q) := Wp_putI0 k128_12 f6_183 (by decide) (by decide)
theorem k128_15 : mCode 128 15 = some (.iload_n 1, 1) := by decide +kernel
theorem x128_15 {E : ME} {ls : MLs} {st : List MV} {g : MG} {μ : MU} {Q : Option MV → MG → MU → Prop} {l0 : Option MV} {v : Int} : Wp E 128 15 (l0 :: some (.inl v) :: ls) st g μ Q = Wp E 128 16 (l0 :: some (.inl v) :: ls) (.inl v :: st) g μ Q := Wp_nx k128_15 rfl
theorem k128_16 : mCode 128 16 = some (.ireturn, 1) := by decide +kernel
theorem x128_16 {E : ME} {ls : MLs} {g : MG} {μ : MU} {Q : Option MV → MG → MU → Prop} {v : Int} : Wp E 128 16 ls [.inl v] g μ Q = Q (some (.inl v)) g μ := Wp_retI k128_16 (by decide)
theorem k129_0 : mCode 129 0 = some (.aload_n 0, 1) := by decide +kernel
theorem x129_0 {E : ME} {ls : MLs} {st : List MV} {g : MG} {μ : MU} {Q : Option MV → MG → MU → Prop} {v : Nat ⊕ Nat} : Wp E 129 0 (some (.inr (.inr v)) :: ls) st g μ Q = Wp E 129 1 (some (.inr (.inr v)) :: ls) (.inr (.inr v) :: st) g μ Q := Wp_nx k129_0 rfl
theorem k129_1 : mCode 129 1 = some (.getfield 192, 3) := by decide +kernel
theorem x129_1 {E : ME} {ls : MLs} {st : List MV} {g : MG} {μ : MU} {Q : Option MV → MG → MU → Prop} {a : Nat} : Wp E 129 1 ls (.inr (.inr (.inl a)) :: st) g μ Q = ((mKd g a).1 = 6 ∧ Wp E 129 4 ls (.inl (μ a 21) :: st) g μ Q) := Wp_getI k129_1 f6_192 (by decide) (by decide)
theorem k129_4 : mCode 129 4 = some (.aload_n 0, 1) := by decide +kernel
theorem x129_4 {E : ME} {ls : MLs} {st : List MV} {g : MG} {μ : MU} {Q : Option MV → MG → MU → Prop} {v : Nat ⊕ Nat} : Wp E 129 4 (some (.inr (.inr v)) :: ls) st g μ Q = Wp E 129 5 (some (.inr (.inr v)) :: ls) (.inr (.inr v) :: st) g μ Q := Wp_nx k129_4 rfl
theorem k129_5 : mCode 129 5 = some (.getfield 183, 3) := by decide +kernel
theorem x129_5 {E : ME} {ls : MLs} {st : List MV} {g : MG} {μ : MU} {Q : Option MV → MG → MU → Prop} {a : Nat} : Wp E 129 5 ls (.inr (.inr (.inl a)) :: st) g μ Q = ((mKd g a).1 = 6 ∧ Wp E 129 8 ls (.inl (μ a 7) :: st) g μ Q) := Wp_getI k129_5 f6_183 (by decide) (by decide)
theorem k129_8 : mCode 129 8 = some (.if_icmp .ge 15, 3) := by decide +kernel
theorem x129_8 {E : ME} {ls : MLs} {st : List MV} {g : MG} {μ : MU} {Q : Option MV → MG → MU → Prop} {a b : Int} : Wp E 129 8 ls (.inl b :: .inl a :: st) g μ Q = ((b ≤ a → Wp E 129 23 ls st g μ Q) ∧ (a < b → Wp E 129 11 ls st g μ Q)) := Wp_cmp_ge k129_8 (by decide)
theorem k129_11 : mCode 129 11 = some (.aload_n 0, 1) := by decide +kernel
theorem x129_11 {E : ME} {ls : MLs} {st : List MV} {g : MG} {μ : MU} {Q : Option MV → MG → MU → Prop} {v : Nat ⊕ Nat} : Wp E 129 11 (some (.inr (.inr v)) :: ls) st g μ Q = Wp E 129 12 (some (.inr (.inr v)) :: ls) (.inr (.inr v) :: st) g μ Q := Wp_nx k129_11 rfl
theorem k129_12 : mCode 129 12 = some (.getfield 23, 3) := by decide +kernel
theorem x129_12 {E : ME} {ls : MLs} {st : List MV} {g : MG} {μ : MU} {Q : Option MV → MG → MU → Prop} {a : Nat} : Wp E 129 12 ls (.inr (.inr (.inl a)) :: st) g μ Q = ((mKd g a).1 = 6 ∧ Wp E 129 15 ls (mRv (mRf g a 6) :: st) g μ Q) := Wp_getR k129_12 f6_23 (by decide) (by decide)
theorem k129_15 : mCode 129 15 = some (.aload_n 0, 1) := by decide +kernel
theorem x129_15 {E : ME} {ls : MLs} {st : List MV} {g : MG} {μ : MU} {Q : Option MV → MG → MU → Prop} {v : Nat ⊕ Nat} : Wp E 129 15 (some (.inr (.inr v)) :: ls) st g μ Q = Wp E 129 16 (some (.inr (.inr v)) :: ls) (.inr (.inr v) :: st) g μ Q := Wp_nx k129_15 rfl
theorem k129_16 : mCode 129 16 = some (.getfield 192, 3) := by decide +kernel
theorem x129_16 {E : ME} {ls : MLs} {st : List MV} {g : MG} {μ : MU} {Q : Option MV → MG → MU → Prop} {a : Nat} : Wp E 129 16 ls (.inr (.inr (.inl a)) :: st) g μ Q = ((mKd g a).1 = 6 ∧ Wp E 129 19 ls (.inl (μ a 21) :: st) g μ Q) := Wp_getI k129_16 f6_192 (by decide) (by decide)
theorem k129_19 : mCode 129 19 = some (.iaload, 1) := by decide +kernel
theorem x129_19 {E : ME} {ls : MLs} {st : List MV} {g : MG} {μ : MU} {Q : Option MV → MG → MU → Prop} {a : Nat} {j : Int} : Wp E 129 19 ls (.inl j :: .inr (.inr (.inl a)) :: st) g μ Q = (((mKd g a).1 = 10 ∧ 0 ≤ j ∧ j < (mKd g a).2) ∧ Wp E 129 20 ls (.inl (μ a j.toNat) :: st) g μ Q) := Wp_ald k129_19 (fun _ => rfl)
theorem k129_20 : mCode 129 20 = some (.goto 4, 3) := by decide +kernel
theorem x129_20 {E : ME} {ls : MLs} {st : List MV} {g : MG} {μ : MU} {Q : Option MV → MG → MU → Prop} : Wp E 129 20 ls st g μ Q = Wp E 129 24 ls st g μ Q := Wp_goto k129_20 (by decide)
theorem k129_23 : mCode 129 23 = some (.iconst 0, 1) := by decide +kernel
theorem x129_23 {E : ME} {ls : MLs} {st : List MV} {g : MG} {μ : MU} {Q : Option MV → MG → MU → Prop} : Wp E 129 23 ls st g μ Q = Wp E 129 24 ls (.inl 0 :: st) g μ Q := Wp_nx k129_23 rfl
theorem k129_24 : mCode 129 24 = some (.ireturn, 1) := by decide +kernel
theorem x129_24 {E : ME} {ls : MLs} {g : MG} {μ : MU} {Q : Option MV → MG → MU → Prop} {v : Int} : Wp E 129 24 ls [.inl v] g μ Q = Q (some (.inl v)) g μ := Wp_retI k129_24 (by decide)
theorem k130_0 : mCode 130 0 = some (.aload_n 0, 1) := by decide +kernel
theorem x130_0 {E : ME} {ls : MLs} {st : List MV} {g : MG} {μ : MU} {Q : Option MV → MG → MU → Prop} {v : Nat ⊕ Nat} : Wp E 130 0 (some (.inr (.inr v)) :: ls) st g μ Q = Wp E 130 1 (some (.inr (.inr v)) :: ls) (.inr (.inr v) :: st) g μ Q := Wp_nx k130_0 rfl
theorem k130_1 : mCode 130 1 = some (.aload_n 0, 1) := by decide +kernel
theorem x130_1 {E : ME} {ls : MLs} {st : List MV} {g : MG} {μ : MU} {Q : Option MV → MG → MU → Prop} {v : Nat ⊕ Nat} : Wp E 130 1 (some (.inr (.inr v)) :: ls) st g μ Q = Wp E 130 2 (some (.inr (.inr v)) :: ls) (.inr (.inr v) :: st) g μ Q := Wp_nx k130_1 rfl
theorem k130_2 : mCode 130 2 = some (.getfield 195, 3) := by decide +kernel
theorem x130_2 {E : ME} {ls : MLs} {st : List MV} {g : MG} {μ : MU} {Q : Option MV → MG → MU → Prop} {a : Nat} : Wp E 130 2 ls (.inr (.inr (.inl a)) :: st) g μ Q = ((mKd g a).1 = 6 ∧ Wp E 130 5 ls (.inl (μ a 22) :: st) g μ Q) := Wp_getI k130_2 f6_195 (by decide) (by decide)
theorem k130_5 : mCode 130 5 = some (.ifCond .eq 15, 3) := by decide +kernel
theorem x130_5 {E : ME} {ls : MLs} {st : List MV} {g : MG} {μ : MU} {Q : Option MV → MG → MU → Prop} {a : Int} : Wp E 130 5 ls (.inl a :: st) g μ Q = ((a = 0 → Wp E 130 20 ls st g μ Q) ∧ (¬ a = 0 → Wp E 130 8 ls st g μ Q)) := Wp_if_eq k130_5 (by decide)
theorem k130_8 : mCode 130 8 = some (.aload_n 0, 1) := by decide +kernel
theorem x130_8 {E : ME} {ls : MLs} {st : List MV} {g : MG} {μ : MU} {Q : Option MV → MG → MU → Prop} {v : Nat ⊕ Nat} : Wp E 130 8 (some (.inr (.inr v)) :: ls) st g μ Q = Wp E 130 9 (some (.inr (.inr v)) :: ls) (.inr (.inr v) :: st) g μ Q := Wp_nx k130_8 rfl
theorem k130_9 : mCode 130 9 = some (.invokevirtual 199, 3) := by decide +kernel
theorem x130_9 {E : ME} {ls : MLs} {st : List MV} {g : MG} {μ : MU} {Q : Option MV → MG → MU → Prop} {r : Nat} : Wp E 130 9 ls (.inr (.inr (.inl r)) :: st) g μ Q = ((st.length ≤ 4 ∧ ((mKd g r).1 == 6) = true) ∧ Wp E 129 0 [some (.inr (.inr (.inl r)))] [] g μ (fun r g' μ' => (g'.1 = g.1 ∧ g'.2.1 = g.2.1) ∧ Wp E 130 12 ls (mPush r st) g' μ' Q)) := Wp_cV k130_9 m6_199 (by decide) (as := [.inr (.inr (.inl r))]) rfl rfl rfl ⟨Nat.le_of_ble_eq_true rfl, by decide⟩
theorem k130_12 : mCode 130 12 = some (.iload_n 1, 1) := by decide +kernel
theorem x130_12 {E : ME} {ls : MLs} {st : List MV} {g : MG} {μ : MU} {Q : Option MV → MG → MU → Prop} {l0 : Option MV} {v : Int} : Wp E 130 12 (l0 :: some (.inl v) :: ls) st g μ Q = Wp E 130 13 (l0 :: some (.inl v) :: ls) (.inl v :: st) g μ Q := Wp_nx k130_12 rfl
theorem k130_13 : mCode 130 13 = some (.if_icmp .ne 7, 3) := by decide +kernel
theorem x130_13 {E : ME} {ls : MLs} {st : List MV} {g : MG} {μ : MU} {Q : Option MV → MG → MU → Prop} {a b : Int} : Wp E 130 13 ls (.inl b :: .inl a :: st) g μ Q = ((¬ a = b → Wp E 130 20 ls st g μ Q) ∧ (a = b → Wp E 130 16 ls st g μ Q)) := Wp_cmp_ne k130_13 (by decide)
theorem k130_16 : mCode 130 16 = some (.iconst 1, 1) := by decide +kernel
theorem x130_16 {E : ME} {ls : MLs} {st : List MV} {g : MG} {μ : MU} {Q : Option MV → MG → MU → Prop} : Wp E 130 16 ls st g μ Q = Wp E 130 17 ls (.inl 1 :: st) g μ Q := Wp_nx k130_16 rfl
theorem k130_17 : mCode 130 17 = some (.goto 4, 3) := by decide +kernel
theorem x130_17 {E : ME} {ls : MLs} {st : List MV} {g : MG} {μ : MU} {Q : Option MV → MG → MU → Prop} : Wp E 130 17 ls st g μ Q = Wp E 130 21 ls st g μ Q := Wp_goto k130_17 (by decide)
theorem k130_20 : mCode 130 20 = some (.iconst 0, 1) := by decide +kernel
theorem x130_20 {E : ME} {ls : MLs} {st : List MV} {g : MG} {μ : MU} {Q : Option MV → MG → MU → Prop} : Wp E 130 20 ls st g μ Q = Wp E 130 21 ls (.inl 0 :: st) g μ Q := Wp_nx k130_20 rfl
theorem k130_21 : mCode 130 21 = some (.putfield 195, 3) := by decide +kernel
theorem x130_21 {E : ME} {ls : MLs} {st : List MV} {g : MG} {μ : MU} {Q : Option MV → MG → MU → Prop} {a : Nat} {v : Int} : Wp E 130 21 ls (.inl v :: .inr (.inr (.inl a)) :: st) g μ Q = (((mKd g a).1 = 6 ∧ mOk 2 v = true) ∧ Wp E 130 24 ls st g (mUp μ a 22 v) Q) := Wp_putI k130_21 f6_195 (by decide) (by decide)
theorem k130_24 : mCode 130 24 = some (.aload_n 0, 1) := by decide +kernel
theorem x130_24 {E : ME} {ls : MLs} {st : List MV} {g : MG} {μ : MU} {Q : Option MV → MG → MU → Prop} {v : Nat ⊕ Nat} : Wp E 130 24 (some (.inr (.inr v)) :: ls) st g μ Q = Wp E 130 25 (some (.inr (.inr v)) :: ls) (.inr (.inr v) :: st) g μ Q := Wp_nx k130_24 rfl
theorem k130_25 : mCode 130 25 = some (.dup, 1) := by decide +kernel
theorem x130_25 {E : ME} {ls : MLs} {st : List MV} {g : MG} {μ : MU} {Q : Option MV → MG → MU → Prop} {v : MV} : Wp E 130 25 ls (v :: st) g μ Q = (mC1 v = true ∧ Wp E 130 26 ls (v :: v :: st) g μ Q) := Wp_dup k130_25
theorem k130_26 : mCode 130 26 = some (.getfield 192, 3) := by decide +kernel
theorem x130_26 {E : ME} {ls : MLs} {st : List MV} {g : MG} {μ : MU} {Q : Option MV → MG → MU → Prop} {a : Nat} : Wp E 130 26 ls (.inr (.inr (.inl a)) :: st) g μ Q = ((mKd g a).1 = 6 ∧ Wp E 130 29 ls (.inl (μ a 21) :: st) g μ Q) := Wp_getI k130_26 f6_192 (by decide) (by decide)
theorem k130_29 : mCode 130 29 = some (.aload_n 0, 1) := by decide +kernel
theorem x130_29 {E : ME} {ls : MLs} {st : List MV} {g : MG} {μ : MU} {Q : Option MV → MG → MU → Prop} {v : Nat ⊕ Nat} : Wp E 130 29 (some (.inr (.inr v)) :: ls) st g μ Q = Wp E 130 30 (some (.inr (.inr v)) :: ls) (.inr (.inr v) :: st) g μ Q := Wp_nx k130_29 rfl
theorem k130_30 : mCode 130 30 = some (.getfield 195, 3) := by decide +kernel
theorem x130_30 {E : ME} {ls : MLs} {st : List MV} {g : MG} {μ : MU} {Q : Option MV → MG → MU → Prop} {a : Nat} : Wp E 130 30 ls (.inr (.inr (.inl a)) :: st) g μ Q = ((mKd g a).1 = 6 ∧ Wp E 130 33 ls (.inl (μ a 22) :: st) g μ Q) := Wp_getI k130_30 f6_195 (by decide) (by decide)
theorem k130_33 : mCode 130 33 = some (.ifCond .eq 7, 3) := by decide +kernel
theorem x130_33 {E : ME} {ls : MLs} {st : List MV} {g : MG} {μ : MU} {Q : Option MV → MG → MU → Prop} {a : Int} : Wp E 130 33 ls (.inl a :: st) g μ Q = ((a = 0 → Wp E 130 40 ls st g μ Q) ∧ (¬ a = 0 → Wp E 130 36 ls st g μ Q)) := Wp_if_eq k130_33 (by decide)
theorem k130_36 : mCode 130 36 = some (.iconst 1, 1) := by decide +kernel
theorem x130_36 {E : ME} {ls : MLs} {st : List MV} {g : MG} {μ : MU} {Q : Option MV → MG → MU → Prop} : Wp E 130 36 ls st g μ Q = Wp E 130 37 ls (.inl 1 :: st) g μ Q := Wp_nx k130_36 rfl
theorem k130_37 : mCode 130 37 = some (.goto 4, 3) := by decide +kernel
theorem x130_37 {E : ME} {ls : MLs} {st : List MV} {g : MG} {μ : MU} {Q : Option MV → MG → MU → Prop} : Wp E 130 37 ls st g μ Q = Wp E 130 41 ls st g μ Q := Wp_goto k130_37 (by decide)
theorem k130_40 : mCode 130 40 = some (.iconst 0, 1) := by decide +kernel
theorem x130_40 {E : ME} {ls : MLs} {st : List MV} {g : MG} {μ : MU} {Q : Option MV → MG → MU → Prop} : Wp E 130 40 ls st g μ Q = Wp E 130 41 ls (.inl 0 :: st) g μ Q := Wp_nx k130_40 rfl
theorem k130_41 : mCode 130 41 = some (.iadd, 1) := by decide +kernel
theorem x130_41 {E : ME} {ls : MLs} {st : List MV} {g : MG} {μ : MU} {Q : Option MV → MG → MU → Prop} {a b : Int} : Wp E 130 41 ls (.inl b :: .inl a :: st) g μ Q = Wp E 130 42 ls (.inl (mWr (a + b)) :: st) g μ Q := Wp_nx k130_41 rfl
theorem k130_42 : mCode 130 42 = some (.putfield 192, 3) := by decide +kernel
theorem x130_42 {E : ME} {ls : MLs} {st : List MV} {g : MG} {μ : MU} {Q : Option MV → MG → MU → Prop} {a : Nat} {v : Int} : Wp E 130 42 ls (.inl v :: .inr (.inr (.inl a)) :: st) g μ Q = ((mKd g a).1 = 6 ∧ Wp E 130 45 ls st g (mUp μ a 21 v) Q) := Wp_putI0 k130_42 f6_192 (by decide) (by decide)
theorem k130_45 : mCode 130 45 = some (.return_, 1) := by decide +kernel
theorem x130_45 {E : ME} {ls : MLs} {g : MG} {μ : MU} {Q : Option MV → MG → MU → Prop} : Wp E 130 45 ls [] g μ Q = Q none g μ := Wp_retV k130_45 (by decide)
theorem k131_0 : mCode 131 0 = some (.aload_n 0, 1) := by decide +kernel
theorem x131_0 {E : ME} {ls : MLs} {st : List MV} {g : MG} {μ : MU} {Q : Option MV → MG → MU → Prop} {v : Nat ⊕ Nat} : Wp E 131 0 (some (.inr (.inr v)) :: ls) st g μ Q = Wp E 131 1 (some (.inr (.inr v)) :: ls) (.inr (.inr v) :: st) g μ Q := Wp_nx k131_0 rfl
theorem k131_1 : mCode 131 1 = some (.aload_n 0, 1) := by decide +kernel
theorem x131_1 {E : ME} {ls : MLs} {st : List MV} {g : MG} {μ : MU} {Q : Option MV → MG → MU → Prop} {v : Nat ⊕ Nat} : Wp E 131 1 (some (.inr (.inr v)) :: ls) st g μ Q = Wp E 131 2 (some (.inr (.inr v)) :: ls) (.inr (.inr v) :: st) g μ Q := Wp_nx k131_1 rfl
theorem k131_2 : mCode 131 2 = some (.getfield 195, 3) := by decide +kernel
theorem x131_2 {E : ME} {ls : MLs} {st : List MV} {g : MG} {μ : MU} {Q : Option MV → MG → MU → Prop} {a : Nat} : Wp E 131 2 ls (.inr (.inr (.inl a)) :: st) g μ Q = ((mKd g a).1 = 6 ∧ Wp E 131 5 ls (.inl (μ a 22) :: st) g μ Q) := Wp_getI k131_2 f6_195 (by decide) (by decide)
theorem k131_5 : mCode 131 5 = some (.ifCond .eq 21, 3) := by decide +kernel
theorem x131_5 {E : ME} {ls : MLs} {st : List MV} {g : MG} {μ : MU} {Q : Option MV → MG → MU → Prop} {a : Int} : Wp E 131 5 ls (.inl a :: st) g μ Q = ((a = 0 → Wp E 131 26 ls st g μ Q) ∧ (¬ a = 0 → Wp E 131 8 ls st g μ Q)) := Wp_if_eq k131_5 (by decide)
theorem k131_8 : mCode 131 8 = some (.aload_n 0, 1) := by decide +kernel
theorem x131_8 {E : ME} {ls : MLs} {st : List MV} {g : MG} {μ : MU} {Q : Option MV → MG → MU → Prop} {v : Nat ⊕ Nat} : Wp E 131 8 (some (.inr (.inr v)) :: ls) st g μ Q = Wp E 131 9 (some (.inr (.inr v)) :: ls) (.inr (.inr v) :: st) g μ Q := Wp_nx k131_8 rfl
theorem k131_9 : mCode 131 9 = some (.invokevirtual 199, 3) := by decide +kernel
theorem x131_9 {E : ME} {ls : MLs} {st : List MV} {g : MG} {μ : MU} {Q : Option MV → MG → MU → Prop} {r : Nat} : Wp E 131 9 ls (.inr (.inr (.inl r)) :: st) g μ Q = ((st.length ≤ 4 ∧ ((mKd g r).1 == 6) = true) ∧ Wp E 129 0 [some (.inr (.inr (.inl r)))] [] g μ (fun r g' μ' => (g'.1 = g.1 ∧ g'.2.1 = g.2.1) ∧ Wp E 131 12 ls (mPush r st) g' μ' Q)) := Wp_cV k131_9 m6_199 (by decide) (as := [.inr (.inr (.inl r))]) rfl rfl rfl ⟨Nat.le_of_ble_eq_true rfl, by decide⟩
theorem k131_12 : mCode 131 12 = some (.bipush 48, 2) := by decide +kernel
theorem x131_12 {E : ME} {ls : MLs} {st : List MV} {g : MG} {μ : MU} {Q : Option MV → MG → MU → Prop} : Wp E 131 12 ls st g μ Q = Wp E 131 14 ls (.inl 48 :: st) g μ Q := Wp_nx k131_12 rfl
theorem k131_14 : mCode 131 14 = some (.bipush 57, 2) := by decide +kernel
theorem x131_14 {E : ME} {ls : MLs} {st : List MV} {g : MG} {μ : MU} {Q : Option MV → MG → MU → Prop} : Wp E 131 14 ls st g μ Q = Wp E 131 16 ls (.inl 57 :: st) g μ Q := Wp_nx k131_14 rfl
theorem k131_16 : mCode 131 16 = some (.invokestatic 69, 3) := by decide +kernel
theorem x131_16 {E : ME} {ls : MLs} {st : List MV} {g : MG} {μ : MU} {Q : Option MV → MG → MU → Prop} {a0 : Int} {a1 : Int} {a2 : Int} : Wp E 131 16 ls (.inl a2 :: .inl a1 :: .inl a0 :: st) g μ Q = (st.length ≤ 4 ∧ Wp E 77 0 [some (.inl a0), some (.inl a1), some (.inl a2)] [] g μ (fun r g' μ' => (g'.1 = g.1 ∧ g'.2.1 = g.2.1) ∧ Wp E 131 19 ls (mPush r st) g' μ' Q)) := Wp_cS k131_16 m6_69 (by decide) (as := [.inl a0, .inl a1, .inl a2]) rfl rfl rfl ⟨Nat.le_of_ble_eq_true rfl, by decide⟩
theorem k131_19 : mCode 131 19 = some (.ifCond .eq 7, 3) := by decide +kernel
theorem x131_19 {E : ME} {ls : MLs} {st : List MV} {g : MG} {μ : MU} {Q : Option MV → MG → MU → Prop} {a : Int} : Wp E 131 19 ls (.inl a :: st) g μ Q = ((a = 0 → Wp E 131 26 ls st g μ Q) ∧ (¬ a = 0 → Wp E 131 22 ls st g μ Q)) := Wp_if_eq k131_19 (by decide)
theorem k131_22 : mCode 131 22 = some (.iconst 1, 1) := by decide +kernel
theorem x131_22 {E : ME} {ls : MLs} {st : List MV} {g : MG} {μ : MU} {Q : Option MV → MG → MU → Prop} : Wp E 131 22 ls st g μ Q = Wp E 131 23 ls (.inl 1 :: st) g μ Q := Wp_nx k131_22 rfl
theorem k131_23 : mCode 131 23 = some (.goto 4, 3) := by decide +kernel
theorem x131_23 {E : ME} {ls : MLs} {st : List MV} {g : MG} {μ : MU} {Q : Option MV → MG → MU → Prop} : Wp E 131 23 ls st g μ Q = Wp E 131 27 ls st g μ Q := Wp_goto k131_23 (by decide)
theorem k131_26 : mCode 131 26 = some (.iconst 0, 1) := by decide +kernel
theorem x131_26 {E : ME} {ls : MLs} {st : List MV} {g : MG} {μ : MU} {Q : Option MV → MG → MU → Prop} : Wp E 131 26 ls st g μ Q = Wp E 131 27 ls (.inl 0 :: st) g μ Q := Wp_nx k131_26 rfl
theorem k131_27 : mCode 131 27 = some (.putfield 195, 3) := by decide +kernel
theorem x131_27 {E : ME} {ls : MLs} {st : List MV} {g : MG} {μ : MU} {Q : Option MV → MG → MU → Prop} {a : Nat} {v : Int} : Wp E 131 27 ls (.inl v :: .inr (.inr (.inl a)) :: st) g μ Q = (((mKd g a).1 = 6 ∧ mOk 2 v = true) ∧ Wp E 131 30 ls st g (mUp μ a 22 v) Q) := Wp_putI k131_27 f6_195 (by decide) (by decide)
theorem k131_30 : mCode 131 30 = some (.aload_n 0, 1) := by decide +kernel
theorem x131_30 {E : ME} {ls : MLs} {st : List MV} {g : MG} {μ : MU} {Q : Option MV → MG → MU → Prop} {v : Nat ⊕ Nat} : Wp E 131 30 (some (.inr (.inr v)) :: ls) st g μ Q = Wp E 131 31 (some (.inr (.inr v)) :: ls) (.inr (.inr v) :: st) g μ Q := Wp_nx k131_30 rfl
theorem k131_31 : mCode 131 31 = some (.invokevirtual 199, 3) := by decide +kernel
theorem x131_31 {E : ME} {ls : MLs} {st : List MV} {g : MG} {μ : MU} {Q : Option MV → MG → MU → Prop} {r : Nat} : Wp E 131 31 ls (.inr (.inr (.inl r)) :: st) g μ Q = ((st.length ≤ 4 ∧ ((mKd g r).1 == 6) = true) ∧ Wp E 129 0 [some (.inr (.inr (.inl r)))] [] g μ (fun r g' μ' => (g'.1 = g.1 ∧ g'.2.1 = g.2.1) ∧ Wp E 131 34 ls (mPush r st) g' μ' Q)) := Wp_cV k131_31 m6_199 (by decide) (as := [.inr (.inr (.inl r))]) rfl rfl rfl ⟨Nat.le_of_ble_eq_true rfl, by decide⟩
theorem k131_34 : mCode 131 34 = some (.bipush 48, 2) := by decide +kernel
theorem x131_34 {E : ME} {ls : MLs} {st : List MV} {g : MG} {μ : MU} {Q : Option MV → MG → MU → Prop} : Wp E 131 34 ls st g μ Q = Wp E 131 36 ls (.inl 48 :: st) g μ Q := Wp_nx k131_34 rfl
theorem k131_36 : mCode 131 36 = some (.isub, 1) := by decide +kernel
theorem x131_36 {E : ME} {ls : MLs} {st : List MV} {g : MG} {μ : MU} {Q : Option MV → MG → MU → Prop} {a b : Int} : Wp E 131 36 ls (.inl b :: .inl a :: st) g μ Q = Wp E 131 37 ls (.inl (mWr (a - b)) :: st) g μ Q := Wp_nx k131_36 rfl
theorem k131_37 : mCode 131 37 = some (.istore_n 1, 1) := by decide +kernel
theorem x131_37 {E : ME} {ls : MLs} {st : List MV} {g : MG} {μ : MU} {Q : Option MV → MG → MU → Prop} {l0 : Option MV} {lk : Option MV} {v : Int} : Wp E 131 37 (l0 :: lk :: ls) (.inl v :: st) g μ Q = ((mNl (some l0) = true ∧ mNl (some lk) = true) ∧ Wp E 131 38 (l0 :: some (.inl v) :: ls) st g μ Q) := Wp_sti k131_37 (fun _ => rfl) rfl rfl rfl
theorem k131_38 : mCode 131 38 = some (.aload_n 0, 1) := by decide +kernel
theorem x131_38 {E : ME} {ls : MLs} {st : List MV} {g : MG} {μ : MU} {Q : Option MV → MG → MU → Prop} {v : Nat ⊕ Nat} : Wp E 131 38 (some (.inr (.inr v)) :: ls) st g μ Q = Wp E 131 39 (some (.inr (.inr v)) :: ls) (.inr (.inr v) :: st) g μ Q := Wp_nx k131_38 rfl
theorem k131_39 : mCode 131 39 = some (.dup, 1) := by decide +kernel
theorem x131_39 {E : ME} {ls : MLs} {st : List MV} {g : MG} {μ : MU} {Q : Option MV → MG → MU → Prop} {v : MV} : Wp E 131 39 ls (v :: st) g μ Q = (mC1 v = true ∧ Wp E 131 40 ls (v :: v :: st) g μ Q) := Wp_dup k131_39
theorem k131_40 : mCode 131 40 = some (.getfield 192, 3) := by decide +kernel
theorem x131_40 {E : ME} {ls : MLs} {st : List MV} {g : MG} {μ : MU} {Q : Option MV → MG → MU → Prop} {a : Nat} : Wp E 131 40 ls (.inr (.inr (.inl a)) :: st) g μ Q = ((mKd g a).1 = 6 ∧ Wp E 131 43 ls (.inl (μ a 21) :: st) g μ Q) := Wp_getI k131_40 f6_192 (by decide) (by decide)
theorem k131_43 : mCode 131 43 = some (.aload_n 0, 1) := by decide +kernel
theorem x131_43 {E : ME} {ls : MLs} {st : List MV} {g : MG} {μ : MU} {Q : Option MV → MG → MU → Prop} {v : Nat ⊕ Nat} : Wp E 131 43 (some (.inr (.inr v)) :: ls) st g μ Q = Wp E 131 44 (some (.inr (.inr v)) :: ls) (.inr (.inr v) :: st) g μ Q := Wp_nx k131_43 rfl
theorem k131_44 : mCode 131 44 = some (.getfield 195, 3) := by decide +kernel
theorem x131_44 {E : ME} {ls : MLs} {st : List MV} {g : MG} {μ : MU} {Q : Option MV → MG → MU → Prop} {a : Nat} : Wp E 131 44 ls (.inr (.inr (.inl a)) :: st) g μ Q = ((mKd g a).1 = 6 ∧ Wp E 131 47 ls (.inl (μ a 22) :: st) g μ Q) := Wp_getI k131_44 f6_195 (by decide) (by decide)
theorem k131_47 : mCode 131 47 = some (.ifCond .eq 7, 3) := by decide +kernel
theorem x131_47 {E : ME} {ls : MLs} {st : List MV} {g : MG} {μ : MU} {Q : Option MV → MG → MU → Prop} {a : Int} : Wp E 131 47 ls (.inl a :: st) g μ Q = ((a = 0 → Wp E 131 54 ls st g μ Q) ∧ (¬ a = 0 → Wp E 131 50 ls st g μ Q)) := Wp_if_eq k131_47 (by decide)
theorem k131_50 : mCode 131 50 = some (.iconst 1, 1) := by decide +kernel
theorem x131_50 {E : ME} {ls : MLs} {st : List MV} {g : MG} {μ : MU} {Q : Option MV → MG → MU → Prop} : Wp E 131 50 ls st g μ Q = Wp E 131 51 ls (.inl 1 :: st) g μ Q := Wp_nx k131_50 rfl
theorem k131_51 : mCode 131 51 = some (.goto 4, 3) := by decide +kernel
theorem x131_51 {E : ME} {ls : MLs} {st : List MV} {g : MG} {μ : MU} {Q : Option MV → MG → MU → Prop} : Wp E 131 51 ls st g μ Q = Wp E 131 55 ls st g μ Q := Wp_goto k131_51 (by decide)
theorem k131_54 : mCode 131 54 = some (.iconst 0, 1) := by decide +kernel
theorem x131_54 {E : ME} {ls : MLs} {st : List MV} {g : MG} {μ : MU} {Q : Option MV → MG → MU → Prop} : Wp E 131 54 ls st g μ Q = Wp E 131 55 ls (.inl 0 :: st) g μ Q := Wp_nx k131_54 rfl
theorem k131_55 : mCode 131 55 = some (.iadd, 1) := by decide +kernel
theorem x131_55 {E : ME} {ls : MLs} {st : List MV} {g : MG} {μ : MU} {Q : Option MV → MG → MU → Prop} {a b : Int} : Wp E 131 55 ls (.inl b :: .inl a :: st) g μ Q = Wp E 131 56 ls (.inl (mWr (a + b)) :: st) g μ Q := Wp_nx k131_55 rfl
theorem k131_56 : mCode 131 56 = some (.putfield 192, 3) := by decide +kernel
theorem x131_56 {E : ME} {ls : MLs} {st : List MV} {g : MG} {μ : MU} {Q : Option MV → MG → MU → Prop} {a : Nat} {v : Int} : Wp E 131 56 ls (.inl v :: .inr (.inr (.inl a)) :: st) g μ Q = ((mKd g a).1 = 6 ∧ Wp E 131 59 ls st g (mUp μ a 21 v) Q) := Wp_putI0 k131_56 f6_192 (by decide) (by decide)
theorem k131_59 : mCode 131 59 = some (.iload_n 1, 1) := by decide +kernel
theorem x131_59 {E : ME} {ls : MLs} {st : List MV} {g : MG} {μ : MU} {Q : Option MV → MG → MU → Prop} {l0 : Option MV} {v : Int} : Wp E 131 59 (l0 :: some (.inl v) :: ls) st g μ Q = Wp E 131 60 (l0 :: some (.inl v) :: ls) (.inl v :: st) g μ Q := Wp_nx k131_59 rfl
theorem k131_60 : mCode 131 60 = some (.ireturn, 1) := by decide +kernel
theorem x131_60 {E : ME} {ls : MLs} {g : MG} {μ : MU} {Q : Option MV → MG → MU → Prop} {v : Int} : Wp E 131 60 ls [.inl v] g μ Q = Q (some (.inl v)) g μ := Wp_retI k131_60 (by decide)
theorem k132_0 : mCode 132 0 = some (.aload_n 0, 1) := by decide +kernel
theorem x132_0 {E : ME} {ls : MLs} {st : List MV} {g : MG} {μ : MU} {Q : Option MV → MG → MU → Prop} {v : Nat ⊕ Nat} : Wp E 132 0 (some (.inr (.inr v)) :: ls) st g μ Q = Wp E 132 1 (some (.inr (.inr v)) :: ls) (.inr (.inr v) :: st) g μ Q := Wp_nx k132_0 rfl
theorem k132_1 : mCode 132 1 = some (.invokevirtual 202, 3) := by decide +kernel
theorem x132_1 {E : ME} {ls : MLs} {st : List MV} {g : MG} {μ : MU} {Q : Option MV → MG → MU → Prop} {r : Nat} : Wp E 132 1 ls (.inr (.inr (.inl r)) :: st) g μ Q = ((st.length ≤ 4 ∧ ((mKd g r).1 == 6) = true) ∧ Wp E 131 0 [some (.inr (.inr (.inl r))), none] [] g μ (fun r g' μ' => (g'.1 = g.1 ∧ g'.2.1 = g.2.1) ∧ Wp E 132 4 ls (mPush r st) g' μ' Q)) := Wp_cV k132_1 m6_202 (by decide) (as := [.inr (.inr (.inl r))]) rfl rfl rfl ⟨Nat.le_of_ble_eq_true rfl, by decide⟩
theorem k132_4 : mCode 132 4 = some (.istore_n 1, 1) := by decide +kernel
theorem x132_4 {E : ME} {ls : MLs} {st : List MV} {g : MG} {μ : MU} {Q : Option MV → MG → MU → Prop} {l0 : Option MV} {lk : Option MV} {v : Int} : Wp E 132 4 (l0 :: lk :: ls) (.inl v :: st) g μ Q = ((mNl (some l0) = true ∧ mNl (some lk) = true) ∧ Wp E 132 5 (l0 :: some (.inl v) :: ls) st g μ Q) := Wp_sti k132_4 (fun _ => rfl) rfl rfl rfl
theorem k132_5 : mCode 132 5 = some (.iconst 1, 1) := by decide +kernel
theorem x132_5 {E : ME} {ls : MLs} {st : List MV} {g : MG} {μ : MU} {Q : Option MV → MG → MU → Prop} : Wp E 132 5 ls st g μ Q = Wp E 132 6 ls (.inl 1 :: st) g μ Q := Wp_nx k132_5 rfl
theorem k132_6 : mCode 132 6 = some (.istore_n 2, 1) := by decide +kernel
theorem x132_6 {E : ME} {ls : MLs} {st : List MV} {g : MG} {μ : MU} {Q : Option MV → MG → MU → Prop} {l0 l1 : Option MV} {lk : Option MV} {v : Int} : Wp E 132 6 (l0 :: l1 :: lk :: ls) (.inl v :: st) g μ Q = ((mNl (some l1) = true ∧ mNl (some lk) = true) ∧ Wp E 132 7 (l0 :: l1 :: some (.inl v) :: ls) st g μ Q) := Wp_sti k132_6 (fun _ => rfl) rfl rfl rfl
theorem k132_7 : mCode 132 7 = some (.iload_n 2, 1) := by decide +kernel
theorem x132_7 {E : ME} {ls : MLs} {st : List MV} {g : MG} {μ : MU} {Q : Option MV → MG → MU → Prop} {l0 l1 : Option MV} {v : Int} : Wp E 132 7 (l0 :: l1 :: some (.inl v) :: ls) st g μ Q = Wp E 132 8 (l0 :: l1 :: some (.inl v) :: ls) (.inl v :: st) g μ Q := Wp_nx k132_7 rfl
theorem k132_8 : mCode 132 8 = some (.iconst 4, 1) := by decide +kernel
theorem x132_8 {E : ME} {ls : MLs} {st : List MV} {g : MG} {μ : MU} {Q : Option MV → MG → MU → Prop} : Wp E 132 8 ls st g μ Q = Wp E 132 9 ls (.inl 4 :: st) g μ Q := Wp_nx k132_8 rfl
theorem k132_9 : mCode 132 9 = some (.if_icmp .ge 57, 3) := by decide +kernel
theorem x132_9 {E : ME} {ls : MLs} {st : List MV} {g : MG} {μ : MU} {Q : Option MV → MG → MU → Prop} {a b : Int} : Wp E 132 9 ls (.inl b :: .inl a :: st) g μ Q = ((b ≤ a → Wp E 132 66 ls st g μ Q) ∧ (a < b → Wp E 132 12 ls st g μ Q)) := Wp_cmp_ge k132_9 (by decide)
theorem k132_12 : mCode 132 12 = some (.aload_n 0, 1) := by decide +kernel
theorem x132_12 {E : ME} {ls : MLs} {st : List MV} {g : MG} {μ : MU} {Q : Option MV → MG → MU → Prop} {v : Nat ⊕ Nat} : Wp E 132 12 (some (.inr (.inr v)) :: ls) st g μ Q = Wp E 132 13 (some (.inr (.inr v)) :: ls) (.inr (.inr v) :: st) g μ Q := Wp_nx k132_12 rfl
theorem k132_13 : mCode 132 13 = some (.getfield 195, 3) := by decide +kernel
theorem x132_13 {E : ME} {ls : MLs} {st : List MV} {g : MG} {μ : MU} {Q : Option MV → MG → MU → Prop} {a : Nat} : Wp E 132 13 ls (.inr (.inr (.inl a)) :: st) g μ Q = ((mKd g a).1 = 6 ∧ Wp E 132 16 ls (.inl (μ a 22) :: st) g μ Q) := Wp_getI k132_13 f6_195 (by decide) (by decide)
theorem k132_16 : mCode 132 16 = some (.ifCond .eq 50, 3) := by decide +kernel
theorem x132_16 {E : ME} {ls : MLs} {st : List MV} {g : MG} {μ : MU} {Q : Option MV → MG → MU → Prop} {a : Int} : Wp E 132 16 ls (.inl a :: st) g μ Q = ((a = 0 → Wp E 132 66 ls st g μ Q) ∧ (¬ a = 0 → Wp E 132 19 ls st g μ Q)) := Wp_if_eq k132_16 (by decide)
theorem k132_19 : mCode 132 19 = some (.iload_n 1, 1) := by decide +kernel
theorem x132_19 {E : ME} {ls : MLs} {st : List MV} {g : MG} {μ : MU} {Q : Option MV → MG → MU → Prop} {l0 : Option MV} {v : Int} : Wp E 132 19 (l0 :: some (.inl v) :: ls) st g μ Q = Wp E 132 20 (l0 :: some (.inl v) :: ls) (.inl v :: st) g μ Q := Wp_nx k132_19 rfl
theorem k132_20 : mCode 132 20 = some (.ifCond .le 46, 3) := by decide +kernel
theorem x132_20 {E : ME} {ls : MLs} {st : List MV} {g : MG} {μ : MU} {Q : Option MV → MG → MU → Prop} {a : Int} : Wp E 132 20 ls (.inl a :: st) g μ Q = ((a ≤ 0 → Wp E 132 66 ls st g μ Q) ∧ (0 < a → Wp E 132 23 ls st g μ Q)) := Wp_if_le k132_20 (by decide)
theorem k132_23 : mCode 132 23 = some (.aload_n 0, 1) := by decide +kernel
theorem x132_23 {E : ME} {ls : MLs} {st : List MV} {g : MG} {μ : MU} {Q : Option MV → MG → MU → Prop} {v : Nat ⊕ Nat} : Wp E 132 23 (some (.inr (.inr v)) :: ls) st g μ Q = Wp E 132 24 (some (.inr (.inr v)) :: ls) (.inr (.inr v) :: st) g μ Q := Wp_nx k132_23 rfl
theorem k132_24 : mCode 132 24 = some (.invokevirtual 199, 3) := by decide +kernel
theorem x132_24 {E : ME} {ls : MLs} {st : List MV} {g : MG} {μ : MU} {Q : Option MV → MG → MU → Prop} {r : Nat} : Wp E 132 24 ls (.inr (.inr (.inl r)) :: st) g μ Q = ((st.length ≤ 4 ∧ ((mKd g r).1 == 6) = true) ∧ Wp E 129 0 [some (.inr (.inr (.inl r)))] [] g μ (fun r g' μ' => (g'.1 = g.1 ∧ g'.2.1 = g.2.1) ∧ Wp E 132 27 ls (mPush r st) g' μ' Q)) := Wp_cV k132_24 m6_199 (by decide) (as := [.inr (.inr (.inl r))]) rfl rfl rfl ⟨Nat.le_of_ble_eq_true rfl, by decide⟩
theorem k132_27 : mCode 132 27 = some (.bipush 48, 2) := by decide +kernel
theorem x132_27 {E : ME} {ls : MLs} {st : List MV} {g : MG} {μ : MU} {Q : Option MV → MG → MU → Prop} : Wp E 132 27 ls st g μ Q = Wp E 132 29 ls (.inl 48 :: st) g μ Q := Wp_nx k132_27 rfl
theorem k132_29 : mCode 132 29 = some (.bipush 57, 2) := by decide +kernel
theorem x132_29 {E : ME} {ls : MLs} {st : List MV} {g : MG} {μ : MU} {Q : Option MV → MG → MU → Prop} : Wp E 132 29 ls st g μ Q = Wp E 132 31 ls (.inl 57 :: st) g μ Q := Wp_nx k132_29 rfl
theorem k132_31 : mCode 132 31 = some (.invokestatic 69, 3) := by decide +kernel
theorem x132_31 {E : ME} {ls : MLs} {st : List MV} {g : MG} {μ : MU} {Q : Option MV → MG → MU → Prop} {a0 : Int} {a1 : Int} {a2 : Int} : Wp E 132 31 ls (.inl a2 :: .inl a1 :: .inl a0 :: st) g μ Q = (st.length ≤ 4 ∧ Wp E 77 0 [some (.inl a0), some (.inl a1), some (.inl a2)] [] g μ (fun r g' μ' => (g'.1 = g.1 ∧ g'.2.1 = g.2.1) ∧ Wp E 132 34 ls (mPush r st) g' μ' Q)) := Wp_cS k132_31 m6_69 (by decide) (as := [.inl a0, .inl a1, .inl a2]) rfl rfl rfl ⟨Nat.le_of_ble_eq_true rfl, by decide⟩
theorem k132_34 : mCode 132 34 = some (.ifCond .eq 32, 3) := by decide +kernel
theorem x132_34 {E : ME} {ls : MLs} {st : List MV} {g : MG} {μ : MU} {Q : Option MV → MG → MU → Prop} {a : Int} : Wp E 132 34 ls (.inl a :: st) g μ Q = ((a = 0 → Wp E 132 66 ls st g μ Q) ∧ (¬ a = 0 → Wp E 132 37 ls st g μ Q)) := Wp_if_eq k132_34 (by decide)
theorem k132_37 : mCode 132 37 = some (.bipush 10, 2) := by decide +kernel
theorem x132_37 {E : ME} {ls : MLs} {st : List MV} {g : MG} {μ : MU} {Q : Option MV → MG → MU → Prop} : Wp E 132 37 ls st g μ Q = Wp E 132 39 ls (.inl 10 :: st) g μ Q := Wp_nx k132_37 rfl
theorem k132_39 : mCode 132 39 = some (.iload_n 1, 1) := by decide +kernel
theorem x132_39 {E : ME} {ls : MLs} {st : List MV} {g : MG} {μ : MU} {Q : Option MV → MG → MU → Prop} {l0 : Option MV} {v : Int} : Wp E 132 39 (l0 :: some (.inl v) :: ls) st g μ Q = Wp E 132 40 (l0 :: some (.inl v) :: ls) (.inl v :: st) g μ Q := Wp_nx k132_39 rfl
theorem k132_40 : mCode 132 40 = some (.imul, 1) := by decide +kernel
theorem x132_40 {E : ME} {ls : MLs} {st : List MV} {g : MG} {μ : MU} {Q : Option MV → MG → MU → Prop} {a b : Int} : Wp E 132 40 ls (.inl b :: .inl a :: st) g μ Q = Wp E 132 41 ls (.inl (mWr (a * b)) :: st) g μ Q := Wp_nx k132_40 rfl
theorem k132_41 : mCode 132 41 = some (.aload_n 0, 1) := by decide +kernel
theorem x132_41 {E : ME} {ls : MLs} {st : List MV} {g : MG} {μ : MU} {Q : Option MV → MG → MU → Prop} {v : Nat ⊕ Nat} : Wp E 132 41 (some (.inr (.inr v)) :: ls) st g μ Q = Wp E 132 42 (some (.inr (.inr v)) :: ls) (.inr (.inr v) :: st) g μ Q := Wp_nx k132_41 rfl
theorem k132_42 : mCode 132 42 = some (.invokevirtual 199, 3) := by decide +kernel
theorem x132_42 {E : ME} {ls : MLs} {st : List MV} {g : MG} {μ : MU} {Q : Option MV → MG → MU → Prop} {r : Nat} : Wp E 132 42 ls (.inr (.inr (.inl r)) :: st) g μ Q = ((st.length ≤ 4 ∧ ((mKd g r).1 == 6) = true) ∧ Wp E 129 0 [some (.inr (.inr (.inl r)))] [] g μ (fun r g' μ' => (g'.1 = g.1 ∧ g'.2.1 = g.2.1) ∧ Wp E 132 45 ls (mPush r st) g' μ' Q)) := Wp_cV k132_42 m6_199 (by decide) (as := [.inr (.inr (.inl r))]) rfl rfl rfl ⟨Nat.le_of_ble_eq_true rfl, by decide⟩
theorem k132_45 : mCode 132 45 = some (.iadd, 1) := by decide +kernel
theorem x132_45 {E : ME} {ls : MLs} {st : List MV} {g : MG} {μ : MU} {Q : Option MV → MG → MU → Prop} {a b : Int} : Wp E 132 45 ls (.inl b :: .inl a :: st) g μ Q = Wp E 132 46 ls (.inl (mWr (a + b)) :: st) g μ Q := Wp_nx k132_45 rfl
theorem k132_46 : mCode 132 46 = some (.bipush 48, 2) := by decide +kernel
theorem x132_46 {E : ME} {ls : MLs} {st : List MV} {g : MG} {μ : MU} {Q : Option MV → MG → MU → Prop} : Wp E 132 46 ls st g μ Q = Wp E 132 48 ls (.inl 48 :: st) g μ Q := Wp_nx k132_46 rfl
theorem k132_48 : mCode 132 48 = some (.isub, 1) := by decide +kernel
theorem x132_48 {E : ME} {ls : MLs} {st : List MV} {g : MG} {μ : MU} {Q : Option MV → MG → MU → Prop} {a b : Int} : Wp E 132 48 ls (.inl b :: .inl a :: st) g μ Q = Wp E 132 49 ls (.inl (mWr (a - b)) :: st) g μ Q := Wp_nx k132_48 rfl
theorem k132_49 : mCode 132 49 = some (.istore_n 1, 1) := by decide +kernel
theorem x132_49 {E : ME} {ls : MLs} {st : List MV} {g : MG} {μ : MU} {Q : Option MV → MG → MU → Prop} {l0 : Option MV} {lk : Option MV} {v : Int} : Wp E 132 49 (l0 :: lk :: ls) (.inl v :: st) g μ Q = ((mNl (some l0) = true ∧ mNl (some lk) = true) ∧ Wp E 132 50 (l0 :: some (.inl v) :: ls) st g μ Q) := Wp_sti k132_49 (fun _ => rfl) rfl rfl rfl
theorem k132_50 : mCode 132 50 = some (.aload_n 0, 1) := by decide +kernel
theorem x132_50 {E : ME} {ls : MLs} {st : List MV} {g : MG} {μ : MU} {Q : Option MV → MG → MU → Prop} {v : Nat ⊕ Nat} : Wp E 132 50 (some (.inr (.inr v)) :: ls) st g μ Q = Wp E 132 51 (some (.inr (.inr v)) :: ls) (.inr (.inr v) :: st) g μ Q := Wp_nx k132_50 rfl
theorem k132_51 : mCode 132 51 = some (.dup, 1) := by decide +kernel
theorem x132_51 {E : ME} {ls : MLs} {st : List MV} {g : MG} {μ : MU} {Q : Option MV → MG → MU → Prop} {v : MV} : Wp E 132 51 ls (v :: st) g μ Q = (mC1 v = true ∧ Wp E 132 52 ls (v :: v :: st) g μ Q) := Wp_dup k132_51
theorem k132_52 : mCode 132 52 = some (.getfield 192, 3) := by decide +kernel
theorem x132_52 {E : ME} {ls : MLs} {st : List MV} {g : MG} {μ : MU} {Q : Option MV → MG → MU → Prop} {a : Nat} : Wp E 132 52 ls (.inr (.inr (.inl a)) :: st) g μ Q = ((mKd g a).1 = 6 ∧ Wp E 132 55 ls (.inl (μ a 21) :: st) g μ Q) := Wp_getI k132_52 f6_192 (by decide) (by decide)
theorem k132_55 : mCode 132 55 = some (.iconst 1, 1) := by decide +kernel
theorem x132_55 {E : ME} {ls : MLs} {st : List MV} {g : MG} {μ : MU} {Q : Option MV → MG → MU → Prop} : Wp E 132 55 ls st g μ Q = Wp E 132 56 ls (.inl 1 :: st) g μ Q := Wp_nx k132_55 rfl
theorem k132_56 : mCode 132 56 = some (.iadd, 1) := by decide +kernel
theorem x132_56 {E : ME} {ls : MLs} {st : List MV} {g : MG} {μ : MU} {Q : Option MV → MG → MU → Prop} {a b : Int} : Wp E 132 56 ls (.inl b :: .inl a :: st) g μ Q = Wp E 132 57 ls (.inl (mWr (a + b)) :: st) g μ Q := Wp_nx k132_56 rfl
theorem k132_57 : mCode 132 57 = some (.putfield 192, 3) := by decide +kernel
theorem x132_57 {E : ME} {ls : MLs} {st : List MV} {g : MG} {μ : MU} {Q : Option MV → MG → MU → Prop} {a : Nat} {v : Int} : Wp E 132 57 ls (.inl v :: .inr (.inr (.inl a)) :: st) g μ Q = ((mKd g a).1 = 6 ∧ Wp E 132 60 ls st g (mUp μ a 21 v) Q) := Wp_putI0 k132_57 f6_192 (by decide) (by decide)
theorem k132_60 : mCode 132 60 = some (.iinc 2 1, 3) := by decide +kernel
theorem x132_60 {E : ME} {ls : MLs} {st : List MV} {g : MG} {μ : MU} {Q : Option MV → MG → MU → Prop} {l0 l1 : Option MV} {v : Int} : Wp E 132 60 (l0 :: l1 :: some (.inl v) :: ls) st g μ Q = (mNl (some l1) = true ∧ Wp E 132 63 (l0 :: l1 :: some (.inl (mWr (v + 1))) :: ls) st g μ Q) := Wp_inc k132_60 rfl rfl rfl
theorem k132_63 : mCode 132 63 = some (.goto (-56), 3) := by decide +kernel
theorem x132_63 {E : ME} {ls : MLs} {st : List MV} {g : MG} {μ : MU} {Q : Option MV → MG → MU → Prop} : Wp E 132 63 ls st g μ Q = Wp E 132 7 ls st g μ Q := Wp_goto k132_63 (by decide)
theorem k132_66 : mCode 132 66 = some (.iload_n 1, 1) := by decide +kernel
theorem x132_66 {E : ME} {ls : MLs} {st : List MV} {g : MG} {μ : MU} {Q : Option MV → MG → MU → Prop} {l0 : Option MV} {v : Int} : Wp E 132 66 (l0 :: some (.inl v) :: ls) st g μ Q = Wp E 132 67 (l0 :: some (.inl v) :: ls) (.inl v :: st) g μ Q := Wp_nx k132_66 rfl
theorem k132_67 : mCode 132 67 = some (.ireturn, 1) := by decide +kernel
theorem x132_67 {E : ME} {ls : MLs} {g : MG} {μ : MU} {Q : Option MV → MG → MU → Prop} {v : Int} : Wp E 132 67 ls [.inl v] g μ Q = Q (some (.inl v)) g μ := Wp_retI k132_67 (by decide)
theorem k133_0 : mCode 133 0 = some (.iconst 5, 1) := by decide +kernel
theorem x133_0 {E : ME} {ls : MLs} {st : List MV} {g : MG} {μ : MU} {Q : Option MV → MG → MU → Prop} : Wp E 133 0 ls st g μ Q = Wp E 133 1 ls (.inl 5 :: st) g μ Q := Wp_nx k133_0 rfl
theorem k133_1 : mCode 133 1 = some (.aload_n 0, 1) := by decide +kernel
theorem x133_1 {E : ME} {ls : MLs} {st : List MV} {g : MG} {μ : MU} {Q : Option MV → MG → MU → Prop} {v : Nat ⊕ Nat} : Wp E 133 1 (some (.inr (.inr v)) :: ls) st g μ Q = Wp E 133 2 (some (.inr (.inr v)) :: ls) (.inr (.inr v) :: st) g μ Q := Wp_nx k133_1 rfl
theorem k133_2 : mCode 133 2 = some (.getfield 205, 3) := by decide +kernel
theorem x133_2 {E : ME} {ls : MLs} {st : List MV} {g : MG} {μ : MU} {Q : Option MV → MG → MU → Prop} {a : Nat} : Wp E 133 2 ls (.inr (.inr (.inl a)) :: st) g μ Q = ((mKd g a).1 = 6 ∧ Wp E 133 5 ls (.inl (μ a 24) :: st) g μ Q) := Wp_getI k133_2 f6_205 (by decide) (by decide)
theorem k133_5 : mCode 133 5 = some (.imul, 1) := by decide +kernel
theorem x133_5 {E : ME} {ls : MLs} {st : List MV} {g : MG} {μ : MU} {Q : Option MV → MG → MU → Prop} {a b : Int} : Wp E 133 5 ls (.inl b :: .inl a :: st) g μ Q = Wp E 133 6 ls (.inl (mWr (a * b)) :: st) g μ Q := Wp_nx k133_5 rfl
theorem k133_6 : mCode 133 6 = some (.istore_n 1, 1) := by decide +kernel
theorem x133_6 {E : ME} {ls : MLs} {st : List MV} {g : MG} {μ : MU} {Q : Option MV → MG → MU → Prop} {l0 : Option MV} {lk : Option MV} {v : Int} : Wp E 133 6 (l0 :: lk :: ls) (.inl v :: st) g μ Q = ((mNl (some l0) = true ∧ mNl (some lk) = true) ∧ Wp E 133 7 (l0 :: some (.inl v) :: ls) st g μ Q) := Wp_sti k133_6 (fun _ => rfl) rfl rfl rfl
theorem k133_7 : mCode 133 7 = some (.aload_n 0, 1) := by decide +kernel
theorem x133_7 {E : ME} {ls : MLs} {st : List MV} {g : MG} {μ : MU} {Q : Option MV → MG → MU → Prop} {v : Nat ⊕ Nat} : Wp E 133 7 (some (.inr (.inr v)) :: ls) st g μ Q = Wp E 133 8 (some (.inr (.inr v)) :: ls) (.inr (.inr v) :: st) g μ Q := Wp_nx k133_7 rfl
theorem k133_8 : mCode 133 8 = some (.invokevirtual 199, 3) := by decide +kernel
theorem x133_8 {E : ME} {ls : MLs} {st : List MV} {g : MG} {μ : MU} {Q : Option MV → MG → MU → Prop} {r : Nat} : Wp E 133 8 ls (.inr (.inr (.inl r)) :: st) g μ Q = ((st.length ≤ 4 ∧ ((mKd g r).1 == 6) = true) ∧ Wp E 129 0 [some (.inr (.inr (.inl r)))] [] g μ (fun r g' μ' => (g'.1 = g.1 ∧ g'.2.1 = g.2.1) ∧ Wp E 133 11 ls (mPush r st) g' μ' Q)) := Wp_cV k133_8 m6_199 (by decide) (as := [.inr (.inr (.inl r))]) rfl rfl rfl ⟨Nat.le_of_ble_eq_true rfl, by decide⟩
theorem k133_11 : mCode 133 11 = some (.istore_n 2, 1) := by decide +kernel
theorem x133_11 {E : ME} {ls : MLs} {st : List MV} {g : MG} {μ : MU} {Q : Option MV → MG → MU → Prop} {l0 l1 : Option MV} {lk : Option MV} {v : Int} : Wp E 133 11 (l0 :: l1 :: lk :: ls) (.inl v :: st) g μ Q = ((mNl (some l1) = true ∧ mNl (some lk) = true) ∧ Wp E 133 12 (l0 :: l1 :: some (.inl v) :: ls) st g μ Q) := Wp_sti k133_11 (fun _ => rfl) rfl rfl rfl
theorem k133_12 : mCode 133 12 = some (.iload_n 2, 1) := by decide +kernel
theorem x133_12 {E : ME} {ls : MLs} {st : List MV} {g : MG} {μ : MU} {Q : Option MV → MG → MU → Prop} {l0 l1 : Option MV} {v : Int} : Wp E 133 12 (l0 :: l1 :: some (.inl v) :: ls) st g μ Q = Wp E 133 13 (l0 :: l1 :: some (.inl v) :: ls) (.inl v :: st) g μ Q := Wp_nx k133_12 rfl
theorem k133_13 : mCode 133 13 = some (.bipush 102, 2) := by decide +kernel
theorem x133_13 {E : ME} {ls : MLs} {st : List MV} {g : MG} {μ : MU} {Q : Option MV → MG → MU → Prop} : Wp E 133 13 ls st g μ Q = Wp E 133 15 ls (.inl 102 :: st) g μ Q := Wp_nx k133_13 rfl
theorem k133_15 : mCode 133 15 = some (.if_icmp .eq 27, 3) := by decide +kernel
theorem x133_15 {E : ME} {ls : MLs} {st : List MV} {g : MG} {μ : MU} {Q : Option MV → MG → MU → Prop} {a b : Int} : Wp E 133 15 ls (.inl b :: .inl a :: st) g μ Q = ((a = b → Wp E 133 42 ls st g μ Q) ∧ (¬ a = b → Wp E 133 18 ls st g μ Q)) := Wp_cmp_eq k133_15 (by decide)
theorem k133_18 : mCode 133 18 = some (.iload_n 2, 1) := by decide +kernel
theorem x133_18 {E : ME} {ls : MLs} {st : List MV} {g : MG} {μ : MU} {Q : Option MV → MG → MU → Prop} {l0 l1 : Option MV} {v : Int} : Wp E 133 18 (l0 :: l1 :: some (.inl v) :: ls) st g μ Q = Wp E 133 19 (l0 :: l1 :: some (.inl v) :: ls) (.inl v :: st) g μ Q := Wp_nx k133_18 rfl
theorem k133_19 : mCode 133 19 = some (.bipush 115, 2) := by decide +kernel
theorem x133_19 {E : ME} {ls : MLs} {st : List MV} {g : MG} {μ : MU} {Q : Option MV → MG → MU → Prop} : Wp E 133 19 ls st g μ Q = Wp E 133 21 ls (.inl 115 :: st) g μ Q := Wp_nx k133_19 rfl
theorem k133_21 : mCode 133 21 = some (.if_icmp .eq 21, 3) := by decide +kernel
theorem x133_21 {E : ME} {ls : MLs} {st : List MV} {g : MG} {μ : MU} {Q : Option MV → MG → MU → Prop} {a b : Int} : Wp E 133 21 ls (.inl b :: .inl a :: st) g μ Q = ((a = b → Wp E 133 42 ls st g μ Q) ∧ (¬ a = b → Wp E 133 24 ls st g μ Q)) := Wp_cmp_eq k133_21 (by decide)
theorem k133_24 : mCode 133 24 = some (.iload_n 2, 1) := by decide +kernel
theorem x133_24 {E : ME} {ls : MLs} {st : List MV} {g : MG} {μ : MU} {Q : Option MV → MG → MU → Prop} {l0 l1 : Option MV} {v : Int} : Wp E 133 24 (l0 :: l1 :: some (.inl v) :: ls) st g μ Q = Wp E 133 25 (l0 :: l1 :: some (.inl v) :: ls) (.inl v :: st) g μ Q := Wp_nx k133_24 rfl
theorem k133_25 : mCode 133 25 = some (.bipush 119, 2) := by decide +kernel
theorem x133_25 {E : ME} {ls : MLs} {st : List MV} {g : MG} {μ : MU} {Q : Option MV → MG → MU → Prop} : Wp E 133 25 ls st g μ Q = Wp E 133 27 ls (.inl 119 :: st) g μ Q := Wp_nx k133_25 rfl
theorem k133_27 : mCode 133 27 = some (.if_icmp .eq 15, 3) := by decide +kernel
theorem x133_27 {E : ME} {ls : MLs} {st : List MV} {g : MG} {μ : MU} {Q : Option MV → MG → MU → Prop} {a b : Int} : Wp E 133 27 ls (.inl b :: .inl a :: st) g μ Q = ((a = b → Wp E 133 42 ls st g μ Q) ∧ (¬ a = b → Wp E 133 30 ls st g μ Q)) := Wp_cmp_eq k133_27 (by decide)
theorem k133_30 : mCode 133 30 = some (.iload_n 2, 1) := by decide +kernel
theorem x133_30 {E : ME} {ls : MLs} {st : List MV} {g : MG} {μ : MU} {Q : Option MV → MG → MU → Prop} {l0 l1 : Option MV} {v : Int} : Wp E 133 30 (l0 :: l1 :: some (.inl v) :: ls) st g μ Q = Wp E 133 31 (l0 :: l1 :: some (.inl v) :: ls) (.inl v :: st) g μ Q := Wp_nx k133_30 rfl
theorem k133_31 : mCode 133 31 = some (.bipush 116, 2) := by decide +kernel
theorem x133_31 {E : ME} {ls : MLs} {st : List MV} {g : MG} {μ : MU} {Q : Option MV → MG → MU → Prop} : Wp E 133 31 ls st g μ Q = Wp E 133 33 ls (.inl 116 :: st) g μ Q := Wp_nx k133_31 rfl
theorem k133_33 : mCode 133 33 = some (.if_icmp .eq 9, 3) := by decide +kernel
theorem x133_33 {E : ME} {ls : MLs} {st : List MV} {g : MG} {μ : MU} {Q : Option MV → MG → MU → Prop} {a b : Int} : Wp E 133 33 ls (.inl b :: .inl a :: st) g μ Q = ((a = b → Wp E 133 42 ls st g μ Q) ∧ (¬ a = b → Wp E 133 36 ls st g μ Q)) := Wp_cmp_eq k133_33 (by decide)
theorem k133_36 : mCode 133 36 = some (.iload_n 2, 1) := by decide +kernel
theorem x133_36 {E : ME} {ls : MLs} {st : List MV} {g : MG} {μ : MU} {Q : Option MV → MG → MU → Prop} {l0 l1 : Option MV} {v : Int} : Wp E 133 36 (l0 :: l1 :: some (.inl v) :: ls) st g μ Q = Wp E 133 37 (l0 :: l1 :: some (.inl v) :: ls) (.inl v :: st) g μ Q := Wp_nx k133_36 rfl
theorem k133_37 : mCode 133 37 = some (.bipush 45, 2) := by decide +kernel
theorem x133_37 {E : ME} {ls : MLs} {st : List MV} {g : MG} {μ : MU} {Q : Option MV → MG → MU → Prop} : Wp E 133 37 ls st g μ Q = Wp E 133 39 ls (.inl 45 :: st) g μ Q := Wp_nx k133_37 rfl
theorem k133_39 : mCode 133 39 = some (.if_icmp .ne 7, 3) := by decide +kernel
theorem x133_39 {E : ME} {ls : MLs} {st : List MV} {g : MG} {μ : MU} {Q : Option MV → MG → MU → Prop} {a b : Int} : Wp E 133 39 ls (.inl b :: .inl a :: st) g μ Q = ((¬ a = b → Wp E 133 46 ls st g μ Q) ∧ (a = b → Wp E 133 42 ls st g μ Q)) := Wp_cmp_ne k133_39 (by decide)
theorem k133_42 : mCode 133 42 = some (.iconst 1, 1) := by decide +kernel
theorem x133_42 {E : ME} {ls : MLs} {st : List MV} {g : MG} {μ : MU} {Q : Option MV → MG → MU → Prop} : Wp E 133 42 ls st g μ Q = Wp E 133 43 ls (.inl 1 :: st) g μ Q := Wp_nx k133_42 rfl
theorem k133_43 : mCode 133 43 = some (.goto 4, 3) := by decide +kernel
theorem x133_43 {E : ME} {ls : MLs} {st : List MV} {g : MG} {μ : MU} {Q : Option MV → MG → MU → Prop} : Wp E 133 43 ls st g μ Q = Wp E 133 47 ls st g μ Q := Wp_goto k133_43 (by decide)
theorem k133_46 : mCode 133 46 = some (.iconst 0, 1) := by decide +kernel
theorem x133_46 {E : ME} {ls : MLs} {st : List MV} {g : MG} {μ : MU} {Q : Option MV → MG → MU → Prop} : Wp E 133 46 ls st g μ Q = Wp E 133 47 ls (.inl 0 :: st) g μ Q := Wp_nx k133_46 rfl
theorem k133_47 : mCode 133 47 = some (.istore_n 3, 1) := by decide +kernel
theorem x133_47 {E : ME} {ls : MLs} {st : List MV} {g : MG} {μ : MU} {Q : Option MV → MG → MU → Prop} {l0 l1 l2 : Option MV} {lk : Option MV} {v : Int} : Wp E 133 47 (l0 :: l1 :: l2 :: lk :: ls) (.inl v :: st) g μ Q = ((mNl (some l2) = true ∧ mNl (some lk) = true) ∧ Wp E 133 48 (l0 :: l1 :: l2 :: some (.inl v) :: ls) st g μ Q) := Wp_sti k133_47 (fun _ => rfl) rfl rfl rfl
theorem k133_48 : mCode 133 48 = some (.aload_n 0, 1) := by decide +kernel
theorem x133_48 {E : ME} {ls : MLs} {st : List MV} {g : MG} {μ : MU} {Q : Option MV → MG → MU → Prop} {v : Nat ⊕ Nat} : Wp E 133 48 (some (.inr (.inr v)) :: ls) st g μ Q = Wp E 133 49 (some (.inr (.inr v)) :: ls) (.inr (.inr v) :: st) g μ Q := Wp_nx k133_48 rfl
theorem k133_49 : mCode 133 49 = some (.aload_n 0, 1) := by decide +kernel
theorem x133_49 {E : ME} {ls : MLs} {st : List MV} {g : MG} {μ : MU} {Q : Option MV → MG → MU → Prop} {v : Nat ⊕ Nat} : Wp E 133 49 (some (.inr (.inr v)) :: ls) st g μ Q = Wp E 133 50 (some (.inr (.inr v)) :: ls) (.inr (.inr v) :: st) g μ Q := Wp_nx k133_49 rfl
theorem k133_50 : mCode 133 50 = some (.getfield 195, 3) := by decide +kernel
theorem x133_50 {E : ME} {ls : MLs} {st : List MV} {g : MG} {μ : MU} {Q : Option MV → MG → MU → Prop} {a : Nat} : Wp E 133 50 ls (.inr (.inr (.inl a)) :: st) g μ Q = ((mKd g a).1 = 6 ∧ Wp E 133 53 ls (.inl (μ a 22) :: st) g μ Q) := Wp_getI k133_50 f6_195 (by decide) (by decide)
theorem k133_53 : mCode 133 53 = some (.ifCond .eq 11, 3) := by decide +kernel
theorem x133_53 {E : ME} {ls : MLs} {st : List MV} {g : MG} {μ : MU} {Q : Option MV → MG → MU → Prop} {a : Int} : Wp E 133 53 ls (.inl a :: st) g μ Q = ((a = 0 → Wp E 133 64 ls st g μ Q) ∧ (¬ a = 0 → Wp E 133 56 ls st g μ Q)) := Wp_if_eq k133_53 (by decide)
theorem k133_56 : mCode 133 56 = some (.iload_n 3, 1) := by decide +kernel
theorem x133_56 {E : ME} {ls : MLs} {st : List MV} {g : MG} {μ : MU} {Q : Option MV → MG → MU → Prop} {l0 l1 l2 : Option MV} {v : Int} : Wp E 133 56 (l0 :: l1 :: l2 :: some (.inl v) :: ls) st g μ Q = Wp E 133 57 (l0 :: l1 :: l2 :: some (.inl v) :: ls) (.inl v :: st) g μ Q := Wp_nx k133_56 rfl
theorem k133_57 : mCode 133 57 = some (.ifCond .eq 7, 3) := by decide +kernel
theorem x133_57 {E : ME} {ls : MLs} {st : List MV} {g : MG} {μ : MU} {Q : Option MV → MG → MU → Prop} {a : Int} : Wp E 133 57 ls (.inl a :: st) g μ Q = ((a = 0 → Wp E 133 64 ls st g μ Q) ∧ (¬ a = 0 → Wp E 133 60 ls st g μ Q)) := Wp_if_eq k133_57 (by decide)
theorem k133_60 : mCode 133 60 = some (.iconst 1, 1) := by decide +kernel
theorem x133_60 {E : ME} {ls : MLs} {st : List MV} {g : MG} {μ : MU} {Q : Option MV → MG → MU → Prop} : Wp E 133 60 ls st g μ Q = Wp E 133 61 ls (.inl 1 :: st) g μ Q := Wp_nx k133_60 rfl
theorem k133_61 : mCode 133 61 = some (.goto 4, 3) := by decide +kernel
theorem x133_61 {E : ME} {ls : MLs} {st : List MV} {g : MG} {μ : MU} {Q : Option MV → MG → MU → Prop} : Wp E 133 61 ls st g μ Q = Wp E 133 65 ls st g μ Q := Wp_goto k133_61 (by decide)
theorem k133_64 : mCode 133 64 = some (.iconst 0, 1) := by decide +kernel
theorem x133_64 {E : ME} {ls : MLs} {st : List MV} {g : MG} {μ : MU} {Q : Option MV → MG → MU → Prop} : Wp E 133 64 ls st g μ Q = Wp E 133 65 ls (.inl 0 :: st) g μ Q := Wp_nx k133_64 rfl
theorem k133_65 : mCode 133 65 = some (.putfield 195, 3) := by decide +kernel
theorem x133_65 {E : ME} {ls : MLs} {st : List MV} {g : MG} {μ : MU} {Q : Option MV → MG → MU → Prop} {a : Nat} {v : Int} : Wp E 133 65 ls (.inl v :: .inr (.inr (.inl a)) :: st) g μ Q = (((mKd g a).1 = 6 ∧ mOk 2 v = true) ∧ Wp E 133 68 ls st g (mUp μ a 22 v) Q) := Wp_putI k133_65 f6_195 (by decide) (by decide)
theorem k133_68 : mCode 133 68 = some (.aload_n 0, 1) := by decide +kernel
theorem x133_68 {E : ME} {ls : MLs} {st : List MV} {g : MG} {μ : MU} {Q : Option MV → MG → MU → Prop} {v : Nat ⊕ Nat} : Wp E 133 68 (some (.inr (.inr v)) :: ls) st g μ Q = Wp E 133 69 (some (.inr (.inr v)) :: ls) (.inr (.inr v) :: st) g μ Q := Wp_nx k133_68 rfl
theorem k133_69 : mCode 133 69 = some (.dup, 1) := by decide +kernel
theorem x133_69 {E : ME} {ls : MLs} {st : List MV} {g : MG} {μ : MU} {Q : Option MV → MG → MU → Prop} {v : MV} : Wp E 133 69 ls (v :: st) g μ Q = (mC1 v = true ∧ Wp E 133 70 ls (v :: v :: st) g μ Q) := Wp_dup k133_69
theorem k133_70 : mCode 133 70 = some (.getfield 192, 3) := by decide +kernel
theorem x133_70 {E : ME} {ls : MLs} {st : List MV} {g : MG} {μ : MU} {Q : Option MV → MG → MU → Prop} {a : Nat} : Wp E 133 70 ls (.inr (.inr (.inl a)) :: st) g μ Q = ((mKd g a).1 = 6 ∧ Wp E 133 73 ls (.inl (μ a 21) :: st) g μ Q) := Wp_getI k133_70 f6_192 (by decide) (by decide)
theorem k133_73 : mCode 133 73 = some (.aload_n 0, 1) := by decide +kernel
theorem x133_73 {E : ME} {ls : MLs} {st : List MV} {g : MG} {μ : MU} {Q : Option MV → MG → MU → Prop} {v : Nat ⊕ Nat} : Wp E 133 73 (some (.inr (.inr v)) :: ls) st g μ Q = Wp E 133 74 (some (.inr (.inr v)) :: ls) (.inr (.inr v) :: st) g μ Q := Wp_nx k133_73 rfl
theorem k133_74 : mCode 133 74 = some (.getfield 195, 3) := by decide +kernel
theorem x133_74 {E : ME} {ls : MLs} {st : List MV} {g : MG} {μ : MU} {Q : Option MV → MG → MU → Prop} {a : Nat} : Wp E 133 74 ls (.inr (.inr (.inl a)) :: st) g μ Q = ((mKd g a).1 = 6 ∧ Wp E 133 77 ls (.inl (μ a 22) :: st) g μ Q) := Wp_getI k133_74 f6_195 (by decide) (by decide)
theorem k133_77 : mCode 133 77 = some (.ifCond .eq 7, 3) := by decide +kernel
theorem x133_77 {E : ME} {ls : MLs} {st : List MV} {g : MG} {μ : MU} {Q : Option MV → MG → MU → Prop} {a : Int} : Wp E 133 77 ls (.inl a :: st) g μ Q = ((a = 0 → Wp E 133 84 ls st g μ Q) ∧ (¬ a = 0 → Wp E 133 80 ls st g μ Q)) := Wp_if_eq k133_77 (by decide)
theorem k133_80 : mCode 133 80 = some (.iconst 1, 1) := by decide +kernel
theorem x133_80 {E : ME} {ls : MLs} {st : List MV} {g : MG} {μ : MU} {Q : Option MV → MG → MU → Prop} : Wp E 133 80 ls st g μ Q = Wp E 133 81 ls (.inl 1 :: st) g μ Q := Wp_nx k133_80 rfl
theorem k133_81 : mCode 133 81 = some (.goto 4, 3) := by decide +kernel
theorem x133_81 {E : ME} {ls : MLs} {st : List MV} {g : MG} {μ : MU} {Q : Option MV → MG → MU → Prop} : Wp E 133 81 ls st g μ Q = Wp E 133 85 ls st g μ Q := Wp_goto k133_81 (by decide)
theorem k133_84 : mCode 133 84 = some (.iconst 0, 1) := by decide +kernel
theorem x133_84 {E : ME} {ls : MLs} {st : List MV} {g : MG} {μ : MU} {Q : Option MV → MG → MU → Prop} : Wp E 133 84 ls st g μ Q = Wp E 133 85 ls (.inl 0 :: st) g μ Q := Wp_nx k133_84 rfl
theorem k133_85 : mCode 133 85 = some (.iadd, 1) := by decide +kernel
theorem x133_85 {E : ME} {ls : MLs} {st : List MV} {g : MG} {μ : MU} {Q : Option MV → MG → MU → Prop} {a b : Int} : Wp E 133 85 ls (.inl b :: .inl a :: st) g μ Q = Wp E 133 86 ls (.inl (mWr (a + b)) :: st) g μ Q := Wp_nx k133_85 rfl
theorem k133_86 : mCode 133 86 = some (.putfield 192, 3) := by decide +kernel
theorem x133_86 {E : ME} {ls : MLs} {st : List MV} {g : MG} {μ : MU} {Q : Option MV → MG → MU → Prop} {a : Nat} {v : Int} : Wp E 133 86 ls (.inl v :: .inr (.inr (.inl a)) :: st) g μ Q = ((mKd g a).1 = 6 ∧ Wp E 133 89 ls st g (mUp μ a 21 v) Q) := Wp_putI0 k133_86 f6_192 (by decide) (by decide)
theorem k133_89 : mCode 133 89 = some (.aload_n 0, 1) := by decide +kernel
theorem x133_89 {E : ME} {ls : MLs} {st : List MV} {g : MG} {μ : MU} {Q : Option MV → MG → MU → Prop} {v : Nat ⊕ Nat} : Wp E 133 89 (some (.inr (.inr v)) :: ls) st g μ Q = Wp E 133 90 (some (.inr (.inr v)) :: ls) (.inr (.inr v) :: st) g μ Q := Wp_nx k133_89 rfl
theorem k133_90 : mCode 133 90 = some (.getfield 62, 3) := by decide +kernel
theorem x133_90 {E : ME} {ls : MLs} {st : List MV} {g : MG} {μ : MU} {Q : Option MV → MG → MU → Prop} {a : Nat} : Wp E 133 90 ls (.inr (.inr (.inl a)) :: st) g μ Q = ((mKd g a).1 = 6 ∧ Wp E 133 93 ls (mRv (mRf g a 23) :: st) g μ Q) := Wp_getR k133_90 f6_62 (by decide) (by decide)
theorem k133_93 : mCode 133 93 = some (.iload_n 1, 1) := by decide +kernel
theorem x133_93 {E : ME} {ls : MLs} {st : List MV} {g : MG} {μ : MU} {Q : Option MV → MG → MU → Prop} {l0 : Option MV} {v : Int} : Wp E 133 93 (l0 :: some (.inl v) :: ls) st g μ Q = Wp E 133 94 (l0 :: some (.inl v) :: ls) (.inl v :: st) g μ Q := Wp_nx k133_93 rfl
theorem k133_94 : mCode 133 94 = some (.iload_n 2, 1) := by decide +kernel
theorem x133_94 {E : ME} {ls : MLs} {st : List MV} {g : MG} {μ : MU} {Q : Option MV → MG → MU → Prop} {l0 l1 : Option MV} {v : Int} : Wp E 133 94 (l0 :: l1 :: some (.inl v) :: ls) st g μ Q = Wp E 133 95 (l0 :: l1 :: some (.inl v) :: ls) (.inl v :: st) g μ Q := Wp_nx k133_94 rfl
theorem k133_95 : mCode 133 95 = some (.iastore, 1) := by decide +kernel
theorem x133_95 {E : ME} {ls : MLs} {st : List MV} {g : MG} {μ : MU} {Q : Option MV → MG → MU → Prop} {a : Nat} {j v : Int} : Wp E 133 95 ls (.inl v :: .inl j :: .inr (.inr (.inl a)) :: st) g μ Q = (((mKd g a).1 = 10 ∧ 0 ≤ j ∧ j < (mKd g a).2) ∧ Wp E 133 96 ls st g (mUp μ a j.toNat v) Q) := Wp_iast k133_95
theorem k133_96 : mCode 133 96 = some (.iload_n 2, 1) := by decide +kernel
theorem x133_96 {E : ME} {ls : MLs} {st : List MV} {g : MG} {μ : MU} {Q : Option MV → MG → MU → Prop} {l0 l1 : Option MV} {v : Int} : Wp E 133 96 (l0 :: l1 :: some (.inl v) :: ls) st g μ Q = Wp E 133 97 (l0 :: l1 :: some (.inl v) :: ls) (.inl v :: st) g μ Q := Wp_nx k133_96 rfl
theorem k133_97 : mCode 133 97 = some (.bipush 45, 2) := by decide +kernel
theorem x133_97 {E : ME} {ls : MLs} {st : List MV} {g : MG} {μ : MU} {Q : Option MV → MG → MU → Prop} : Wp E 133 97 ls st g μ Q = Wp E 133 99 ls (.inl 45 :: st) g μ Q := Wp_nx k133_97 rfl
theorem k133_99 : mCode 133 99 = some (.if_icmp .ne 18, 3) := by decide +kernel
theorem x133_99 {E : ME} {ls : MLs} {st : List MV} {g : MG} {μ : MU} {Q : Option MV → MG → MU → Prop} {a b : Int} : Wp E 133 99 ls (.inl b :: .inl a :: st) g μ Q = ((¬ a = b → Wp E 133 117 ls st g μ Q) ∧ (a = b → Wp E 133 102 ls st g μ Q)) := Wp_cmp_ne k133_99 (by decide)
theorem k133_102 : mCode 133 102 = some (.aload_n 0, 1) := by decide +kernel
theorem x133_102 {E : ME} {ls : MLs} {st : List MV} {g : MG} {μ : MU} {Q : Option MV → MG → MU → Prop} {v : Nat ⊕ Nat} : Wp E 133 102 (some (.inr (.inr v)) :: ls) st g μ Q = Wp E 133 103 (some (.inr (.inr v)) :: ls) (.inr (.inr v) :: st) g μ Q := Wp_nx k133_102 rfl
theorem k133_103 : mCode 133 103 = some (.getfield 62, 3) := by decide +kernel
theorem x133_103 {E : ME} {ls : MLs} {st : List MV} {g : MG} {μ : MU} {Q : Option MV → MG → MU → Prop} {a : Nat} : Wp E 133 103 ls (.inr (.inr (.inl a)) :: st) g μ Q = ((mKd g a).1 = 6 ∧ Wp E 133 106 ls (mRv (mRf g a 23) :: st) g μ Q) := Wp_getR k133_103 f6_62 (by decide) (by decide)
theorem k133_106 : mCode 133 106 = some (.iload_n 1, 1) := by decide +kernel
theorem x133_106 {E : ME} {ls : MLs} {st : List MV} {g : MG} {μ : MU} {Q : Option MV → MG → MU → Prop} {l0 : Option MV} {v : Int} : Wp E 133 106 (l0 :: some (.inl v) :: ls) st g μ Q = Wp E 133 107 (l0 :: some (.inl v) :: ls) (.inl v :: st) g μ Q := Wp_nx k133_106 rfl
theorem k133_107 : mCode 133 107 = some (.iconst 1, 1) := by decide +kernel
theorem x133_107 {E : ME} {ls : MLs} {st : List MV} {g : MG} {μ : MU} {Q : Option MV → MG → MU → Prop} : Wp E 133 107 ls st g μ Q = Wp E 133 108 ls (.inl 1 :: st) g μ Q := Wp_nx k133_107 rfl
theorem k133_108 : mCode 133 108 = some (.iadd, 1) := by decide +kernel
theorem x133_108 {E : ME} {ls : MLs} {st : List MV} {g : MG} {μ : MU} {Q : Option MV → MG → MU → Prop} {a b : Int} : Wp E 133 108 ls (.inl b :: .inl a :: st) g μ Q = Wp E 133 109 ls (.inl (mWr (a + b)) :: st) g μ Q := Wp_nx k133_108 rfl
theorem k133_109 : mCode 133 109 = some (.aload_n 0, 1) := by decide +kernel
theorem x133_109 {E : ME} {ls : MLs} {st : List MV} {g : MG} {μ : MU} {Q : Option MV → MG → MU → Prop} {v : Nat ⊕ Nat} : Wp E 133 109 (some (.inr (.inr v)) :: ls) st g μ Q = Wp E 133 110 (some (.inr (.inr v)) :: ls) (.inr (.inr v) :: st) g μ Q := Wp_nx k133_109 rfl
theorem k133_110 : mCode 133 110 = some (.invokevirtual 208, 3) := by decide +kernel
theorem x133_110 {E : ME} {ls : MLs} {st : List MV} {g : MG} {μ : MU} {Q : Option MV → MG → MU → Prop} {r : Nat} : Wp E 133 110 ls (.inr (.inr (.inl r)) :: st) g μ Q = ((st.length ≤ 4 ∧ ((mKd g r).1 == 6) = true) ∧ Wp E 132 0 [some (.inr (.inr (.inl r))), none, none] [] g μ (fun r g' μ' => (g'.1 = g.1 ∧ g'.2.1 = g.2.1) ∧ Wp E 133 113 ls (mPush r st) g' μ' Q)) := Wp_cV k133_110 m6_208 (by decide) (as := [.inr (.inr (.inl r))]) rfl rfl rfl ⟨Nat.le_of_ble_eq_true rfl, by decide⟩
theorem k133_113 : mCode 133 113 = some (.iastore, 1) := by decide +kernel
theorem x133_113 {E : ME} {ls : MLs} {st : List MV} {g : MG} {μ : MU} {Q : Option MV → MG → MU → Prop} {a : Nat} {j v : Int} : Wp E 133 113 ls (.inl v :: .inl j :: .inr (.inr (.inl a)) :: st) g μ Q = (((mKd g a).1 = 10 ∧ 0 ≤ j ∧ j < (mKd g a).2) ∧ Wp E 133 114 ls st g (mUp μ a j.toNat v) Q) := Wp_iast k133_113
theorem k133_114 : mCode 133 114 = some (.goto 90, 3) := by decide +kernel
theorem x133_114 {E : ME} {ls : MLs} {st : List MV} {g : MG} {μ : MU} {Q : Option MV → MG → MU → Prop} : Wp E 133 114 ls st g μ Q = Wp E 133 204 ls st g μ Q := Wp_goto k133_114 (by decide)
theorem k133_117 : mCode 133 117 = some (.aload_n 0, 1) := by decide +kernel
theorem x133_117 {E : ME} {ls : MLs} {st : List MV} {g : MG} {μ : MU} {Q : Option MV → MG → MU → Prop} {v : Nat ⊕ Nat} : Wp E 133 117 (some (.inr (.inr v)) :: ls) st g μ Q = Wp E 133 118 (some (.inr (.inr v)) :: ls) (.inr (.inr v) :: st) g μ Q := Wp_nx k133_117 rfl
theorem k133_118 : mCode 133 118 = some (.getfield 62, 3) := by decide +kernel
theorem x133_118 {E : ME} {ls : MLs} {st : List MV} {g : MG} {μ : MU} {Q : Option MV → MG → MU → Prop} {a : Nat} : Wp E 133 118 ls (.inr (.inr (.inl a)) :: st) g μ Q = ((mKd g a).1 = 6 ∧ Wp E 133 121 ls (mRv (mRf g a 23) :: st) g μ Q) := Wp_getR k133_118 f6_62 (by decide) (by decide)
theorem k133_121 : mCode 133 121 = some (.iload_n 1, 1) := by decide +kernel
theorem x133_121 {E : ME} {ls : MLs} {st : List MV} {g : MG} {μ : MU} {Q : Option MV → MG → MU → Prop} {l0 : Option MV} {v : Int} : Wp E 133 121 (l0 :: some (.inl v) :: ls) st g μ Q = Wp E 133 122 (l0 :: some (.inl v) :: ls) (.inl v :: st) g μ Q := Wp_nx k133_121 rfl
theorem k133_122 : mCode 133 122 = some (.iconst 1, 1) := by decide +kernel
theorem x133_122 {E : ME} {ls : MLs} {st : List MV} {g : MG} {μ : MU} {Q : Option MV → MG → MU → Prop} : Wp E 133 122 ls st g μ Q = Wp E 133 123 ls (.inl 1 :: st) g μ Q := Wp_nx k133_122 rfl
theorem k133_123 : mCode 133 123 = some (.iadd, 1) := by decide +kernel
theorem x133_123 {E : ME} {ls : MLs} {st : List MV} {g : MG} {μ : MU} {Q : Option MV → MG → MU → Prop} {a b : Int} : Wp E 133 123 ls (.inl b :: .inl a :: st) g μ Q = Wp E 133 124 ls (.inl (mWr (a + b)) :: st) g μ Q := Wp_nx k133_123 rfl
theorem k133_124 : mCode 133 124 = some (.aload_n 0, 1) := by decide +kernel
theorem x133_124 {E : ME} {ls : MLs} {st : List MV} {g : MG} {μ : MU} {Q : Option MV → MG → MU → Prop} {v : Nat ⊕ Nat} : Wp E 133 124 (some (.inr (.inr v)) :: ls) st g μ Q = Wp E 133 125 (some (.inr (.inr v)) :: ls) (.inr (.inr v) :: st) g μ Q := Wp_nx k133_124 rfl
theorem k133_125 : mCode 133 125 = some (.invokevirtual 202, 3) := by decide +kernel
theorem x133_125 {E : ME} {ls : MLs} {st : List MV} {g : MG} {μ : MU} {Q : Option MV → MG → MU → Prop} {r : Nat} : Wp E 133 125 ls (.inr (.inr (.inl r)) :: st) g μ Q = ((st.length ≤ 4 ∧ ((mKd g r).1 == 6) = true) ∧ Wp E 131 0 [some (.inr (.inr (.inl r))), none] [] g μ (fun r g' μ' => (g'.1 = g.1 ∧ g'.2.1 = g.2.1) ∧ Wp E 133 128 ls (mPush r st) g' μ' Q)) := Wp_cV k133_125 m6_202 (by decide) (as := [.inr (.inr (.inl r))]) rfl rfl rfl ⟨Nat.le_of_ble_eq_true rfl, by decide⟩
theorem k133_128 : mCode 133 128 = some (.iastore, 1) := by decide +kernel
theorem x133_128 {E : ME} {ls : MLs} {st : List MV} {g : MG} {μ : MU} {Q : Option MV → MG → MU → Prop} {a : Nat} {j v : Int} : Wp E 133 128 ls (.inl v :: .inl j :: .inr (.inr (.inl a)) :: st) g μ Q = (((mKd g a).1 = 10 ∧ 0 ≤ j ∧ j < (mKd g a).2) ∧ Wp E 133 129 ls st g (mUp μ a j.toNat v) Q) := Wp_iast k133_128
theorem k133_129 : mCode 133 129 = some (.iload_n 2, 1) := by decide +kernel
theorem x133_129 {E : ME} {ls : MLs} {st : List MV} {g : MG} {μ : MU} {Q : Option MV → MG → MU → Prop} {l0 l1 : Option MV} {v : Int} : Wp E 133 129 (l0 :: l1 :: some (.inl v) :: ls) st g μ Q = Wp E 133 130 (l0 :: l1 :: some (.inl v) :: ls) (.inl v :: st) g μ Q := Wp_nx k133_129 rfl
theorem k133_130 : mCode 133 130 = some (.bipush 119, 2) := by decide +kernel
theorem x133_130 {E : ME} {ls : MLs} {st : List MV} {g : MG} {μ : MU} {Q : Option MV → MG → MU → Prop} : Wp E 133 130 ls st g μ Q = Wp E 133 132 ls (.inl 119 :: st) g μ Q := Wp_nx k133_130 rfl
theorem k133_132 : mCode 133 132 = some (.if_icmp .eq 20, 3) := by decide +kernel
theorem x133_132 {E : ME} {ls : MLs} {st : List MV} {g : MG} {μ : MU} {Q : Option MV → MG → MU → Prop} {a b : Int} : Wp E 133 132 ls (.inl b :: .inl a :: st) g μ Q = ((a = b → Wp E 133 152 ls st g μ Q) ∧ (¬ a = b → Wp E 133 135 ls st g μ Q)) := Wp_cmp_eq k133_132 (by decide)
theorem k133_135 : mCode 133 135 = some (.aload_n 0, 1) := by decide +kernel
theorem x133_135 {E : ME} {ls : MLs} {st : List MV} {g : MG} {μ : MU} {Q : Option MV → MG → MU → Prop} {v : Nat ⊕ Nat} : Wp E 133 135 (some (.inr (.inr v)) :: ls) st g μ Q = Wp E 133 136 (some (.inr (.inr v)) :: ls) (.inr (.inr v) :: st) g μ Q := Wp_nx k133_135 rfl
theorem k133_136 : mCode 133 136 = some (.iload_n 2, 1) := by decide +kernel
theorem x133_136 {E : ME} {ls : MLs} {st : List MV} {g : MG} {μ : MU} {Q : Option MV → MG → MU → Prop} {l0 l1 : Option MV} {v : Int} : Wp E 133 136 (l0 :: l1 :: some (.inl v) :: ls) st g μ Q = Wp E 133 137 (l0 :: l1 :: some (.inl v) :: ls) (.inl v :: st) g μ Q := Wp_nx k133_136 rfl
theorem k133_137 : mCode 133 137 = some (.bipush 116, 2) := by decide +kernel
theorem x133_137 {E : ME} {ls : MLs} {st : List MV} {g : MG} {μ : MU} {Q : Option MV → MG → MU → Prop} : Wp E 133 137 ls st g μ Q = Wp E 133 139 ls (.inl 116 :: st) g μ Q := Wp_nx k133_137 rfl
theorem k133_139 : mCode 133 139 = some (.if_icmp .ne 8, 3) := by decide +kernel
theorem x133_139 {E : ME} {ls : MLs} {st : List MV} {g : MG} {μ : MU} {Q : Option MV → MG → MU → Prop} {a b : Int} : Wp E 133 139 ls (.inl b :: .inl a :: st) g μ Q = ((¬ a = b → Wp E 133 147 ls st g μ Q) ∧ (a = b → Wp E 133 142 ls st g μ Q)) := Wp_cmp_ne k133_139 (by decide)
theorem k133_142 : mCode 133 142 = some (.bipush 47, 2) := by decide +kernel
theorem x133_142 {E : ME} {ls : MLs} {st : List MV} {g : MG} {μ : MU} {Q : Option MV → MG → MU → Prop} : Wp E 133 142 ls st g μ Q = Wp E 133 144 ls (.inl 47 :: st) g μ Q := Wp_nx k133_142 rfl
theorem k133_144 : mCode 133 144 = some (.goto 5, 3) := by decide +kernel
theorem x133_144 {E : ME} {ls : MLs} {st : List MV} {g : MG} {μ : MU} {Q : Option MV → MG → MU → Prop} : Wp E 133 144 ls st g μ Q = Wp E 133 149 ls st g μ Q := Wp_goto k133_144 (by decide)
theorem k133_147 : mCode 133 147 = some (.bipush 64, 2) := by decide +kernel
theorem x133_147 {E : ME} {ls : MLs} {st : List MV} {g : MG} {μ : MU} {Q : Option MV → MG → MU → Prop} : Wp E 133 147 ls st g μ Q = Wp E 133 149 ls (.inl 64 :: st) g μ Q := Wp_nx k133_147 rfl
theorem k133_149 : mCode 133 149 = some (.invokevirtual 211, 3) := by decide +kernel
theorem x133_149 {E : ME} {ls : MLs} {st : List MV} {g : MG} {μ : MU} {Q : Option MV → MG → MU → Prop} {r : Nat} {a0 : Int} : Wp E 133 149 ls (.inl a0 :: .inr (.inr (.inl r)) :: st) g μ Q = ((st.length ≤ 4 ∧ ((mKd g r).1 == 6) = true) ∧ Wp E 130 0 [some (.inr (.inr (.inl r))), some (.inl a0)] [] g μ (fun r g' μ' => (g'.1 = g.1 ∧ g'.2.1 = g.2.1) ∧ Wp E 133 152 ls (mPush r st) g' μ' Q)) := Wp_cV k133_149 m6_211 (by decide) (as := [.inr (.inr (.inl r)), .inl a0]) rfl rfl rfl ⟨Nat.le_of_ble_eq_true rfl, by decide⟩
theorem k133_152 : mCode 133 152 = some (.aload_n 0, 1) := by decide +kernel
theorem x133_152 {E : ME} {ls : MLs} {st : List MV} {g : MG} {μ : MU} {Q : Option MV → MG → MU → Prop} {v : Nat ⊕ Nat} : Wp E 133 152 (some (.inr (.inr v)) :: ls) st g μ Q = Wp E 133 153 (some (.inr (.inr v)) :: ls) (.inr (.inr v) :: st) g μ Q := Wp_nx k133_152 rfl
theorem k133_153 : mCode 133 153 = some (.getfield 62, 3) := by decide +kernel
theorem x133_153 {E : ME} {ls : MLs} {st : List MV} {g : MG} {μ : MU} {Q : Option MV → MG → MU → Prop} {a : Nat} : Wp E 133 153 ls (.inr (.inr (.inl a)) :: st) g μ Q = ((mKd g a).1 = 6 ∧ Wp E 133 156 ls (mRv (mRf g a 23) :: st) g μ Q) := Wp_getR k133_153 f6_62 (by decide) (by decide)
theorem k133_156 : mCode 133 156 = some (.iload_n 1, 1) := by decide +kernel
theorem x133_156 {E : ME} {ls : MLs} {st : List MV} {g : MG} {μ : MU} {Q : Option MV → MG → MU → Prop} {l0 : Option MV} {v : Int} : Wp E 133 156 (l0 :: some (.inl v) :: ls) st g μ Q = Wp E 133 157 (l0 :: some (.inl v) :: ls) (.inl v :: st) g μ Q := Wp_nx k133_156 rfl
theorem k133_157 : mCode 133 157 = some (.iconst 2, 1) := by decide +kernel
theorem x133_157 {E : ME} {ls : MLs} {st : List MV} {g : MG} {μ : MU} {Q : Option MV → MG → MU → Prop} : Wp E 133 157 ls st g μ Q = Wp E 133 158 ls (.inl 2 :: st) g μ Q := Wp_nx k133_157 rfl
theorem k133_158 : mCode 133 158 = some (.iadd, 1) := by decide +kernel
theorem x133_158 {E : ME} {ls : MLs} {st : List MV} {g : MG} {μ : MU} {Q : Option MV → MG → MU → Prop} {a b : Int} : Wp E 133 158 ls (.inl b :: .inl a :: st) g μ Q = Wp E 133 159 ls (.inl (mWr (a + b)) :: st) g μ Q := Wp_nx k133_158 rfl
theorem k133_159 : mCode 133 159 = some (.aload_n 0, 1) := by decide +kernel
theorem x133_159 {E : ME} {ls : MLs} {st : List MV} {g : MG} {μ : MU} {Q : Option MV → MG → MU → Prop} {v : Nat ⊕ Nat} : Wp E 133 159 (some (.inr (.inr v)) :: ls) st g μ Q = Wp E 133 160 (some (.inr (.inr v)) :: ls) (.inr (.inr v) :: st) g μ Q := Wp_nx k133_159 rfl
theorem k133_160 : mCode 133 160 = some (.invokevirtual 202, 3) := by decide +kernel
theorem x133_160 {E : ME} {ls : MLs} {st : List MV} {g : MG} {μ : MU} {Q : Option MV → MG → MU → Prop} {r : Nat} : Wp E 133 160 ls (.inr (.inr (.inl r)) :: st) g μ Q = ((st.length ≤ 4 ∧ ((mKd g r).1 == 6) = true) ∧ Wp E 131 0 [some (.inr (.inr (.inl r))), none] [] g μ (fun r g' μ' => (g'.1 = g.1 ∧ g'.2.1 = g.2.1) ∧ Wp E 133 163 ls (mPush r st) g' μ' Q)) := Wp_cV k133_160 m6_202 (by decide) (as := [.inr (.inr (.inl r))]) rfl rfl rfl ⟨Nat.le_of_ble_eq_true rfl, by decide⟩
theorem k133_163 : mCode 133 163 = some (.iastore, 1) := by decide +kernel
theorem x133_163 {E : ME} {ls : MLs} {st : List MV} {g : MG} {μ : MU} {Q : Option MV → MG → MU → Prop} {a : Nat} {j v : Int} : Wp E 133 163 ls (.inl v :: .inl j :: .inr (.inr (.inl a)) :: st) g μ Q = (((mKd g a).1 = 10 ∧ 0 ≤ j ∧ j < (mKd g a).2) ∧ Wp E 133 164 ls st g (mUp μ a j.toNat v) Q) := Wp_iast k133_163
theorem k133_164 : mCode 133 164 = some (.aload_n 0, 1) := by decide +kernel
theorem x133_164 {E : ME} {ls : MLs} {st : List MV} {g : MG} {μ : MU} {Q : Option MV → MG → MU → Prop} {v : Nat ⊕ Nat} : Wp E 133 164 (some (.inr (.inr v)) :: ls) st g μ Q = Wp E 133 165 (some (.inr (.inr v)) :: ls) (.inr (.inr v) :: st) g μ Q := Wp_nx k133_164 rfl
theorem k133_165 : mCode 133 165 = some (.iload_n 2, 1) := by decide +kernel
theorem x133_165 {E : ME} {ls : MLs} {st : List MV} {g : MG} {μ : MU} {Q : Option MV → MG → MU → Prop} {l0 l1 : Option MV} {v : Int} : Wp E 133 165 (l0 :: l1 :: some (.inl v) :: ls) st g μ Q = Wp E 133 166 (l0 :: l1 :: some (.inl v) :: ls) (.inl v :: st) g μ Q := Wp_nx k133_165 rfl
theorem k133_166 : mCode 133 166 = some (.bipush 102, 2) := by decide +kernel
theorem x133_166 {E : ME} {ls : MLs} {st : List MV} {g : MG} {μ : MU} {Q : Option MV → MG → MU → Prop} : Wp E 133 166 ls st g μ Q = Wp E 133 168 ls (.inl 102 :: st) g μ Q := Wp_nx k133_166 rfl
theorem k133_168 : mCode 133 168 = some (.if_icmp .ne 8, 3) := by decide +kernel
theorem x133_168 {E : ME} {ls : MLs} {st : List MV} {g : MG} {μ : MU} {Q : Option MV → MG → MU → Prop} {a b : Int} : Wp E 133 168 ls (.inl b :: .inl a :: st) g μ Q = ((¬ a = b → Wp E 133 176 ls st g μ Q) ∧ (a = b → Wp E 133 171 ls st g μ Q)) := Wp_cmp_ne k133_168 (by decide)
theorem k133_171 : mCode 133 171 = some (.bipush 37, 2) := by decide +kernel
theorem x133_171 {E : ME} {ls : MLs} {st : List MV} {g : MG} {μ : MU} {Q : Option MV → MG → MU → Prop} : Wp E 133 171 ls st g μ Q = Wp E 133 173 ls (.inl 37 :: st) g μ Q := Wp_nx k133_171 rfl
theorem k133_173 : mCode 133 173 = some (.goto 16, 3) := by decide +kernel
theorem x133_173 {E : ME} {ls : MLs} {st : List MV} {g : MG} {μ : MU} {Q : Option MV → MG → MU → Prop} : Wp E 133 173 ls st g μ Q = Wp E 133 189 ls st g μ Q := Wp_goto k133_173 (by decide)
theorem k133_176 : mCode 133 176 = some (.iload_n 2, 1) := by decide +kernel
theorem x133_176 {E : ME} {ls : MLs} {st : List MV} {g : MG} {μ : MU} {Q : Option MV → MG → MU → Prop} {l0 l1 : Option MV} {v : Int} : Wp E 133 176 (l0 :: l1 :: some (.inl v) :: ls) st g μ Q = Wp E 133 177 (l0 :: l1 :: some (.inl v) :: ls) (.inl v :: st) g μ Q := Wp_nx k133_176 rfl
theorem k133_177 : mCode 133 177 = some (.bipush 119, 2) := by decide +kernel
theorem x133_177 {E : ME} {ls : MLs} {st : List MV} {g : MG} {μ : MU} {Q : Option MV → MG → MU → Prop} : Wp E 133 177 ls st g μ Q = Wp E 133 179 ls (.inl 119 :: st) g μ Q := Wp_nx k133_177 rfl
theorem k133_179 : mCode 133 179 = some (.if_icmp .ne 8, 3) := by decide +kernel
theorem x133_179 {E : ME} {ls : MLs} {st : List MV} {g : MG} {μ : MU} {Q : Option MV → MG → MU → Prop} {a b : Int} : Wp E 133 179 ls (.inl b :: .inl a :: st) g μ Q = ((¬ a = b → Wp E 133 187 ls st g μ Q) ∧ (a = b → Wp E 133 182 ls st g μ Q)) := Wp_cmp_ne k133_179 (by decide)
theorem k133_182 : mCode 133 182 = some (.bipush 61, 2) := by decide +kernel
theorem x133_182 {E : ME} {ls : MLs} {st : List MV} {g : MG} {μ : MU} {Q : Option MV → MG → MU → Prop} : Wp E 133 182 ls st g μ Q = Wp E 133 184 ls (.inl 61 :: st) g μ Q := Wp_nx k133_182 rfl
theorem k133_184 : mCode 133 184 = some (.goto 5, 3) := by decide +kernel
theorem x133_184 {E : ME} {ls : MLs} {st : List MV} {g : MG} {μ : MU} {Q : Option MV → MG → MU → Prop} : Wp E 133 184 ls st g μ Q = Wp E 133 189 ls st g μ Q := Wp_goto k133_184 (by decide)
theorem k133_187 : mCode 133 187 = some (.bipush 58, 2) := by decide +kernel
theorem x133_187 {E : ME} {ls : MLs} {st : List MV} {g : MG} {μ : MU} {Q : Option MV → MG → MU → Prop} : Wp E 133 187 ls st g μ Q = Wp E 133 189 ls (.inl 58 :: st) g μ Q := Wp_nx k133_187 rfl
theorem k133_189 : mCode 133 189 = some (.invokevirtual 211, 3) := by decide +kernel
theorem x133_189 {E : ME} {ls : MLs} {st : List MV} {g : MG} {μ : MU} {Q : Option MV → MG → MU → Prop} {r : Nat} {a0 : Int} : Wp E 133 189 ls (.inl a0 :: .inr (.inr (.inl r)) :: st) g μ Q = ((st.length ≤ 4 ∧ ((mKd g r).1 == 6) = true) ∧ Wp E 130 0 [some (.inr (.inr (.inl r))), some (.inl a0)] [] g μ (fun r g' μ' => (g'.1 = g.1 ∧ g'.2.1 = g.2.1) ∧ Wp E 133 192 ls (mPush r st) g' μ' Q)) := Wp_cV k133_189 m6_211 (by decide) (as := [.inr (.inr (.inl r)), .inl a0]) rfl rfl rfl ⟨Nat.le_of_ble_eq_true rfl, by decide⟩
theorem k133_192 : mCode 133 192 = some (.aload_n 0, 1) := by decide +kernel
theorem x133_192 {E : ME} {ls : MLs} {st : List MV} {g : MG} {μ : MU} {Q : Option MV → MG → MU → Prop} {v : Nat ⊕ Nat} : Wp E 133 192 (some (.inr (.inr v)) :: ls) st g μ Q = Wp E 133 193 (some (.inr (.inr v)) :: ls) (.inr (.inr v) :: st) g μ Q := Wp_nx k133_192 rfl
theorem k133_193 : mCode 133 193 = some (.getfield 62, 3) := by decide +kernel
theorem x133_193 {E : ME} {ls : MLs} {st : List MV} {g : MG} {μ : MU} {Q : Option MV → MG → MU → Prop} {a : Nat} : Wp E 133 193 ls (.inr (.inr (.inl a)) :: st) g μ Q = ((mKd g a).1 = 6 ∧ Wp E 133 196 ls (mRv (mRf g a 23) :: st) g μ Q) := Wp_getR k133_193 f6_62 (by decide) (by decide)
theorem k133_196 : mCode 133 196 = some (.iload_n 1, 1) := by decide +kernel
theorem x133_196 {E : ME} {ls : MLs} {st : List MV} {g : MG} {μ : MU} {Q : Option MV → MG → MU → Prop} {l0 : Option MV} {v : Int} : Wp E 133 196 (l0 :: some (.inl v) :: ls) st g μ Q = Wp E 133 197 (l0 :: some (.inl v) :: ls) (.inl v :: st) g μ Q := Wp_nx k133_196 rfl
theorem k133_197 : mCode 133 197 = some (.iconst 3, 1) := by decide +kernel
theorem x133_197 {E : ME} {ls : MLs} {st : List MV} {g : MG} {μ : MU} {Q : Option MV → MG → MU → Prop} : Wp E 133 197 ls st g μ Q = Wp E 133 198 ls (.inl 3 :: st) g μ Q := Wp_nx k133_197 rfl
theorem k133_198 : mCode 133 198 = some (.iadd, 1) := by decide +kernel
theorem x133_198 {E : ME} {ls : MLs} {st : List MV} {g : MG} {μ : MU} {Q : Option MV → MG → MU → Prop} {a b : Int} : Wp E 133 198 ls (.inl b :: .inl a :: st) g μ Q = Wp E 133 199 ls (.inl (mWr (a + b)) :: st) g μ Q := Wp_nx k133_198 rfl
theorem k133_199 : mCode 133 199 = some (.aload_n 0, 1) := by decide +kernel
theorem x133_199 {E : ME} {ls : MLs} {st : List MV} {g : MG} {μ : MU} {Q : Option MV → MG → MU → Prop} {v : Nat ⊕ Nat} : Wp E 133 199 (some (.inr (.inr v)) :: ls) st g μ Q = Wp E 133 200 (some (.inr (.inr v)) :: ls) (.inr (.inr v) :: st) g μ Q := Wp_nx k133_199 rfl
theorem k133_200 : mCode 133 200 = some (.invokevirtual 208, 3) := by decide +kernel
theorem x133_200 {E : ME} {ls : MLs} {st : List MV} {g : MG} {μ : MU} {Q : Option MV → MG → MU → Prop} {r : Nat} : Wp E 133 200 ls (.inr (.inr (.inl r)) :: st) g μ Q = ((st.length ≤ 4 ∧ ((mKd g r).1 == 6) = true) ∧ Wp E 132 0 [some (.inr (.inr (.inl r))), none, none] [] g μ (fun r g' μ' => (g'.1 = g.1 ∧ g'.2.1 = g.2.1) ∧ Wp E 133 203 ls (mPush r st) g' μ' Q)) := Wp_cV k133_200 m6_208 (by decide) (as := [.inr (.inr (.inl r))]) rfl rfl rfl ⟨Nat.le_of_ble_eq_true rfl, by decide⟩
theorem k133_203 : mCode 133 203 = some (.iastore, 1) := by decide +kernel
theorem x133_203 {E : ME} {ls : MLs} {st : List MV} {g : MG} {μ : MU} {Q : Option MV → MG → MU → Prop} {a : Nat} {j v : Int} : Wp E 133 203 ls (.inl v :: .inl j :: .inr (.inr (.inl a)) :: st) g μ Q = (((mKd g a).1 = 10 ∧ 0 ≤ j ∧ j < (mKd g a).2) ∧ Wp E 133 204 ls st g (mUp μ a j.toNat v) Q) := Wp_iast k133_203
theorem k133_204 : mCode 133 204 = some (.iload_n 2, 1) := by decide +kernel
theorem x133_204 {E : ME} {ls : MLs} {st : List MV} {g : MG} {μ : MU} {Q : Option MV → MG → MU → Prop} {l0 l1 : Option MV} {v : Int} : Wp E 133 204 (l0 :: l1 :: some (.inl v) :: ls) st g μ Q = Wp E 133 205 (l0 :: l1 :: some (.inl v) :: ls) (.inl v :: st) g μ Q := Wp_nx k133_204 rfl
theorem k133_205 : mCode 133 205 = some (.bipush 115, 2) := by decide +kernel
theorem x133_205 {E : ME} {ls : MLs} {st : List MV} {g : MG} {μ : MU} {Q : Option MV → MG → MU → Prop} : Wp E 133 205 ls st g μ Q = Wp E 133 207 ls (.inl 115 :: st) g μ Q := Wp_nx k133_205 rfl
theorem k133_207 : mCode 133 207 = some (.if_icmp .ne 21, 3) := by decide +kernel
theorem x133_207 {E : ME} {ls : MLs} {st : List MV} {g : MG} {μ : MU} {Q : Option MV → MG → MU → Prop} {a b : Int} : Wp E 133 207 ls (.inl b :: .inl a :: st) g μ Q = ((¬ a = b → Wp E 133 228 ls st g μ Q) ∧ (a = b → Wp E 133 210 ls st g μ Q)) := Wp_cmp_ne k133_207 (by decide)
theorem k133_210 : mCode 133 210 = some (.aload_n 0, 1) := by decide +kernel
theorem x133_210 {E : ME} {ls : MLs} {st : List MV} {g : MG} {μ : MU} {Q : Option MV → MG → MU → Prop} {v : Nat ⊕ Nat} : Wp E 133 210 (some (.inr (.inr v)) :: ls) st g μ Q = Wp E 133 211 (some (.inr (.inr v)) :: ls) (.inr (.inr v) :: st) g μ Q := Wp_nx k133_210 rfl
theorem k133_211 : mCode 133 211 = some (.bipush 42, 2) := by decide +kernel
theorem x133_211 {E : ME} {ls : MLs} {st : List MV} {g : MG} {μ : MU} {Q : Option MV → MG → MU → Prop} : Wp E 133 211 ls st g μ Q = Wp E 133 213 ls (.inl 42 :: st) g μ Q := Wp_nx k133_211 rfl
theorem k133_213 : mCode 133 213 = some (.invokevirtual 211, 3) := by decide +kernel
theorem x133_213 {E : ME} {ls : MLs} {st : List MV} {g : MG} {μ : MU} {Q : Option MV → MG → MU → Prop} {r : Nat} {a0 : Int} : Wp E 133 213 ls (.inl a0 :: .inr (.inr (.inl r)) :: st) g μ Q = ((st.length ≤ 4 ∧ ((mKd g r).1 == 6) = true) ∧ Wp E 130 0 [some (.inr (.inr (.inl r))), some (.inl a0)] [] g μ (fun r g' μ' => (g'.1 = g.1 ∧ g'.2.1 = g.2.1) ∧ Wp E 133 216 ls (mPush r st) g' μ' Q)) := Wp_cV k133_213 m6_211 (by decide) (as := [.inr (.inr (.inl r)), .inl a0]) rfl rfl rfl ⟨Nat.le_of_ble_eq_true rfl, by decide⟩
theorem k133_216 : mCode 133 216 = some (.aload_n 0, 1) := by decide +kernel
theorem x133_216 {E : ME} {ls : MLs} {st : List MV} {g : MG} {μ : MU} {Q : Option MV → MG → MU → Prop} {v : Nat ⊕ Nat} : Wp E 133 216 (some (.inr (.inr v)) :: ls) st g μ Q = Wp E 133 217 (some (.inr (.inr v)) :: ls) (.inr (.inr v) :: st) g μ Q := Wp_nx k133_216 rfl
theorem k133_217 : mCode 133 217 = some (.getfield 62, 3) := by decide +kernel
theorem x133_217 {E : ME} {ls : MLs} {st : List MV} {g : MG} {μ : MU} {Q : Option MV → MG → MU → Prop} {a : Nat} : Wp E 133 217 ls (.inr (.inr (.inl a)) :: st) g μ Q = ((mKd g a).1 = 6 ∧ Wp E 133 220 ls (mRv (mRf g a 23) :: st) g μ Q) := Wp_getR k133_217 f6_62 (by decide) (by decide)
theorem k133_220 : mCode 133 220 = some (.iload_n 1, 1) := by decide +kernel
theorem x133_220 {E : ME} {ls : MLs} {st : List MV} {g : MG} {μ : MU} {Q : Option MV → MG → MU → Prop} {l0 : Option MV} {v : Int} : Wp E 133 220 (l0 :: some (.inl v) :: ls) st g μ Q = Wp E 133 221 (l0 :: some (.inl v) :: ls) (.inl v :: st) g μ Q := Wp_nx k133_220 rfl
theorem k133_221 : mCode 133 221 = some (.iconst 4, 1) := by decide +kernel
theorem x133_221 {E : ME} {ls : MLs} {st : List MV} {g : MG} {μ : MU} {Q : Option MV → MG → MU → Prop} : Wp E 133 221 ls st g μ Q = Wp E 133 222 ls (.inl 4 :: st) g μ Q := Wp_nx k133_221 rfl
theorem k133_222 : mCode 133 222 = some (.iadd, 1) := by decide +kernel
theorem x133_222 {E : ME} {ls : MLs} {st : List MV} {g : MG} {μ : MU} {Q : Option MV → MG → MU → Prop} {a b : Int} : Wp E 133 222 ls (.inl b :: .inl a :: st) g μ Q = Wp E 133 223 ls (.inl (mWr (a + b)) :: st) g μ Q := Wp_nx k133_222 rfl
theorem k133_223 : mCode 133 223 = some (.aload_n 0, 1) := by decide +kernel
theorem x133_223 {E : ME} {ls : MLs} {st : List MV} {g : MG} {μ : MU} {Q : Option MV → MG → MU → Prop} {v : Nat ⊕ Nat} : Wp E 133 223 (some (.inr (.inr v)) :: ls) st g μ Q = Wp E 133 224 (some (.inr (.inr v)) :: ls) (.inr (.inr v) :: st) g μ Q := Wp_nx k133_223 rfl
theorem k133_224 : mCode 133 224 = some (.invokevirtual 208, 3) := by decide +kernel
theorem x133_224 {E : ME} {ls : MLs} {st : List MV} {g : MG} {μ : MU} {Q : Option MV → MG → MU → Prop} {r : Nat} : Wp E 133 224 ls (.inr (.inr (.inl r)) :: st) g μ Q = ((st.length ≤ 4 ∧ ((mKd g r).1 == 6) = true) ∧ Wp E 132 0 [some (.inr (.inr (.inl r))), none, none] [] g μ (fun r g' μ' => (g'.1 = g.1 ∧ g'.2.1 = g.2.1) ∧ Wp E 133 227 ls (mPush r st) g' μ' Q)) := Wp_cV k133_224 m6_208 (by decide) (as := [.inr (.inr (.inl r))]) rfl rfl rfl ⟨Nat.le_of_ble_eq_true rfl, by decide⟩
theorem k133_227 : mCode 133 227 = some (.iastore, 1) := by decide +kernel
theorem x133_227 {E : ME} {ls : MLs} {st : List MV} {g : MG} {μ : MU} {Q : Option MV → MG → MU → Prop} {a : Nat} {j v : Int} : Wp E 133 227 ls (.inl v :: .inl j :: .inr (.inr (.inl a)) :: st) g μ Q = (((mKd g a).1 = 10 ∧ 0 ≤ j ∧ j < (mKd g a).2) ∧ Wp E 133 228 ls st g (mUp μ a j.toNat v) Q) := Wp_iast k133_227
theorem k133_228 : mCode 133 228 = some (.aload_n 0, 1) := by decide +kernel
theorem x133_228 {E : ME} {ls : MLs} {st : List MV} {g : MG} {μ : MU} {Q : Option MV → MG → MU → Prop} {v : Nat ⊕ Nat} : Wp E 133 228 (some (.inr (.inr v)) :: ls) st g μ Q = Wp E 133 229 (some (.inr (.inr v)) :: ls) (.inr (.inr v) :: st) g μ Q := Wp_nx k133_228 rfl
theorem k133_229 : mCode 133 229 = some (.dup, 1) := by decide +kernel
theorem x133_229 {E : ME} {ls : MLs} {st : List MV} {g : MG} {μ : MU} {Q : Option MV → MG → MU → Prop} {v : MV} : Wp E 133 229 ls (v :: st) g μ Q = (mC1 v = true ∧ Wp E 133 230 ls (v :: v :: st) g μ Q) := Wp_dup k133_229
theorem k133_230 : mCode 133 230 = some (.getfield 205, 3) := by decide +kernel
theorem x133_230 {E : ME} {ls : MLs} {st : List MV} {g : MG} {μ : MU} {Q : Option MV → MG → MU → Prop} {a : Nat} : Wp E 133 230 ls (.inr (.inr (.inl a)) :: st) g μ Q = ((mKd g a).1 = 6 ∧ Wp E 133 233 ls (.inl (μ a 24) :: st) g μ Q) := Wp_getI k133_230 f6_205 (by decide) (by decide)
theorem k133_233 : mCode 133 233 = some (.aload_n 0, 1) := by decide +kernel
theorem x133_233 {E : ME} {ls : MLs} {st : List MV} {g : MG} {μ : MU} {Q : Option MV → MG → MU → Prop} {v : Nat ⊕ Nat} : Wp E 133 233 (some (.inr (.inr v)) :: ls) st g μ Q = Wp E 133 234 (some (.inr (.inr v)) :: ls) (.inr (.inr v) :: st) g μ Q := Wp_nx k133_233 rfl
theorem k133_234 : mCode 133 234 = some (.getfield 195, 3) := by decide +kernel
theorem x133_234 {E : ME} {ls : MLs} {st : List MV} {g : MG} {μ : MU} {Q : Option MV → MG → MU → Prop} {a : Nat} : Wp E 133 234 ls (.inr (.inr (.inl a)) :: st) g μ Q = ((mKd g a).1 = 6 ∧ Wp E 133 237 ls (.inl (μ a 22) :: st) g μ Q) := Wp_getI k133_234 f6_195 (by decide) (by decide)
theorem k133_237 : mCode 133 237 = some (.ifCond .eq 7, 3) := by decide +kernel
theorem x133_237 {E : ME} {ls : MLs} {st : List MV} {g : MG} {μ : MU} {Q : Option MV → MG → MU → Prop} {a : Int} : Wp E 133 237 ls (.inl a :: st) g μ Q = ((a = 0 → Wp E 133 244 ls st g μ Q) ∧ (¬ a = 0 → Wp E 133 240 ls st g μ Q)) := Wp_if_eq k133_237 (by decide)
theorem k133_240 : mCode 133 240 = some (.iconst 1, 1) := by decide +kernel
theorem x133_240 {E : ME} {ls : MLs} {st : List MV} {g : MG} {μ : MU} {Q : Option MV → MG → MU → Prop} : Wp E 133 240 ls st g μ Q = Wp E 133 241 ls (.inl 1 :: st) g μ Q := Wp_nx k133_240 rfl
theorem k133_241 : mCode 133 241 = some (.goto 4, 3) := by decide +kernel
theorem x133_241 {E : ME} {ls : MLs} {st : List MV} {g : MG} {μ : MU} {Q : Option MV → MG → MU → Prop} : Wp E 133 241 ls st g μ Q = Wp E 133 245 ls st g μ Q := Wp_goto k133_241 (by decide)
theorem k133_244 : mCode 133 244 = some (.iconst 0, 1) := by decide +kernel
theorem x133_244 {E : ME} {ls : MLs} {st : List MV} {g : MG} {μ : MU} {Q : Option MV → MG → MU → Prop} : Wp E 133 244 ls st g μ Q = Wp E 133 245 ls (.inl 0 :: st) g μ Q := Wp_nx k133_244 rfl
theorem k133_245 : mCode 133 245 = some (.iadd, 1) := by decide +kernel
theorem x133_245 {E : ME} {ls : MLs} {st : List MV} {g : MG} {μ : MU} {Q : Option MV → MG → MU → Prop} {a b : Int} : Wp E 133 245 ls (.inl b :: .inl a :: st) g μ Q = Wp E 133 246 ls (.inl (mWr (a + b)) :: st) g μ Q := Wp_nx k133_245 rfl
theorem k133_246 : mCode 133 246 = some (.putfield 205, 3) := by decide +kernel
theorem x133_246 {E : ME} {ls : MLs} {st : List MV} {g : MG} {μ : MU} {Q : Option MV → MG → MU → Prop} {a : Nat} {v : Int} : Wp E 133 246 ls (.inl v :: .inr (.inr (.inl a)) :: st) g μ Q = ((mKd g a).1 = 6 ∧ Wp E 133 249 ls st g (mUp μ a 24 v) Q) := Wp_putI0 k133_246 f6_205 (by decide) (by decide)
theorem k133_249 : mCode 133 249 = some (.return_, 1) := by decide +kernel
theorem x133_249 {E : ME} {ls : MLs} {g : MG} {μ : MU} {Q : Option MV → MG → MU → Prop} : Wp E 133 249 ls [] g μ Q = Q none g μ := Wp_retV k133_249 (by decide)
theorem k134_0 : mCode 134 0 = some (.aload_n 0, 1) := by decide +kernel
theorem x134_0 {E : ME} {ls : MLs} {st : List MV} {g : MG} {μ : MU} {Q : Option MV → MG → MU → Prop} {v : Nat ⊕ Nat} : Wp E 134 0 (some (.inr (.inr v)) :: ls) st g μ Q = Wp E 134 1 (some (.inr (.inr v)) :: ls) (.inr (.inr v) :: st) g μ Q := Wp_nx k134_0 rfl
theorem k134_1 : mCode 134 1 = some (.iconst 0, 1) := by decide +kernel
theorem x134_1 {E : ME} {ls : MLs} {st : List MV} {g : MG} {μ : MU} {Q : Option MV → MG → MU → Prop} : Wp E 134 1 ls st g μ Q = Wp E 134 2 ls (.inl 0 :: st) g μ Q := Wp_nx k134_1 rfl
theorem k134_2 : mCode 134 2 = some (.putfield 192, 3) := by decide +kernel
theorem x134_2 {E : ME} {ls : MLs} {st : List MV} {g : MG} {μ : MU} {Q : Option MV → MG → MU → Prop} {a : Nat} {v : Int} : Wp E 134 2 ls (.inl v :: .inr (.inr (.inl a)) :: st) g μ Q = ((mKd g a).1 = 6 ∧ Wp E 134 5 ls st g (mUp μ a 21 v) Q) := Wp_putI0 k134_2 f6_192 (by decide) (by decide)
theorem k134_5 : mCode 134 5 = some (.aload_n 0, 1) := by decide +kernel
theorem x134_5 {E : ME} {ls : MLs} {st : List MV} {g : MG} {μ : MU} {Q : Option MV → MG → MU → Prop} {v : Nat ⊕ Nat} : Wp E 134 5 (some (.inr (.inr v)) :: ls) st g μ Q = Wp E 134 6 (some (.inr (.inr v)) :: ls) (.inr (.inr v) :: st) g μ Q := Wp_nx k134_5 rfl
theorem k134_6 : mCode 134 6 = some (.iconst 1, 1) := by decide +kernel
theorem x134_6 {E : ME} {ls : MLs} {st : List MV} {g : MG} {μ : MU} {Q : Option MV → MG → MU → Prop} : Wp E 134 6 ls st g μ Q = Wp E 134 7 ls (.inl 1 :: st) g μ Q := Wp_nx k134_6 rfl
theorem k134_7 : mCode 134 7 = some (.putfield 195, 3) := by decide +kernel
theorem x134_7 {E : ME} {ls : MLs} {st : List MV} {g : MG} {μ : MU} {Q : Option MV → MG → MU → Prop} {a : Nat} {v : Int} : Wp E 134 7 ls (.inl v :: .inr (.inr (.inl a)) :: st) g μ Q = (((mKd g a).1 = 6 ∧ mOk 2 v = true) ∧ Wp E 134 10 ls st g (mUp μ a 22 v) Q) := Wp_putI k134_7 f6_195 (by decide) (by decide)
theorem k134_10 : mCode 134 10 = some (.aload_n 0, 1) := by decide +kernel
theorem x134_10 {E : ME} {ls : MLs} {st : List MV} {g : MG} {μ : MU} {Q : Option MV → MG → MU → Prop} {v : Nat ⊕ Nat} : Wp E 134 10 (some (.inr (.inr v)) :: ls) st g μ Q = Wp E 134 11 (some (.inr (.inr v)) :: ls) (.inr (.inr v) :: st) g μ Q := Wp_nx k134_10 rfl
theorem k134_11 : mCode 134 11 = some (.iconst 0, 1) := by decide +kernel
theorem x134_11 {E : ME} {ls : MLs} {st : List MV} {g : MG} {μ : MU} {Q : Option MV → MG → MU → Prop} : Wp E 134 11 ls st g μ Q = Wp E 134 12 ls (.inl 0 :: st) g μ Q := Wp_nx k134_11 rfl
theorem k134_12 : mCode 134 12 = some (.putfield 205, 3) := by decide +kernel
theorem x134_12 {E : ME} {ls : MLs} {st : List MV} {g : MG} {μ : MU} {Q : Option MV → MG → MU → Prop} {a : Nat} {v : Int} : Wp E 134 12 ls (.inl v :: .inr (.inr (.inl a)) :: st) g μ Q = ((mKd g a).1 = 6 ∧ Wp E 134 15 ls st g (mUp μ a 24 v) Q) := Wp_putI0 k134_12 f6_205 (by decide) (by decide)
theorem k134_15 : mCode 134 15 = some (.aload_n 0, 1) := by decide +kernel
theorem x134_15 {E : ME} {ls : MLs} {st : List MV} {g : MG} {μ : MU} {Q : Option MV → MG → MU → Prop} {v : Nat ⊕ Nat} : Wp E 134 15 (some (.inr (.inr v)) :: ls) st g μ Q = Wp E 134 16 (some (.inr (.inr v)) :: ls) (.inr (.inr v) :: st) g μ Q := Wp_nx k134_15 rfl
theorem k134_16 : mCode 134 16 = some (.invokevirtual 214, 3) := by decide +kernel
theorem x134_16 {E : ME} {ls : MLs} {st : List MV} {g : MG} {μ : MU} {Q : Option MV → MG → MU → Prop} {r : Nat} : Wp E 134 16 ls (.inr (.inr (.inl r)) :: st) g μ Q = ((st.length ≤ 4 ∧ ((mKd g r).1 == 6) = true) ∧ Wp E 133 0 [some (.inr (.inr (.inl r))), none, none, none] [] g μ (fun r g' μ' => (g'.1 = g.1 ∧ g'.2.1 = g.2.1) ∧ Wp E 134 19 ls (mPush r st) g' μ' Q)) := Wp_cV k134_16 m6_214 (by decide) (as := [.inr (.inr (.inl r))]) rfl rfl rfl ⟨Nat.le_of_ble_eq_true rfl, by decide⟩
theorem k134_19 : mCode 134 19 = some (.aload_n 0, 1) := by decide +kernel
theorem x134_19 {E : ME} {ls : MLs} {st : List MV} {g : MG} {μ : MU} {Q : Option MV → MG → MU → Prop} {v : Nat ⊕ Nat} : Wp E 134 19 (some (.inr (.inr v)) :: ls) st g μ Q = Wp E 134 20 (some (.inr (.inr v)) :: ls) (.inr (.inr v) :: st) g μ Q := Wp_nx k134_19 rfl
theorem k134_20 : mCode 134 20 = some (.getfield 195, 3) := by decide +kernel
theorem x134_20 {E : ME} {ls : MLs} {st : List MV} {g : MG} {μ : MU} {Q : Option MV → MG → MU → Prop} {a : Nat} : Wp E 134 20 ls (.inr (.inr (.inl a)) :: st) g μ Q = ((mKd g a).1 = 6 ∧ Wp E 134 23 ls (.inl (μ a 22) :: st) g μ Q) := Wp_getI k134_20 f6_195 (by decide) (by decide)
theorem k134_23 : mCode 134 23 = some (.ifCond .eq 34, 3) := by decide +kernel
theorem x134_23 {E : ME} {ls : MLs} {st : List MV} {g : MG} {μ : MU} {Q : Option MV → MG → MU → Prop} {a : Int} : Wp E 134 23 ls (.inl a :: st) g μ Q = ((a = 0 → Wp E 134 57 ls st g μ Q) ∧ (¬ a = 0 → Wp E 134 26 ls st g μ Q)) := Wp_if_eq k134_23 (by decide)
theorem k134_26 : mCode 134 26 = some (.aload_n 0, 1) := by decide +kernel
theorem x134_26 {E : ME} {ls : MLs} {st : List MV} {g : MG} {μ : MU} {Q : Option MV → MG → MU → Prop} {v : Nat ⊕ Nat} : Wp E 134 26 (some (.inr (.inr v)) :: ls) st g μ Q = Wp E 134 27 (some (.inr (.inr v)) :: ls) (.inr (.inr v) :: st) g μ Q := Wp_nx k134_26 rfl
theorem k134_27 : mCode 134 27 = some (.getfield 192, 3) := by decide +kernel
theorem x134_27 {E : ME} {ls : MLs} {st : List MV} {g : MG} {μ : MU} {Q : Option MV → MG → MU → Prop} {a : Nat} : Wp E 134 27 ls (.inr (.inr (.inl a)) :: st) g μ Q = ((mKd g a).1 = 6 ∧ Wp E 134 30 ls (.inl (μ a 21) :: st) g μ Q) := Wp_getI k134_27 f6_192 (by decide) (by decide)
theorem k134_30 : mCode 134 30 = some (.aload_n 0, 1) := by decide +kernel
theorem x134_30 {E : ME} {ls : MLs} {st : List MV} {g : MG} {μ : MU} {Q : Option MV → MG → MU → Prop} {v : Nat ⊕ Nat} : Wp E 134 30 (some (.inr (.inr v)) :: ls) st g μ Q = Wp E 134 31 (some (.inr (.inr v)) :: ls) (.inr (.inr v) :: st) g μ Q := Wp_nx k134_30 rfl
theorem k134_31 : mCode 134 31 = some (.getfield 183, 3) := by decide +kernel
theorem x134_31 {E : ME} {ls : MLs} {st : List MV} {g : MG} {μ : MU} {Q : Option MV → MG → MU → Prop} {a : Nat} : Wp E 134 31 ls (.inr (.inr (.inl a)) :: st) g μ Q = ((mKd g a).1 = 6 ∧ Wp E 134 34 ls (.inl (μ a 7) :: st) g μ Q) := Wp_getI k134_31 f6_183 (by decide) (by decide)
theorem k134_34 : mCode 134 34 = some (.if_icmp .ge 23, 3) := by decide +kernel
theorem x134_34 {E : ME} {ls : MLs} {st : List MV} {g : MG} {μ : MU} {Q : Option MV → MG → MU → Prop} {a b : Int} : Wp E 134 34 ls (.inl b :: .inl a :: st) g μ Q = ((b ≤ a → Wp E 134 57 ls st g μ Q) ∧ (a < b → Wp E 134 37 ls st g μ Q)) := Wp_cmp_ge k134_34 (by decide)
theorem k134_37 : mCode 134 37 = some (.aload_n 0, 1) := by decide +kernel
theorem x134_37 {E : ME} {ls : MLs} {st : List MV} {g : MG} {μ : MU} {Q : Option MV → MG → MU → Prop} {v : Nat ⊕ Nat} : Wp E 134 37 (some (.inr (.inr v)) :: ls) st g μ Q = Wp E 134 38 (some (.inr (.inr v)) :: ls) (.inr (.inr v) :: st) g μ Q := Wp_nx k134_37 rfl
theorem k134_38 : mCode 134 38 = some (.bipush 59, 2) := by decide +kernel
theorem x134_38 {E : ME} {ls : MLs} {st : List MV} {g : MG} {μ : MU} {Q : Option MV → MG → MU → Prop} : Wp E 134 38 ls st g μ Q = Wp E 134 40 ls (.inl 59 :: st) g μ Q := Wp_nx k134_38 rfl
theorem k134_40 : mCode 134 40 = some (.invokevirtual 211, 3) := by decide +kernel
theorem x134_40 {E : ME} {ls : MLs} {st : List MV} {g : MG} {μ : MU} {Q : Option MV → MG → MU → Prop} {r : Nat} {a0 : Int} : Wp E 134 40 ls (.inl a0 :: .inr (.inr (.inl r)) :: st) g μ Q = ((st.length ≤ 4 ∧ ((mKd g r).1 == 6) = true) ∧ Wp E 130 0 [some (.inr (.inr (.inl r))), some (.inl a0)] [] g μ (fun r g' μ' => (g'.1 = g.1 ∧ g'.2.1 = g.2.1) ∧ Wp E 134 43 ls (mPush r st) g' μ' Q)) := Wp_cV k134_40 m6_211 (by decide) (as := [.inr (.inr (.inl r)), .inl a0]) rfl rfl rfl ⟨Nat.le_of_ble_eq_true rfl, by decide⟩
theorem k134_43 : mCode 134 43 = some (.aload_n 0, 1) := by decide +kernel
theorem x134_43 {E : ME} {ls : MLs} {st : List MV} {g : MG} {μ : MU} {Q : Option MV → MG → MU → Prop} {v : Nat ⊕ Nat} : Wp E 134 43 (some (.inr (.inr v)) :: ls) st g μ Q = Wp E 134 44 (some (.inr (.inr v)) :: ls) (.inr (.inr v) :: st) g μ Q := Wp_nx k134_43 rfl
theorem k134_44 : mCode 134 44 = some (.getfield 195, 3) := by decide +kernel
theorem x134_44 {E : ME} {ls : MLs} {st : List MV} {g : MG} {μ : MU} {Q : Option MV → MG → MU → Prop} {a : Nat} : Wp E 134 44 ls (.inr (.inr (.inl a)) :: st) g μ Q = ((mKd g a).1 = 6 ∧ Wp E 134 47 ls (.inl (μ a 22) :: st) g μ Q) := Wp_getI k134_44 f6_195 (by decide) (by decide)
theorem k134_47 : mCode 134 47 = some (.ifCond .eq (-28), 3) := by decide +kernel
theorem x134_47 {E : ME} {ls : MLs} {st : List MV} {g : MG} {μ : MU} {Q : Option MV → MG → MU → Prop} {a : Int} : Wp E 134 47 ls (.inl a :: st) g μ Q = ((a = 0 → Wp E 134 19 ls st g μ Q) ∧ (¬ a = 0 → Wp E 134 50 ls st g μ Q)) := Wp_if_eq k134_47 (by decide)
theorem k134_50 : mCode 134 50 = some (.aload_n 0, 1) := by decide +kernel
theorem x134_50 {E : ME} {ls : MLs} {st : List MV} {g : MG} {μ : MU} {Q : Option MV → MG → MU → Prop} {v : Nat ⊕ Nat} : Wp E 134 50 (some (.inr (.inr v)) :: ls) st g μ Q = Wp E 134 51 (some (.inr (.inr v)) :: ls) (.inr (.inr v) :: st) g μ Q := Wp_nx k134_50 rfl
theorem k134_51 : mCode 134 51 = some (.invokevirtual 214, 3) := by decide +kernel
theorem x134_51 {E : ME} {ls : MLs} {st : List MV} {g : MG} {μ : MU} {Q : Option MV → MG → MU → Prop} {r : Nat} : Wp E 134 51 ls (.inr (.inr (.inl r)) :: st) g μ Q = ((st.length ≤ 4 ∧ ((mKd g r).1 == 6) = true) ∧ Wp E 133 0 [some (.inr (.inr (.inl r))), none, none, none] [] g μ (fun r g' μ' => (g'.1 = g.1 ∧ g'.2.1 = g.2.1) ∧ Wp E 134 54 ls (mPush r st) g' μ' Q)) := Wp_cV k134_51 m6_214 (by decide) (as := [.inr (.inr (.inl r))]) rfl rfl rfl ⟨Nat.le_of_ble_eq_true rfl, by decide⟩
theorem k134_54 : mCode 134 54 = some (.goto (-35), 3) := by decide +kernel
theorem x134_54 {E : ME} {ls : MLs} {st : List MV} {g : MG} {μ : MU} {Q : Option MV → MG → MU → Prop} : Wp E 134 54 ls st g μ Q = Wp E 134 19 ls st g μ Q := Wp_goto k134_54 (by decide)
theorem k134_57 : mCode 134 57 = some (.aload_n 0, 1) := by decide +kernel
theorem x134_57 {E : ME} {ls : MLs} {st : List MV} {g : MG} {μ : MU} {Q : Option MV → MG → MU → Prop} {v : Nat ⊕ Nat} : Wp E 134 57 (some (.inr (.inr v)) :: ls) st g μ Q = Wp E 134 58 (some (.inr (.inr v)) :: ls) (.inr (.inr v) :: st) g μ Q := Wp_nx k134_57 rfl
theorem k134_58 : mCode 134 58 = some (.getfield 195, 3) := by decide +kernel
theorem x134_58 {E : ME} {ls : MLs} {st : List MV} {g : MG} {μ : MU} {Q : Option MV → MG → MU → Prop} {a : Nat} : Wp E 134 58 ls (.inr (.inr (.inl a)) :: st) g μ Q = ((mKd g a).1 = 6 ∧ Wp E 134 61 ls (.inl (μ a 22) :: st) g μ Q) := Wp_getI k134_58 f6_195 (by decide) (by decide)
theorem k134_61 : mCode 134 61 = some (.ifCond .eq 8, 3) := by decide +kernel
theorem x134_61 {E : ME} {ls : MLs} {st : List MV} {g : MG} {μ : MU} {Q : Option MV → MG → MU → Prop} {a : Int} : Wp E 134 61 ls (.inl a :: st) g μ Q = ((a = 0 → Wp E 134 69 ls st g μ Q) ∧ (¬ a = 0 → Wp E 134 64 ls st g μ Q)) := Wp_if_eq k134_61 (by decide)
theorem k134_64 : mCode 134 64 = some (.bipush (-6), 2) := by decide +kernel
theorem x134_64 {E : ME} {ls : MLs} {st : List MV} {g : MG} {μ : MU} {Q : Option MV → MG → MU → Prop} : Wp E 134 64 ls st g μ Q = Wp E 134 66 ls (.inl (-6) :: st) g μ Q := Wp_nx k134_64 rfl
theorem k134_66 : mCode 134 66 = some (.goto 7, 3) := by decide +kernel
theorem x134_66 {E : ME} {ls : MLs} {st : List MV} {g : MG} {μ : MU} {Q : Option MV → MG → MU → Prop} : Wp E 134 66 ls st g μ Q = Wp E 134 73 ls st g μ Q := Wp_goto k134_66 (by decide)
theorem k134_69 : mCode 134 69 = some (.aload_n 0, 1) := by decide +kernel
theorem x134_69 {E : ME} {ls : MLs} {st : List MV} {g : MG} {μ : MU} {Q : Option MV → MG → MU → Prop} {v : Nat ⊕ Nat} : Wp E 134 69 (some (.inr (.inr v)) :: ls) st g μ Q = Wp E 134 70 (some (.inr (.inr v)) :: ls) (.inr (.inr v) :: st) g μ Q := Wp_nx k134_69 rfl
theorem k134_70 : mCode 134 70 = some (.getfield 192, 3) := by decide +kernel
theorem x134_70 {E : ME} {ls : MLs} {st : List MV} {g : MG} {μ : MU} {Q : Option MV → MG → MU → Prop} {a : Nat} : Wp E 134 70 ls (.inr (.inr (.inl a)) :: st) g μ Q = ((mKd g a).1 = 6 ∧ Wp E 134 73 ls (.inl (μ a 21) :: st) g μ Q) := Wp_getI k134_70 f6_192 (by decide) (by decide)
theorem k134_73 : mCode 134 73 = some (.ireturn, 1) := by decide +kernel
theorem x134_73 {E : ME} {ls : MLs} {g : MG} {μ : MU} {Q : Option MV → MG → MU → Prop} {v : Int} : Wp E 134 73 ls [.inl v] g μ Q = Q (some (.inl v)) g μ := Wp_retI k134_73 (by decide)
theorem k135_0 : mCode 135 0 = some (.aload_n 0, 1) := by decide +kernel
theorem x135_0 {E : ME} {ls : MLs} {st : List MV} {g : MG} {μ : MU} {Q : Option MV → MG → MU → Prop} {v : Nat ⊕ Nat} : Wp E 135 0 (some (.inr (.inr v)) :: ls) st g μ Q = Wp E 135 1 (some (.inr (.inr v)) :: ls) (.inr (.inr v) :: st) g μ Q := Wp_nx k135_0 rfl
theorem k135_1 : mCode 135 1 = some (.iconst 0, 1) := by decide +kernel
theorem x135_1 {E : ME} {ls : MLs} {st : List MV} {g : MG} {μ : MU} {Q : Option MV → MG → MU → Prop} : Wp E 135 1 ls st g μ Q = Wp E 135 2 ls (.inl 0 :: st) g μ Q := Wp_nx k135_1 rfl
theorem k135_2 : mCode 135 2 = some (.putfield 65, 3) := by decide +kernel
theorem x135_2 {E : ME} {ls : MLs} {st : List MV} {g : MG} {μ : MU} {Q : Option MV → MG → MU → Prop} {a : Nat} {v : Int} : Wp E 135 2 ls (.inl v :: .inr (.inr (.inl a)) :: st) g μ Q = ((mKd g a).1 = 6 ∧ Wp E 135 5 ls st g (mUp μ a 0 v) Q) := Wp_putI0 k135_2 f6_65 (by decide) (by decide)
theorem k135_5 : mCode 135 5 = some (.aload_n 0, 1) := by decide +kernel
theorem x135_5 {E : ME} {ls : MLs} {st : List MV} {g : MG} {μ : MU} {Q : Option MV → MG → MU → Prop} {v : Nat ⊕ Nat} : Wp E 135 5 (some (.inr (.inr v)) :: ls) st g μ Q = Wp E 135 6 (some (.inr (.inr v)) :: ls) (.inr (.inr v) :: st) g μ Q := Wp_nx k135_5 rfl
theorem k135_6 : mCode 135 6 = some (.invokevirtual 217, 3) := by decide +kernel
theorem x135_6 {E : ME} {ls : MLs} {st : List MV} {g : MG} {μ : MU} {Q : Option MV → MG → MU → Prop} {r : Nat} : Wp E 135 6 ls (.inr (.inr (.inl r)) :: st) g μ Q = ((st.length ≤ 4 ∧ ((mKd g r).1 == 6) = true) ∧ Wp E 134 0 [some (.inr (.inr (.inl r)))] [] g μ (fun r g' μ' => (g'.1 = g.1 ∧ g'.2.1 = g.2.1) ∧ Wp E 135 9 ls (mPush r st) g' μ' Q)) := Wp_cV k135_6 m6_217 (by decide) (as := [.inr (.inr (.inl r))]) rfl rfl rfl ⟨Nat.le_of_ble_eq_true rfl, by decide⟩
theorem k135_9 : mCode 135 9 = some (.ireturn, 1) := by decide +kernel
theorem x135_9 {E : ME} {ls : MLs} {g : MG} {μ : MU} {Q : Option MV → MG → MU → Prop} {v : Int} : Wp E 135 9 ls [.inl v] g μ Q = Q (some (.inl v)) g μ := Wp_retI k135_9 (by decide)
theorem k136_0 : mCode 136 0 = some (.aload_n 0, 1) := by decide +kernel
theorem x136_0 {E : ME} {ls : MLs} {st : List MV} {g : MG} {μ : MU} {Q : Option MV → MG → MU → Prop} {v : Nat ⊕ Nat} : Wp E 136 0 (some (.inr (.inr v)) :: ls) st g μ Q = Wp E 136 1 (some (.inr (.inr v)) :: ls) (.inr (.inr v) :: st) g μ Q := Wp_nx k136_0 rfl
theorem k136_1 : mCode 136 1 = some (.getfield 62, 3) := by decide +kernel
theorem x136_1 {E : ME} {ls : MLs} {st : List MV} {g : MG} {μ : MU} {Q : Option MV → MG → MU → Prop} {a : Nat} : Wp E 136 1 ls (.inr (.inr (.inl a)) :: st) g μ Q = ((mKd g a).1 = 6 ∧ Wp E 136 4 ls (mRv (mRf g a 23) :: st) g μ Q) := Wp_getR k136_1 f6_62 (by decide) (by decide)
theorem k136_4 : mCode 136 4 = some (.iload_n 1, 1) := by decide +kernel
theorem x136_4 {E : ME} {ls : MLs} {st : List MV} {g : MG} {μ : MU} {Q : Option MV → MG → MU → Prop} {l0 : Option MV} {v : Int} : Wp E 136 4 (l0 :: some (.inl v) :: ls) st g μ Q = Wp E 136 5 (l0 :: some (.inl v) :: ls) (.inl v :: st) g μ Q := Wp_nx k136_4 rfl
theorem k136_5 : mCode 136 5 = some (.iaload, 1) := by decide +kernel
theorem x136_5 {E : ME} {ls : MLs} {st : List MV} {g : MG} {μ : MU} {Q : Option MV → MG → MU → Prop} {a : Nat} {j : Int} : Wp E 136 5 ls (.inl j :: .inr (.inr (.inl a)) :: st) g μ Q = (((mKd g a).1 = 10 ∧ 0 ≤ j ∧ j < (mKd g a).2) ∧ Wp E 136 6 ls (.inl (μ a j.toNat) :: st) g μ Q) := Wp_ald k136_5 (fun _ => rfl)
theorem k136_6 : mCode 136 6 = some (.lookupswitch 165 #[(102, 42), (115, 71), (116, 136), (119, 108)], 42) := by decide +kernel
theorem x136_6_102 {E : ME} {ls : MLs} {st : List MV} {g : MG} {μ : MU} {Q : Option MV → MG → MU → Prop} : Wp E 136 6 ls (.inl 102 :: st) g μ Q = Wp E 136 48 ls st g μ Q := Wp_nx k136_6 rfl
theorem x136_6_115 {E : ME} {ls : MLs} {st : List MV} {g : MG} {μ : MU} {Q : Option MV → MG → MU → Prop} : Wp E 136 6 ls (.inl 115 :: st) g μ Q = Wp E 136 77 ls st g μ Q := Wp_nx k136_6 rfl
theorem x136_6_116 {E : ME} {ls : MLs} {st : List MV} {g : MG} {μ : MU} {Q : Option MV → MG → MU → Prop} : Wp E 136 6 ls (.inl 116 :: st) g μ Q = Wp E 136 142 ls st g μ Q := Wp_nx k136_6 rfl
theorem x136_6_119 {E : ME} {ls : MLs} {st : List MV} {g : MG} {μ : MU} {Q : Option MV → MG → MU → Prop} : Wp E 136 6 ls (.inl 119 :: st) g μ Q = Wp E 136 114 ls st g μ Q := Wp_nx k136_6 rfl
theorem x136_6_d {E : ME} {ls : MLs} {st : List MV} {g : MG} {μ : MU} {Q : Option MV → MG → MU → Prop} {a : Int} (h : ¬ a = 102 ∧ ¬ a = 115 ∧ ¬ a = 116 ∧ ¬ a = 119) : Wp E 136 6 ls (.inl a :: st) g μ Q = Wp E 136 171 ls st g μ Q := Wp_lsw (off := 165) k136_6 (by decide) (by simp [Op.lookupswitch.offset]; omega) (by decide)
theorem k136_48 : mCode 136 48 = some (.aload_n 0, 1) := by decide +kernel
theorem x136_48 {E : ME} {ls : MLs} {st : List MV} {g : MG} {μ : MU} {Q : Option MV → MG → MU → Prop} {v : Nat ⊕ Nat} : Wp E 136 48 (some (.inr (.inr v)) :: ls) st g μ Q = Wp E 136 49 (some (.inr (.inr v)) :: ls) (.inr (.inr v) :: st) g μ Q := Wp_nx k136_48 rfl
theorem k136_49 : mCode 136 49 = some (.aload_n 0, 1) := by decide +kernel
theorem x136_49 {E : ME} {ls : MLs} {st : List MV} {g : MG} {μ : MU} {Q : Option MV → MG → MU → Prop} {v : Nat ⊕ Nat} : Wp E 136 49 (some (.inr (.inr v)) :: ls) st g μ Q = Wp E 136 50 (some (.inr (.inr v)) :: ls) (.inr (.inr v) :: st) g μ Q := Wp_nx k136_49 rfl
theorem k136_50 : mCode 136 50 = some (.getfield 62, 3) := by decide +kernel
theorem x136_50 {E : ME} {ls : MLs} {st : List MV} {g : MG} {μ : MU} {Q : Option MV → MG → MU → Prop} {a : Nat} : Wp E 136 50 ls (.inr (.inr (.inl a)) :: st) g μ Q = ((mKd g a).1 = 6 ∧ Wp E 136 53 ls (mRv (mRf g a 23) :: st) g μ Q) := Wp_getR k136_50 f6_62 (by decide) (by decide)
theorem k136_53 : mCode 136 53 = some (.iload_n 1, 1) := by decide +kernel
theorem x136_53 {E : ME} {ls : MLs} {st : List MV} {g : MG} {μ : MU} {Q : Option MV → MG → MU → Prop} {l0 : Option MV} {v : Int} : Wp E 136 53 (l0 :: some (.inl v) :: ls) st g μ Q = Wp E 136 54 (l0 :: some (.inl v) :: ls) (.inl v :: st) g μ Q := Wp_nx k136_53 rfl
theorem k136_54 : mCode 136 54 = some (.iconst 1, 1) := by decide +kernel
theorem x136_54 {E : ME} {ls : MLs} {st : List MV} {g : MG} {μ : MU} {Q : Option MV → MG → MU → Prop} : Wp E 136 54 ls st g μ Q = Wp E 136 55 ls (.inl 1 :: st) g μ Q := Wp_nx k136_54 rfl
theorem k136_55 : mCode 136 55 = some (.iadd, 1) := by decide +kernel
theorem x136_55 {E : ME} {ls : MLs} {st : List MV} {g : MG} {μ : MU} {Q : Option MV → MG → MU → Prop} {a b : Int} : Wp E 136 55 ls (.inl b :: .inl a :: st) g μ Q = Wp E 136 56 ls (.inl (mWr (a + b)) :: st) g μ Q := Wp_nx k136_55 rfl
theorem k136_56 : mCode 136 56 = some (.iaload, 1) := by decide +kernel
theorem x136_56 {E : ME} {ls : MLs} {st : List MV} {g : MG} {μ : MU} {Q : Option MV → MG → MU → Prop} {a : Nat} {j : Int} : Wp E 136 56 ls (.inl j :: .inr (.inr (.inl a)) :: st) g μ Q = (((mKd g a).1 = 10 ∧ 0 ≤ j ∧ j < (mKd g a).2) ∧ Wp E 136 57 ls (.inl (μ a j.toNat) :: st) g μ Q) := Wp_ald k136_56 (fun _ => rfl)
theorem k136_57 : mCode 136 57 = some (.aload_n 0, 1) := by decide +kernel
theorem x136_57 {E : ME} {ls : MLs} {st : List MV} {g : MG} {μ : MU} {Q : Option MV → MG → MU → Prop} {v : Nat ⊕ Nat} : Wp E 136 57 (some (.inr (.inr v)) :: ls) st g μ Q = Wp E 136 58 (some (.inr (.inr v)) :: ls) (.inr (.inr v) :: st) g μ Q := Wp_nx k136_57 rfl
theorem k136_58 : mCode 136 58 = some (.getfield 62, 3) := by decide +kernel
theorem x136_58 {E : ME} {ls : MLs} {st : List MV} {g : MG} {μ : MU} {Q : Option MV → MG → MU → Prop} {a : Nat} : Wp E 136 58 ls (.inr (.inr (.inl a)) :: st) g μ Q = ((mKd g a).1 = 6 ∧ Wp E 136 61 ls (mRv (mRf g a 23) :: st) g μ Q) := Wp_getR k136_58 f6_62 (by decide) (by decide)
theorem k136_61 : mCode 136 61 = some (.iload_n 1, 1) := by decide +kernel
theorem x136_61 {E : ME} {ls : MLs} {st : List MV} {g : MG} {μ : MU} {Q : Option MV → MG → MU → Prop} {l0 : Option MV} {v : Int} : Wp E 136 61 (l0 :: some (.inl v) :: ls) st g μ Q = Wp E 136 62 (l0 :: some (.inl v) :: ls) (.inl v :: st) g μ Q := Wp_nx k136_61 rfl
theorem k136_62 : mCode 136 62 = some (.iconst 2, 1) := by decide +kernel
theorem x136_62 {E : ME} {ls : MLs} {st : List MV} {g : MG} {μ : MU} {Q : Option MV → MG → MU → Prop} : Wp E 136 62 ls st g μ Q = Wp E 136 63 ls (.inl 2 :: st) g μ Q := Wp_nx k136_62 rfl
theorem k136_63 : mCode 136 63 = some (.iadd, 1) := by decide +kernel
theorem x136_63 {E : ME} {ls : MLs} {st : List MV} {g : MG} {μ : MU} {Q : Option MV → MG → MU → Prop} {a b : Int} : Wp E 136 63 ls (.inl b :: .inl a :: st) g μ Q = Wp E 136 64 ls (.inl (mWr (a + b)) :: st) g μ Q := Wp_nx k136_63 rfl
theorem k136_64 : mCode 136 64 = some (.iaload, 1) := by decide +kernel
theorem x136_64 {E : ME} {ls : MLs} {st : List MV} {g : MG} {μ : MU} {Q : Option MV → MG → MU → Prop} {a : Nat} {j : Int} : Wp E 136 64 ls (.inl j :: .inr (.inr (.inl a)) :: st) g μ Q = (((mKd g a).1 = 10 ∧ 0 ≤ j ∧ j < (mKd g a).2) ∧ Wp E 136 65 ls (.inl (μ a j.toNat) :: st) g μ Q) := Wp_ald k136_64 (fun _ => rfl)
theorem k136_65 : mCode 136 65 = some (.aload_n 0, 1) := by decide +kernel
theorem x136_65 {E : ME} {ls : MLs} {st : List MV} {g : MG} {μ : MU} {Q : Option MV → MG → MU → Prop} {v : Nat ⊕ Nat} : Wp E 136 65 (some (.inr (.inr v)) :: ls) st g μ Q = Wp E 136 66 (some (.inr (.inr v)) :: ls) (.inr (.inr v) :: st) g μ Q := Wp_nx k136_65 rfl
theorem k136_66 : mCode 136 66 = some (.getfield 62, 3) := by decide +kernel
theorem x136_66 {E : ME} {ls : MLs} {st : List MV} {g : MG} {μ : MU} {Q : Option MV → MG → MU → Prop} {a : Nat} : Wp E 136 66 ls (.inr (.inr (.inl a)) :: st) g μ Q = ((mKd g a).1 = 6 ∧ Wp E 136 69 ls (mRv (mRf g a 23) :: st) g μ Q) := Wp_getR k136_66 f6_62 (by decide) (by decide)
theorem k136_69 : mCode 136 69 = some (.iload_n 1, 1) := by decide +kernel
theorem x136_69 {E : ME} {ls : MLs} {st : List MV} {g : MG} {μ : MU} {Q : Option MV → MG → MU → Prop} {l0 : Option MV} {v : Int} : Wp E 136 69 (l0 :: some (.inl v) :: ls) st g μ Q = Wp E 136 70 (l0 :: some (.inl v) :: ls) (.inl v :: st) g μ Q := Wp_nx k136_69 rfl
theorem k136_70 : mCode 136 70 = some (.iconst 3, 1) := by decide +kernel
theorem x136_70 {E : ME} {ls : MLs} {st : List MV} {g : MG} {μ : MU} {Q : Option MV → MG → MU → Prop} : Wp E 136 70 ls st g μ Q = Wp E 136 71 ls (.inl 3 :: st) g μ Q := Wp_nx k136_70 rfl
theorem k136_71 : mCode 136 71 = some (.iadd, 1) := by decide +kernel
theorem x136_71 {E : ME} {ls : MLs} {st : List MV} {g : MG} {μ : MU} {Q : Option MV → MG → MU → Prop} {a b : Int} : Wp E 136 71 ls (.inl b :: .inl a :: st) g μ Q = Wp E 136 72 ls (.inl (mWr (a + b)) :: st) g μ Q := Wp_nx k136_71 rfl
theorem k136_72 : mCode 136 72 = some (.iaload, 1) := by decide +kernel
theorem x136_72 {E : ME} {ls : MLs} {st : List MV} {g : MG} {μ : MU} {Q : Option MV → MG → MU → Prop} {a : Nat} {j : Int} : Wp E 136 72 ls (.inl j :: .inr (.inr (.inl a)) :: st) g μ Q = (((mKd g a).1 = 10 ∧ 0 ≤ j ∧ j < (mKd g a).2) ∧ Wp E 136 73 ls (.inl (μ a j.toNat) :: st) g μ Q) := Wp_ald k136_72 (fun _ => rfl)
theorem k136_73 : mCode 136 73 = some (.invokevirtual 127, 3) := by decide +kernel
theorem x136_73 {E : ME} {ls : MLs} {st : List MV} {g : MG} {μ : MU} {Q : Option MV → MG → MU → Prop} {r : Nat} {a0 : Int} {a1 : Int} {a2 : Int} : Wp E 136 73 ls (.inl a2 :: .inl a1 :: .inl a0 :: .inr (.inr (.inl r)) :: st) g μ Q = ((st.length ≤ 4 ∧ ((mKd g r).1 == 6) = true) ∧ Wp E 97 0 [some (.inr (.inr (.inl r))), some (.inl a0), some (.inl a1), some (.inl a2)] [] g μ (fun r g' μ' => (g'.1 = g.1 ∧ g'.2.1 = g.2.1) ∧ Wp E 136 76 ls (mPush r st) g' μ' Q)) := Wp_cV k136_73 m6_127 (by decide) (as := [.inr (.inr (.inl r)), .inl a0, .inl a1, .inl a2]) rfl rfl rfl ⟨Nat.le_of_ble_eq_true rfl, by decide⟩
theorem k136_76 : mCode 136 76 = some (.ireturn, 1) := by decide +kernel
theorem x136_76 {E : ME} {ls : MLs} {g : MG} {μ : MU} {Q : Option MV → MG → MU → Prop} {v : Int} : Wp E 136 76 ls [.inl v] g μ Q = Q (some (.inl v)) g μ := Wp_retI k136_76 (by decide)
theorem k136_77 : mCode 136 77 = some (.aload_n 0, 1) := by decide +kernel
theorem x136_77 {E : ME} {ls : MLs} {st : List MV} {g : MG} {μ : MU} {Q : Option MV → MG → MU → Prop} {v : Nat ⊕ Nat} : Wp E 136 77 (some (.inr (.inr v)) :: ls) st g μ Q = Wp E 136 78 (some (.inr (.inr v)) :: ls) (.inr (.inr v) :: st) g μ Q := Wp_nx k136_77 rfl
theorem k136_78 : mCode 136 78 = some (.aload_n 0, 1) := by decide +kernel
theorem x136_78 {E : ME} {ls : MLs} {st : List MV} {g : MG} {μ : MU} {Q : Option MV → MG → MU → Prop} {v : Nat ⊕ Nat} : Wp E 136 78 (some (.inr (.inr v)) :: ls) st g μ Q = Wp E 136 79 (some (.inr (.inr v)) :: ls) (.inr (.inr v) :: st) g μ Q := Wp_nx k136_78 rfl
theorem k136_79 : mCode 136 79 = some (.getfield 62, 3) := by decide +kernel
theorem x136_79 {E : ME} {ls : MLs} {st : List MV} {g : MG} {μ : MU} {Q : Option MV → MG → MU → Prop} {a : Nat} : Wp E 136 79 ls (.inr (.inr (.inl a)) :: st) g μ Q = ((mKd g a).1 = 6 ∧ Wp E 136 82 ls (mRv (mRf g a 23) :: st) g μ Q) := Wp_getR k136_79 f6_62 (by decide) (by decide)
theorem k136_82 : mCode 136 82 = some (.iload_n 1, 1) := by decide +kernel
theorem x136_82 {E : ME} {ls : MLs} {st : List MV} {g : MG} {μ : MU} {Q : Option MV → MG → MU → Prop} {l0 : Option MV} {v : Int} : Wp E 136 82 (l0 :: some (.inl v) :: ls) st g μ Q = Wp E 136 83 (l0 :: some (.inl v) :: ls) (.inl v :: st) g μ Q := Wp_nx k136_82 rfl
theorem k136_83 : mCode 136 83 = some (.iconst 1, 1) := by decide +kernel
theorem x136_83 {E : ME} {ls : MLs} {st : List MV} {g : MG} {μ : MU} {Q : Option MV → MG → MU → Prop} : Wp E 136 83 ls st g μ Q = Wp E 136 84 ls (.inl 1 :: st) g μ Q := Wp_nx k136_83 rfl
theorem k136_84 : mCode 136 84 = some (.iadd, 1) := by decide +kernel
theorem x136_84 {E : ME} {ls : MLs} {st : List MV} {g : MG} {μ : MU} {Q : Option MV → MG → MU → Prop} {a b : Int} : Wp E 136 84 ls (.inl b :: .inl a :: st) g μ Q = Wp E 136 85 ls (.inl (mWr (a + b)) :: st) g μ Q := Wp_nx k136_84 rfl
theorem k136_85 : mCode 136 85 = some (.iaload, 1) := by decide +kernel
theorem x136_85 {E : ME} {ls : MLs} {st : List MV} {g : MG} {μ : MU} {Q : Option MV → MG → MU → Prop} {a : Nat} {j : Int} : Wp E 136 85 ls (.inl j :: .inr (.inr (.inl a)) :: st) g μ Q = (((mKd g a).1 = 10 ∧ 0 ≤ j ∧ j < (mKd g a).2) ∧ Wp E 136 86 ls (.inl (μ a j.toNat) :: st) g μ Q) := Wp_ald k136_85 (fun _ => rfl)
theorem k136_86 : mCode 136 86 = some (.aload_n 0, 1) := by decide +kernel
theorem x136_86 {E : ME} {ls : MLs} {st : List MV} {g : MG} {μ : MU} {Q : Option MV → MG → MU → Prop} {v : Nat ⊕ Nat} : Wp E 136 86 (some (.inr (.inr v)) :: ls) st g μ Q = Wp E 136 87 (some (.inr (.inr v)) :: ls) (.inr (.inr v) :: st) g μ Q := Wp_nx k136_86 rfl
theorem k136_87 : mCode 136 87 = some (.getfield 62, 3) := by decide +kernel
theorem x136_87 {E : ME} {ls : MLs} {st : List MV} {g : MG} {μ : MU} {Q : Option MV → MG → MU → Prop} {a : Nat} : Wp E 136 87 ls (.inr (.inr (.inl a)) :: st) g μ Q = ((mKd g a).1 = 6 ∧ Wp E 136 90 ls (mRv (mRf g a 23) :: st) g μ Q) := Wp_getR k136_87 f6_62 (by decide) (by decide)
theorem k136_90 : mCode 136 90 = some (.iload_n 1, 1) := by decide +kernel
theorem x136_90 {E : ME} {ls : MLs} {st : List MV} {g : MG} {μ : MU} {Q : Option MV → MG → MU → Prop} {l0 : Option MV} {v : Int} : Wp E 136 90 (l0 :: some (.inl v) :: ls) st g μ Q = Wp E 136 91 (l0 :: some (.inl v) :: ls) (.inl v :: st) g μ Q := Wp_nx k136_90 rfl
theorem k136_91 : mCode 136 91 = some (.iconst 2, 1) := by decide +kernel
theorem x136_91 {E : ME} {ls : MLs} {st : List MV} {g : MG} {μ : MU} {Q : Option MV → MG → MU → Prop} : Wp E 136 91 ls st g μ Q = Wp E 136 92 ls (.inl 2 :: st) g μ Q := Wp_nx k136_91 rfl
theorem k136_92 : mCode 136 92 = some (.iadd, 1) := by decide +kernel
theorem x136_92 {E : ME} {ls : MLs} {st : List MV} {g : MG} {μ : MU} {Q : Option MV → MG → MU → Prop} {a b : Int} : Wp E 136 92 ls (.inl b :: .inl a :: st) g μ Q = Wp E 136 93 ls (.inl (mWr (a + b)) :: st) g μ Q := Wp_nx k136_92 rfl
theorem k136_93 : mCode 136 93 = some (.iaload, 1) := by decide +kernel
theorem x136_93 {E : ME} {ls : MLs} {st : List MV} {g : MG} {μ : MU} {Q : Option MV → MG → MU → Prop} {a : Nat} {j : Int} : Wp E 136 93 ls (.inl j :: .inr (.inr (.inl a)) :: st) g μ Q = (((mKd g a).1 = 10 ∧ 0 ≤ j ∧ j < (mKd g a).2) ∧ Wp E 136 94 ls (.inl (μ a j.toNat) :: st) g μ Q) := Wp_ald k136_93 (fun _ => rfl)
theorem k136_94 : mCode 136 94 = some (.aload_n 0, 1) := by decide +kernel
theorem x136_94 {E : ME} {ls : MLs} {st : List MV} {g : MG} {μ : MU} {Q : Option MV → MG → MU → Prop} {v : Nat ⊕ Nat} : Wp E 136 94 (some (.inr (.inr v)) :: ls) st g μ Q = Wp E 136 95 (some (.inr (.inr v)) :: ls) (.inr (.inr v) :: st) g μ Q := Wp_nx k136_94 rfl
theorem k136_95 : mCode 136 95 = some (.getfield 62, 3) := by decide +kernel
theorem x136_95 {E : ME} {ls : MLs} {st : List MV} {g : MG} {μ : MU} {Q : Option MV → MG → MU → Prop} {a : Nat} : Wp E 136 95 ls (.inr (.inr (.inl a)) :: st) g μ Q = ((mKd g a).1 = 6 ∧ Wp E 136 98 ls (mRv (mRf g a 23) :: st) g μ Q) := Wp_getR k136_95 f6_62 (by decide) (by decide)
theorem k136_98 : mCode 136 98 = some (.iload_n 1, 1) := by decide +kernel
theorem x136_98 {E : ME} {ls : MLs} {st : List MV} {g : MG} {μ : MU} {Q : Option MV → MG → MU → Prop} {l0 : Option MV} {v : Int} : Wp E 136 98 (l0 :: some (.inl v) :: ls) st g μ Q = Wp E 136 99 (l0 :: some (.inl v) :: ls) (.inl v :: st) g μ Q := Wp_nx k136_98 rfl
theorem k136_99 : mCode 136 99 = some (.iconst 3, 1) := by decide +kernel
theorem x136_99 {E : ME} {ls : MLs} {st : List MV} {g : MG} {μ : MU} {Q : Option MV → MG → MU → Prop} : Wp E 136 99 ls st g μ Q = Wp E 136 100 ls (.inl 3 :: st) g μ Q := Wp_nx k136_99 rfl
theorem k136_100 : mCode 136 100 = some (.iadd, 1) := by decide +kernel
theorem x136_100 {E : ME} {ls : MLs} {st : List MV} {g : MG} {μ : MU} {Q : Option MV → MG → MU → Prop} {a b : Int} : Wp E 136 100 ls (.inl b :: .inl a :: st) g μ Q = Wp E 136 101 ls (.inl (mWr (a + b)) :: st) g μ Q := Wp_nx k136_100 rfl
theorem k136_101 : mCode 136 101 = some (.iaload, 1) := by decide +kernel
theorem x136_101 {E : ME} {ls : MLs} {st : List MV} {g : MG} {μ : MU} {Q : Option MV → MG → MU → Prop} {a : Nat} {j : Int} : Wp E 136 101 ls (.inl j :: .inr (.inr (.inl a)) :: st) g μ Q = (((mKd g a).1 = 10 ∧ 0 ≤ j ∧ j < (mKd g a).2) ∧ Wp E 136 102 ls (.inl (μ a j.toNat) :: st) g μ Q) := Wp_ald k136_101 (fun _ => rfl)
theorem k136_102 : mCode 136 102 = some (.aload_n 0, 1) := by decide +kernel
theorem x136_102 {E : ME} {ls : MLs} {st : List MV} {g : MG} {μ : MU} {Q : Option MV → MG → MU → Prop} {v : Nat ⊕ Nat} : Wp E 136 102 (some (.inr (.inr v)) :: ls) st g μ Q = Wp E 136 103 (some (.inr (.inr v)) :: ls) (.inr (.inr v) :: st) g μ Q := Wp_nx k136_102 rfl
theorem k136_103 : mCode 136 103 = some (.getfield 62, 3) := by decide +kernel
theorem x136_103 {E : ME} {ls : MLs} {st : List MV} {g : MG} {μ : MU} {Q : Option MV → MG → MU → Prop} {a : Nat} : Wp E 136 103 ls (.inr (.inr (.inl a)) :: st) g μ Q = ((mKd g a).1 = 6 ∧ Wp E 136 106 ls (mRv (mRf g a 23) :: st) g μ Q) := Wp_getR k136_103 f6_62 (by decide) (by decide)
theorem k136_106 : mCode 136 106 = some (.iload_n 1, 1) := by decide +kernel
theorem x136_106 {E : ME} {ls : MLs} {st : List MV} {g : MG} {μ : MU} {Q : Option MV → MG → MU → Prop} {l0 : Option MV} {v : Int} : Wp E 136 106 (l0 :: some (.inl v) :: ls) st g μ Q = Wp E 136 107 (l0 :: some (.inl v) :: ls) (.inl v :: st) g μ Q := Wp_nx k136_106 rfl
theorem k136_107 : mCode 136 107 = some (.iconst 4, 1) := by decide +kernel
theorem x136_107 {E : ME} {ls : MLs} {st : List MV} {g : MG} {μ : MU} {Q : Option MV → MG → MU → Prop} : Wp E 136 107 ls st g μ Q = Wp E 136 108 ls (.inl 4 :: st) g μ Q := Wp_nx k136_107 rfl
theorem k136_108 : mCode 136 108 = some (.iadd, 1) := by decide +kernel
theorem x136_108 {E : ME} {ls : MLs} {st : List MV} {g : MG} {μ : MU} {Q : Option MV → MG → MU → Prop} {a b : Int} : Wp E 136 108 ls (.inl b :: .inl a :: st) g μ Q = Wp E 136 109 ls (.inl (mWr (a + b)) :: st) g μ Q := Wp_nx k136_108 rfl
theorem k136_109 : mCode 136 109 = some (.iaload, 1) := by decide +kernel
theorem x136_109 {E : ME} {ls : MLs} {st : List MV} {g : MG} {μ : MU} {Q : Option MV → MG → MU → Prop} {a : Nat} {j : Int} : Wp E 136 109 ls (.inl j :: .inr (.inr (.inl a)) :: st) g μ Q = (((mKd g a).1 = 10 ∧ 0 ≤ j ∧ j < (mKd g a).2) ∧ Wp E 136 110 ls (.inl (μ a j.toNat) :: st) g μ Q) := Wp_ald k136_109 (fun _ => rfl)
theorem k136_110 : mCode 136 110 = some (.invokevirtual 139, 3) := by decide +kernel
theorem x136_110 {E : ME} {ls : MLs} {st : List MV} {g : MG} {μ : MU} {Q : Option MV → MG → MU → Prop} {r : Nat} {a0 : Int} {a1 : Int} {a2 : Int} {a3 : Int} : Wp E 136 110 ls (.inl a3 :: .inl a2 :: .inl a1 :: .inl a0 :: .inr (.inr (.inl r)) :: st) g μ Q = ((st.length ≤ 4 ∧ ((mKd g r).1 == 6) = true) ∧ Wp E 103 0 [some (.inr (.inr (.inl r))), some (.inl a0), some (.inl a1), some (.inl a2), some (.inl a3)] [] g μ (fun r g' μ' => (g'.1 = g.1 ∧ g'.2.1 = g.2.1) ∧ Wp E 136 113 ls (mPush r st) g' μ' Q)) := Wp_cV k136_110 m6_139 (by decide) (as := [.inr (.inr (.inl r)), .inl a0, .inl a1, .inl a2, .inl a3]) rfl rfl rfl ⟨Nat.le_of_ble_eq_true rfl, by decide⟩
theorem k136_113 : mCode 136 113 = some (.ireturn, 1) := by decide +kernel
theorem x136_113 {E : ME} {ls : MLs} {g : MG} {μ : MU} {Q : Option MV → MG → MU → Prop} {v : Int} : Wp E 136 113 ls [.inl v] g μ Q = Q (some (.inl v)) g μ := Wp_retI k136_113 (by decide)
theorem k136_114 : mCode 136 114 = some (.aload_n 0, 1) := by decide +kernel
theorem x136_114 {E : ME} {ls : MLs} {st : List MV} {g : MG} {μ : MU} {Q : Option MV → MG → MU → Prop} {v : Nat ⊕ Nat} : Wp E 136 114 (some (.inr (.inr v)) :: ls) st g μ Q = Wp E 136 115 (some (.inr (.inr v)) :: ls) (.inr (.inr v) :: st) g μ Q := Wp_nx k136_114 rfl
theorem k136_115 : mCode 136 115 = some (.getfield 62, 3) := by decide +kernel
theorem x136_115 {E : ME} {ls : MLs} {st : List MV} {g : MG} {μ : MU} {Q : Option MV → MG → MU → Prop} {a : Nat} : Wp E 136 115 ls (.inr (.inr (.inl a)) :: st) g μ Q = ((mKd g a).1 = 6 ∧ Wp E 136 118 ls (mRv (mRf g a 23) :: st) g μ Q) := Wp_getR k136_115 f6_62 (by decide) (by decide)
theorem k136_118 : mCode 136 118 = some (.iload_n 1, 1) := by decide +kernel
theorem x136_118 {E : ME} {ls : MLs} {st : List MV} {g : MG} {μ : MU} {Q : Option MV → MG → MU → Prop} {l0 : Option MV} {v : Int} : Wp E 136 118 (l0 :: some (.inl v) :: ls) st g μ Q = Wp E 136 119 (l0 :: some (.inl v) :: ls) (.inl v :: st) g μ Q := Wp_nx k136_118 rfl
theorem k136_119 : mCode 136 119 = some (.iconst 1, 1) := by decide +kernel
theorem x136_119 {E : ME} {ls : MLs} {st : List MV} {g : MG} {μ : MU} {Q : Option MV → MG → MU → Prop} : Wp E 136 119 ls st g μ Q = Wp E 136 120 ls (.inl 1 :: st) g μ Q := Wp_nx k136_119 rfl
theorem k136_120 : mCode 136 120 = some (.iadd, 1) := by decide +kernel
theorem x136_120 {E : ME} {ls : MLs} {st : List MV} {g : MG} {μ : MU} {Q : Option MV → MG → MU → Prop} {a b : Int} : Wp E 136 120 ls (.inl b :: .inl a :: st) g μ Q = Wp E 136 121 ls (.inl (mWr (a + b)) :: st) g μ Q := Wp_nx k136_120 rfl
theorem k136_121 : mCode 136 121 = some (.iaload, 1) := by decide +kernel
theorem x136_121 {E : ME} {ls : MLs} {st : List MV} {g : MG} {μ : MU} {Q : Option MV → MG → MU → Prop} {a : Nat} {j : Int} : Wp E 136 121 ls (.inl j :: .inr (.inr (.inl a)) :: st) g μ Q = (((mKd g a).1 = 10 ∧ 0 ≤ j ∧ j < (mKd g a).2) ∧ Wp E 136 122 ls (.inl (μ a j.toNat) :: st) g μ Q) := Wp_ald k136_121 (fun _ => rfl)
theorem k136_122 : mCode 136 122 = some (.aload_n 0, 1) := by decide +kernel
theorem x136_122 {E : ME} {ls : MLs} {st : List MV} {g : MG} {μ : MU} {Q : Option MV → MG → MU → Prop} {v : Nat ⊕ Nat} : Wp E 136 122 (some (.inr (.inr v)) :: ls) st g μ Q = Wp E 136 123 (some (.inr (.inr v)) :: ls) (.inr (.inr v) :: st) g μ Q := Wp_nx k136_122 rfl
theorem k136_123 : mCode 136 123 = some (.getfield 62, 3) := by decide +kernel
theorem x136_123 {E : ME} {ls : MLs} {st : List MV} {g : MG} {μ : MU} {Q : Option MV → MG → MU → Prop} {a : Nat} : Wp E 136 123 ls (.inr (.inr (.inl a)) :: st) g μ Q = ((mKd g a).1 = 6 ∧ Wp E 136 126 ls (mRv (mRf g a 23) :: st) g μ Q) := Wp_getR k136_123 f6_62 (by decide) (by decide)
theorem k136_126 : mCode 136 126 = some (.iload_n 1, 1) := by decide +kernel
theorem x136_126 {E : ME} {ls : MLs} {st : List MV} {g : MG} {μ : MU} {Q : Option MV → MG → MU → Prop} {l0 : Option MV} {v : Int} : Wp E 136 126 (l0 :: some (.inl v) :: ls) st g μ Q = Wp E 136 127 (l0 :: some (.inl v) :: ls) (.inl v :: st) g μ Q := Wp_nx k136_126 rfl
theorem k136_127 : mCode 136 127 = some (.iconst 2, 1) := by decide +kernel
theorem x136_127 {E : ME} {ls : MLs} {st : List MV} {g : MG} {μ : MU} {Q : Option MV → MG → MU → Prop} : Wp E 136 127 ls st g μ Q = Wp E 136 128 ls (.inl 2 :: st) g μ Q := Wp_nx k136_127 rfl
theorem k136_128 : mCode 136 128 = some (.iadd, 1) := by decide +kernel
theorem x136_128 {E : ME} {ls : MLs} {st : List MV} {g : MG} {μ : MU} {Q : Option MV → MG → MU → Prop} {a b : Int} : Wp E 136 128 ls (.inl b :: .inl a :: st) g μ Q = Wp E 136 129 ls (.inl (mWr (a + b)) :: st) g μ Q := Wp_nx k136_128 rfl
theorem k136_129 : mCode 136 129 = some (.iaload, 1) := by decide +kernel
theorem x136_129 {E : ME} {ls : MLs} {st : List MV} {g : MG} {μ : MU} {Q : Option MV → MG → MU → Prop} {a : Nat} {j : Int} : Wp E 136 129 ls (.inl j :: .inr (.inr (.inl a)) :: st) g μ Q = (((mKd g a).1 = 10 ∧ 0 ≤ j ∧ j < (mKd g a).2) ∧ Wp E 136 130 ls (.inl (μ a j.toNat) :: st) g μ Q) := Wp_ald k136_129 (fun _ => rfl)
theorem k136_130 : mCode 136 130 = some (.aload_n 0, 1) := by decide +kernel
theorem x136_130 {E : ME} {ls : MLs} {st : List MV} {g : MG} {μ : MU} {Q : Option MV → MG → MU → Prop} {v : Nat ⊕ Nat} : Wp E 136 130 (some (.inr (.inr v)) :: ls) st g μ Q = Wp E 136 131 (some (.inr (.inr v)) :: ls) (.inr (.inr v) :: st) g μ Q := Wp_nx k136_130 rfl
theorem k136_131 : mCode 136 131 = some (.getfield 62, 3) := by decide +kernel
theorem x136_131 {E : ME} {ls : MLs} {st : List MV} {g : MG} {μ : MU} {Q : Option MV → MG → MU → Prop} {a : Nat} : Wp E 136 131 ls (.inr (.inr (.inl a)) :: st) g μ Q = ((mKd g a).1 = 6 ∧ Wp E 136 134 ls (mRv (mRf g a 23) :: st) g μ Q) := Wp_getR k136_131 f6_62 (by decide) (by decide)
theorem k136_134 : mCode 136 134 = some (.iload_n 1, 1) := by decide +kernel
theorem x136_134 {E : ME} {ls : MLs} {st : List MV} {g : MG} {μ : MU} {Q : Option MV → MG → MU → Prop} {l0 : Option MV} {v : Int} : Wp E 136 134 (l0 :: some (.inl v) :: ls) st g μ Q = Wp E 136 135 (l0 :: some (.inl v) :: ls) (.inl v :: st) g μ Q := Wp_nx k136_134 rfl
theorem k136_135 : mCode 136 135 = some (.iconst 3, 1) := by decide +kernel
theorem x136_135 {E : ME} {ls : MLs} {st : List MV} {g : MG} {μ : MU} {Q : Option MV → MG → MU → Prop} : Wp E 136 135 ls st g μ Q = Wp E 136 136 ls (.inl 3 :: st) g μ Q := Wp_nx k136_135 rfl
theorem k136_136 : mCode 136 136 = some (.iadd, 1) := by decide +kernel
theorem x136_136 {E : ME} {ls : MLs} {st : List MV} {g : MG} {μ : MU} {Q : Option MV → MG → MU → Prop} {a b : Int} : Wp E 136 136 ls (.inl b :: .inl a :: st) g μ Q = Wp E 136 137 ls (.inl (mWr (a + b)) :: st) g μ Q := Wp_nx k136_136 rfl
theorem k136_137 : mCode 136 137 = some (.iaload, 1) := by decide +kernel
theorem x136_137 {E : ME} {ls : MLs} {st : List MV} {g : MG} {μ : MU} {Q : Option MV → MG → MU → Prop} {a : Nat} {j : Int} : Wp E 136 137 ls (.inl j :: .inr (.inr (.inl a)) :: st) g μ Q = (((mKd g a).1 = 10 ∧ 0 ≤ j ∧ j < (mKd g a).2) ∧ Wp E 136 138 ls (.inl (μ a j.toNat) :: st) g μ Q) := Wp_ald k136_137 (fun _ => rfl)
theorem k136_138 : mCode 136 138 = some (.invokestatic 133, 3) := by decide +kernel
theorem x136_138 {E : ME} {ls : MLs} {st : List MV} {g : MG} {μ : MU} {Q : Option MV → MG → MU → Prop} {a0 : Int} {a1 : Int} {a2 : Int} : Wp E 136 138 ls (.inl a2 :: .inl a1 :: .inl a0 :: st) g μ Q = (st.length ≤ 4 ∧ Wp E 100 0 [some (.inl a0), some (.inl a1), some (.inl a2)] [] g μ (fun r g' μ' => (g'.1 = g.1 ∧ g'.2.1 = g.2.1) ∧ Wp E 136 141 ls (mPush r st) g' μ' Q)) := Wp_cS k136_138 m6_133 (by decide) (as := [.inl a0, .inl a1, .inl a2]) rfl rfl rfl ⟨Nat.le_of_ble_eq_true rfl, by decide⟩
theorem k136_141 : mCode 136 141 = some (.ireturn, 1) := by decide +kernel
theorem x136_141 {E : ME} {ls : MLs} {g : MG} {μ : MU} {Q : Option MV → MG → MU → Prop} {v : Int} : Wp E 136 141 ls [.inl v] g μ Q = Q (some (.inl v)) g μ := Wp_retI k136_141 (by decide)
theorem k136_142 : mCode 136 142 = some (.aload_n 0, 1) := by decide +kernel
theorem x136_142 {E : ME} {ls : MLs} {st : List MV} {g : MG} {μ : MU} {Q : Option MV → MG → MU → Prop} {v : Nat ⊕ Nat} : Wp E 136 142 (some (.inr (.inr v)) :: ls) st g μ Q = Wp E 136 143 (some (.inr (.inr v)) :: ls) (.inr (.inr v) :: st) g μ Q := Wp_nx k136_142 rfl
theorem k136_143 : mCode 136 143 = some (.aload_n 0, 1) := by decide +kernel
theorem x136_143 {E : ME} {ls : MLs} {st : List MV} {g : MG} {μ : MU} {Q : Option MV → MG → MU → Prop} {v : Nat ⊕ Nat} : Wp E 136 143 (some (.inr (.inr v)) :: ls) st g μ Q = Wp E 136 144 (some (.inr (.inr v)) :: ls) (.inr (.inr v) :: st) g μ Q := Wp_nx k136_143 rfl
theorem k136_144 : mCode 136 144 = some (.getfield 62, 3) := by decide +kernel
theorem x136_144 {E : ME} {ls : MLs} {st : List MV} {g : MG} {μ : MU} {Q : Option MV → MG → MU → Prop} {a : Nat} : Wp E 136 144 ls (.inr (.inr (.inl a)) :: st) g μ Q = ((mKd g a).1 = 6 ∧ Wp E 136 147 ls (mRv (mRf g a 23) :: st) g μ Q) := Wp_getR k136_144 f6_62 (by decide) (by decide)
theorem k136_147 : mCode 136 147 = some (.iload_n 1, 1) := by decide +kernel
theorem x136_147 {E : ME} {ls : MLs} {st : List MV} {g : MG} {μ : MU} {Q : Option MV → MG → MU → Prop} {l0 : Option MV} {v : Int} : Wp E 136 147 (l0 :: some (.inl v) :: ls) st g μ Q = Wp E 136 148 (l0 :: some (.inl v) :: ls) (.inl v :: st) g μ Q := Wp_nx k136_147 rfl
theorem k136_148 : mCode 136 148 = some (.iconst 1, 1) := by decide +kernel
theorem x136_148 {E : ME} {ls : MLs} {st : List MV} {g : MG} {μ : MU} {Q : Option MV → MG → MU → Prop} : Wp E 136 148 ls st g μ Q = Wp E 136 149 ls (.inl 1 :: st) g μ Q := Wp_nx k136_148 rfl
theorem k136_149 : mCode 136 149 = some (.iadd, 1) := by decide +kernel
theorem x136_149 {E : ME} {ls : MLs} {st : List MV} {g : MG} {μ : MU} {Q : Option MV → MG → MU → Prop} {a b : Int} : Wp E 136 149 ls (.inl b :: .inl a :: st) g μ Q = Wp E 136 150 ls (.inl (mWr (a + b)) :: st) g μ Q := Wp_nx k136_149 rfl
theorem k136_150 : mCode 136 150 = some (.iaload, 1) := by decide +kernel
theorem x136_150 {E : ME} {ls : MLs} {st : List MV} {g : MG} {μ : MU} {Q : Option MV → MG → MU → Prop} {a : Nat} {j : Int} : Wp E 136 150 ls (.inl j :: .inr (.inr (.inl a)) :: st) g μ Q = (((mKd g a).1 = 10 ∧ 0 ≤ j ∧ j < (mKd g a).2) ∧ Wp E 136 151 ls (.inl (μ a j.toNat) :: st) g μ Q) := Wp_ald k136_150 (fun _ => rfl)
theorem k136_151 : mCode 136 151 = some (.aload_n 0, 1) := by decide +kernel
theorem x136_151 {E : ME} {ls : MLs} {st : List MV} {g : MG} {μ : MU} {Q : Option MV → MG → MU → Prop} {v : Nat ⊕ Nat} : Wp E 136 151 (some (.inr (.inr v)) :: ls) st g μ Q = Wp E 136 152 (some (.inr (.inr v)) :: ls) (.inr (.inr v) :: st) g μ Q := Wp_nx k136_151 rfl
theorem k136_152 : mCode 136 152 = some (.getfield 62, 3) := by decide +kernel
theorem x136_152 {E : ME} {ls : MLs} {st : List MV} {g : MG} {μ : MU} {Q : Option MV → MG → MU → Prop} {a : Nat} : Wp E 136 152 ls (.inr (.inr (.inl a)) :: st) g μ Q = ((mKd g a).1 = 6 ∧ Wp E 136 155 ls (mRv (mRf g a 23) :: st) g μ Q) := Wp_getR k136_152 f6_62 (by decide) (by decide)
theorem k136_155 : mCode 136 155 = some (.iload_n 1, 1) := by decide +kernel
theorem x136_155 {E : ME} {ls : MLs} {st : List MV} {g : MG} {μ : MU} {Q : Option MV → MG → MU → Prop} {l0 : Option MV} {v : Int} : Wp E 136 155 (l0 :: some (.inl v) :: ls) st g μ Q = Wp E 136 156 (l0 :: some (.inl v) :: ls) (.inl v :: st) g μ Q := Wp_nx k136_155 rfl
theorem k136_156 : mCode 136 156 = some (.iconst 2, 1) := by decide +kernel
theorem x136_156 {E : ME} {ls : MLs} {st : List MV} {g : MG} {μ : MU} {Q : Option MV → MG → MU → Prop} : Wp E 136 156 ls st g μ Q = Wp E 136 157 ls (.inl 2 :: st) g μ Q := Wp_nx k136_156 rfl
theorem k136_157 : mCode 136 157 = some (.iadd, 1) := by decide +kernel
theorem x136_157 {E : ME} {ls : MLs} {st : List MV} {g : MG} {μ : MU} {Q : Option MV → MG → MU → Prop} {a b : Int} : Wp E 136 157 ls (.inl b :: .inl a :: st) g μ Q = Wp E 136 158 ls (.inl (mWr (a + b)) :: st) g μ Q := Wp_nx k136_157 rfl
theorem k136_158 : mCode 136 158 = some (.iaload, 1) := by decide +kernel
theorem x136_158 {E : ME} {ls : MLs} {st : List MV} {g : MG} {μ : MU} {Q : Option MV → MG → MU → Prop} {a : Nat} {j : Int} : Wp E 136 158 ls (.inl j :: .inr (.inr (.inl a)) :: st) g μ Q = (((mKd g a).1 = 10 ∧ 0 ≤ j ∧ j < (mKd g a).2) ∧ Wp E 136 159 ls (.inl (μ a j.toNat) :: st) g μ Q) := Wp_ald k136_158 (fun _ => rfl)
theorem k136_159 : mCode 136 159 = some (.aload_n 0, 1) := by decide +kernel
theorem x136_159 {E : ME} {ls : MLs} {st : List MV} {g : MG} {μ : MU} {Q : Option MV → MG → MU → Prop} {v : Nat ⊕ Nat} : Wp E 136 159 (some (.inr (.inr v)) :: ls) st g μ Q = Wp E 136 160 (some (.inr (.inr v)) :: ls) (.inr (.inr v) :: st) g μ Q := Wp_nx k136_159 rfl
theorem k136_160 : mCode 136 160 = some (.getfield 62, 3) := by decide +kernel
theorem x136_160 {E : ME} {ls : MLs} {st : List MV} {g : MG} {μ : MU} {Q : Option MV → MG → MU → Prop} {a : Nat} : Wp E 136 160 ls (.inr (.inr (.inl a)) :: st) g μ Q = ((mKd g a).1 = 6 ∧ Wp E 136 163 ls (mRv (mRf g a 23) :: st) g μ Q) := Wp_getR k136_160 f6_62 (by decide) (by decide)
theorem k136_163 : mCode 136 163 = some (.iload_n 1, 1) := by decide +kernel
theorem x136_163 {E : ME} {ls : MLs} {st : List MV} {g : MG} {μ : MU} {Q : Option MV → MG → MU → Prop} {l0 : Option MV} {v : Int} : Wp E 136 163 (l0 :: some (.inl v) :: ls) st g μ Q = Wp E 136 164 (l0 :: some (.inl v) :: ls) (.inl v :: st) g μ Q := Wp_nx k136_163 rfl
theorem k136_164 : mCode 136 164 = some (.iconst 3, 1) := by decide +kernel
theorem x136_164 {E : ME} {ls : MLs} {st : List MV} {g : MG} {μ : MU} {Q : Option MV → MG → MU → Prop} : Wp E 136 164 ls st g μ Q = Wp E 136 165 ls (.inl 3 :: st) g μ Q := Wp_nx k136_164 rfl
theorem k136_165 : mCode 136 165 = some (.iadd, 1) := by decide +kernel
theorem x136_165 {E : ME} {ls : MLs} {st : List MV} {g : MG} {μ : MU} {Q : Option MV → MG → MU → Prop} {a b : Int} : Wp E 136 165 ls (.inl b :: .inl a :: st) g μ Q = Wp E 136 166 ls (.inl (mWr (a + b)) :: st) g μ Q := Wp_nx k136_165 rfl
theorem k136_166 : mCode 136 166 = some (.iaload, 1) := by decide +kernel
theorem x136_166 {E : ME} {ls : MLs} {st : List MV} {g : MG} {μ : MU} {Q : Option MV → MG → MU → Prop} {a : Nat} {j : Int} : Wp E 136 166 ls (.inl j :: .inr (.inr (.inl a)) :: st) g μ Q = (((mKd g a).1 = 10 ∧ 0 ≤ j ∧ j < (mKd g a).2) ∧ Wp E 136 167 ls (.inl (μ a j.toNat) :: st) g μ Q) := Wp_ald k136_166 (fun _ => rfl)
theorem k136_167 : mCode 136 167 = some (.invokevirtual 155, 3) := by decide +kernel
theorem x136_167 {E : ME} {ls : MLs} {st : List MV} {g : MG} {μ : MU} {Q : Option MV → MG → MU → Prop} {r : Nat} {a0 : Int} {a1 : Int} {a2 : Int} : Wp E 136 167 ls (.inl a2 :: .inl a1 :: .inl a0 :: .inr (.inr (.inl r)) :: st) g μ Q = ((st.length ≤ 4 ∧ ((mKd g r).1 == 6) = true) ∧ Wp E 108 0 [some (.inr (.inr (.inl r))), some (.inl a0), some (.inl a1), some (.inl a2)] [] g μ (fun r g' μ' => (g'.1 = g.1 ∧ g'.2.1 = g.2.1) ∧ Wp E 136 170 ls (mPush r st) g' μ' Q)) := Wp_cV k136_167 m6_155 (by decide) (as := [.inr (.inr (.inl r)), .inl a0, .inl a1, .inl a2]) rfl rfl rfl ⟨Nat.le_of_ble_eq_true rfl, by decide⟩
theorem k136_170 : mCode 136 170 = some (.ireturn, 1) := by decide +kernel
theorem x136_170 {E : ME} {ls : MLs} {g : MG} {μ : MU} {Q : Option MV → MG → MU → Prop} {v : Int} : Wp E 136 170 ls [.inl v] g μ Q = Q (some (.inl v)) g μ := Wp_retI k136_170 (by decide)
theorem k136_171 : mCode 136 171 = some (.aload_n 0, 1) := by decide +kernel
theorem x136_171 {E : ME} {ls : MLs} {st : List MV} {g : MG} {μ : MU} {Q : Option MV → MG → MU → Prop} {v : Nat ⊕ Nat} : Wp E 136 171 (some (.inr (.inr v)) :: ls) st g μ Q = Wp E 136 172 (some (.inr (.inr v)) :: ls) (.inr (.inr v) :: st) g μ Q := Wp_nx k136_171 rfl
theorem k136_172 : mCode 136 172 = some (.aload_n 0, 1) := by decide +kernel
theorem x136_172 {E : ME} {ls : MLs} {st : List MV} {g : MG} {μ : MU} {Q : Option MV → MG → MU → Prop} {v : Nat ⊕ Nat} : Wp E 136 172 (some (.inr (.inr v)) :: ls) st g μ Q = Wp E 136 173 (some (.inr (.inr v)) :: ls) (.inr (.inr v) :: st) g μ Q := Wp_nx k136_172 rfl
theorem k136_173 : mCode 136 173 = some (.getfield 62, 3) := by decide +kernel
theorem x136_173 {E : ME} {ls : MLs} {st : List MV} {g : MG} {μ : MU} {Q : Option MV → MG → MU → Prop} {a : Nat} : Wp E 136 173 ls (.inr (.inr (.inl a)) :: st) g μ Q = ((mKd g a).1 = 6 ∧ Wp E 136 176 ls (mRv (mRf g a 23) :: st) g μ Q) := Wp_getR k136_173 f6_62 (by decide) (by decide)
theorem k136_176 : mCode 136 176 = some (.iload_n 1, 1) := by decide +kernel
theorem x136_176 {E : ME} {ls : MLs} {st : List MV} {g : MG} {μ : MU} {Q : Option MV → MG → MU → Prop} {l0 : Option MV} {v : Int} : Wp E 136 176 (l0 :: some (.inl v) :: ls) st g μ Q = Wp E 136 177 (l0 :: some (.inl v) :: ls) (.inl v :: st) g μ Q := Wp_nx k136_176 rfl
theorem k136_177 : mCode 136 177 = some (.iconst 1, 1) := by decide +kernel
theorem x136_177 {E : ME} {ls : MLs} {st : List MV} {g : MG} {μ : MU} {Q : Option MV → MG → MU → Prop} : Wp E 136 177 ls st g μ Q = Wp E 136 178 ls (.inl 1 :: st) g μ Q := Wp_nx k136_177 rfl
theorem k136_178 : mCode 136 178 = some (.iadd, 1) := by decide +kernel
theorem x136_178 {E : ME} {ls : MLs} {st : List MV} {g : MG} {μ : MU} {Q : Option MV → MG → MU → Prop} {a b : Int} : Wp E 136 178 ls (.inl b :: .inl a :: st) g μ Q = Wp E 136 179 ls (.inl (mWr (a + b)) :: st) g μ Q := Wp_nx k136_178 rfl
theorem k136_179 : mCode 136 179 = some (.iaload, 1) := by decide +kernel
theorem x136_179 {E : ME} {ls : MLs} {st : List MV} {g : MG} {μ : MU} {Q : Option MV → MG → MU → Prop} {a : Nat} {j : Int} : Wp E 136 179 ls (.inl j :: .inr (.inr (.inl a)) :: st) g μ Q = (((mKd g a).1 = 10 ∧ 0 ≤ j ∧ j < (mKd g a).2) ∧ Wp E 136 180 ls (.inl (μ a j.toNat) :: st) g μ Q) := Wp_ald k136_179 (fun _ => rfl)
theorem k136_180 : mCode 136 180 = some (.invokevirtual 146, 3) := by decide +kernel
theorem x136_180 {E : ME} {ls : MLs} {st : List MV} {g : MG} {μ : MU} {Q : Option MV → MG → MU → Prop} {r : Nat} {a0 : Int} : Wp E 136 180 ls (.inl a0 :: .inr (.inr (.inl r)) :: st) g μ Q = ((st.length ≤ 4 ∧ ((mKd g r).1 == 6) = true) ∧ Wp E 81 0 [some (.inr (.inr (.inl r))), some (.inl a0)] [] g μ (fun r g' μ' => (g'.1 = g.1 ∧ g'.2.1 = g.2.1) ∧ Wp E 136 183 ls (mPush r st) g' μ' Q)) := Wp_cV k136_180 m6_146 (by decide) (as := [.inr (.inr (.inl r)), .inl a0]) rfl rfl rfl ⟨Nat.le_of_ble_eq_true rfl, by decide⟩
theorem k136_183 : mCode 136 183 = some (.ifCond .eq 7, 3) := by decide +kernel
theorem x136_183 {E : ME} {ls : MLs} {st : List MV} {g : MG} {μ : MU} {Q : Option MV → MG → MU → Prop} {a : Int} : Wp E 136 183 ls (.inl a :: st) g μ Q = ((a = 0 → Wp E 136 190 ls st g μ Q) ∧ (¬ a = 0 → Wp E 136 186 ls st g μ Q)) := Wp_if_eq k136_183 (by decide)
theorem k136_186 : mCode 136 186 = some (.iconst 0, 1) := by decide +kernel
theorem x136_186 {E : ME} {ls : MLs} {st : List MV} {g : MG} {μ : MU} {Q : Option MV → MG → MU → Prop} : Wp E 136 186 ls st g μ Q = Wp E 136 187 ls (.inl 0 :: st) g μ Q := Wp_nx k136_186 rfl
theorem k136_187 : mCode 136 187 = some (.goto 4, 3) := by decide +kernel
theorem x136_187 {E : ME} {ls : MLs} {st : List MV} {g : MG} {μ : MU} {Q : Option MV → MG → MU → Prop} : Wp E 136 187 ls st g μ Q = Wp E 136 191 ls st g μ Q := Wp_goto k136_187 (by decide)
theorem k136_190 : mCode 136 190 = some (.iconst (-1), 1) := by decide +kernel
theorem x136_190 {E : ME} {ls : MLs} {st : List MV} {g : MG} {μ : MU} {Q : Option MV → MG → MU → Prop} : Wp E 136 190 ls st g μ Q = Wp E 136 191 ls (.inl (-1) :: st) g μ Q := Wp_nx k136_190 rfl
theorem k136_191 : mCode 136 191 = some (.ireturn, 1) := by decide +kernel
theorem x136_191 {E : ME} {ls : MLs} {g : MG} {μ : MU} {Q : Option MV → MG → MU → Prop} {v : Int} : Wp E 136 191 ls [.inl v] g μ Q = Q (some (.inl v)) g μ := Wp_retI k136_191 (by decide)
theorem k137_0 : mCode 137 0 = some (.aload_n 0, 1) := by decide +kernel
theorem x137_0 {E : ME} {ls : MLs} {st : List MV} {g : MG} {μ : MU} {Q : Option MV → MG → MU → Prop} {v : Nat ⊕ Nat} : Wp E 137 0 (some (.inr (.inr v)) :: ls) st g μ Q = Wp E 137 1 (some (.inr (.inr v)) :: ls) (.inr (.inr v) :: st) g μ Q := Wp_nx k137_0 rfl
theorem k137_1 : mCode 137 1 = some (.getfield 62, 3) := by decide +kernel
theorem x137_1 {E : ME} {ls : MLs} {st : List MV} {g : MG} {μ : MU} {Q : Option MV → MG → MU → Prop} {a : Nat} : Wp E 137 1 ls (.inr (.inr (.inl a)) :: st) g μ Q = ((mKd g a).1 = 6 ∧ Wp E 137 4 ls (mRv (mRf g a 23) :: st) g μ Q) := Wp_getR k137_1 f6_62 (by decide) (by decide)
theorem k137_4 : mCode 137 4 = some (.iload_n 1, 1) := by decide +kernel
theorem x137_4 {E : ME} {ls : MLs} {st : List MV} {g : MG} {μ : MU} {Q : Option MV → MG → MU → Prop} {l0 : Option MV} {v : Int} : Wp E 137 4 (l0 :: some (.inl v) :: ls) st g μ Q = Wp E 137 5 (l0 :: some (.inl v) :: ls) (.inl v :: st) g μ Q := Wp_nx k137_4 rfl
theorem k137_5 : mCode 137 5 = some (.iaload, 1) := by decide +kernel
theorem x137_5 {E : ME} {ls : MLs} {st : List MV} {g : MG} {μ : MU} {Q : Option MV → MG → MU → Prop} {a : Nat} {j : Int} : Wp E 137 5 ls (.inl j :: .inr (.inr (.inl a)) :: st) g μ Q = (((mKd g a).1 = 10 ∧ 0 ≤ j ∧ j < (mKd g a).2) ∧ Wp E 137 6 ls (.inl (μ a j.toNat) :: st) g μ Q) := Wp_ald k137_5 (fun _ => rfl)
theorem k137_6 : mCode 137 6 = some (.lookupswitch 189 #[(102, 42), (115, 74), (116, 146), (119, 114)], 42) := by decide +kernel
theorem x137_6_102 {E : ME} {ls : MLs} {st : List MV} {g : MG} {μ : MU} {Q : Option MV → MG → MU → Prop} : Wp E 137 6 ls (.inl 102 :: st) g μ Q = Wp E 137 48 ls st g μ Q := Wp_nx k137_6 rfl
theorem x137_6_115 {E : ME} {ls : MLs} {st : List MV} {g : MG} {μ : MU} {Q : Option MV → MG → MU → Prop} : Wp E 137 6 ls (.inl 115 :: st) g μ Q = Wp E 137 80 ls st g μ Q := Wp_nx k137_6 rfl
theorem x137_6_116 {E : ME} {ls : MLs} {st : List MV} {g : MG} {μ : MU} {Q : Option MV → MG → MU → Prop} : Wp E 137 6 ls (.inl 116 :: st) g μ Q = Wp E 137 152 ls st g μ Q := Wp_nx k137_6 rfl
theorem x137_6_119 {E : ME} {ls : MLs} {st : List MV} {g : MG} {μ : MU} {Q : Option MV → MG → MU → Prop} : Wp E 137 6 ls (.inl 119 :: st) g μ Q = Wp E 137 120 ls st g μ Q := Wp_nx k137_6 rfl
theorem x137_6_d {E : ME} {ls : MLs} {st : List MV} {g : MG} {μ : MU} {Q : Option MV → MG → MU → Prop} {a : Int} (h : ¬ a = 102 ∧ ¬ a = 115 ∧ ¬ a = 116 ∧ ¬ a = 119) : Wp E 137 6 ls (.inl a :: st) g μ Q = Wp E 137 195 ls st g μ Q := Wp_lsw (off := 189) k137_6 (by decide) (by simp [Op.lookupswitch.offset]; omega) (by decide)
theorem k137_48 : mCode 137 48 = some (.aload_n 0, 1) := by decide +kernel
theorem x137_48 {E : ME} {ls : MLs} {st : List MV} {g : MG} {μ : MU} {Q : Option MV → MG → MU → Prop} {v : Nat ⊕ Nat} : Wp E 137 48 (some (.inr (.inr v)) :: ls) st g μ Q = Wp E 137 49 (some (.inr (.inr v)) :: ls) (.inr (.inr v) :: st) g μ Q := Wp_nx k137_48 rfl
theorem k137_49 : mCode 137 49 = some (.aload_n 0, 1) := by decide +kernel
theorem x137_49 {E : ME} {ls : MLs} {st : List MV} {g : MG} {μ : MU} {Q : Option MV → MG → MU → Prop} {v : Nat ⊕ Nat} : Wp E 137 49 (some (.inr (.inr v)) :: ls) st g μ Q = Wp E 137 50 (some (.inr (.inr v)) :: ls) (.inr (.inr v) :: st) g μ Q := Wp_nx k137_49 rfl
theorem k137_50 : mCode 137 50 = some (.getfield 62, 3) := by decide +kernel
theorem x137_50 {E : ME} {ls : MLs} {st : List MV} {g : MG} {μ : MU} {Q : Option MV → MG → MU → Prop} {a : Nat} : Wp E 137 50 ls (.inr (.inr (.inl a)) :: st) g μ Q = ((mKd g a).1 = 6 ∧ Wp E 137 53 ls (mRv (mRf g a 23) :: st) g μ Q) := Wp_getR k137_50 f6_62 (by decide) (by decide)
theorem k137_53 : mCode 137 53 = some (.iload_n 1, 1) := by decide +kernel
theorem x137_53 {E : ME} {ls : MLs} {st : List MV} {g : MG} {μ : MU} {Q : Option MV → MG → MU → Prop} {l0 : Option MV} {v : Int} : Wp E 137 53 (l0 :: some (.inl v) :: ls) st g μ Q = Wp E 137 54 (l0 :: some (.inl v) :: ls) (.inl v :: st) g μ Q := Wp_nx k137_53 rfl
theorem k137_54 : mCode 137 54 = some (.iconst 1, 1) := by decide +kernel
theorem x137_54 {E : ME} {ls : MLs} {st : List MV} {g : MG} {μ : MU} {Q : Option MV → MG → MU → Prop} : Wp E 137 54 ls st g μ Q = Wp E 137 55 ls (.inl 1 :: st) g μ Q := Wp_nx k137_54 rfl
theorem k137_55 : mCode 137 55 = some (.iadd, 1) := by decide +kernel
theorem x137_55 {E : ME} {ls : MLs} {st : List MV} {g : MG} {μ : MU} {Q : Option MV → MG → MU → Prop} {a b : Int} : Wp E 137 55 ls (.inl b :: .inl a :: st) g μ Q = Wp E 137 56 ls (.inl (mWr (a + b)) :: st) g μ Q := Wp_nx k137_55 rfl
theorem k137_56 : mCode 137 56 = some (.iaload, 1) := by decide +kernel
theorem x137_56 {E : ME} {ls : MLs} {st : List MV} {g : MG} {μ : MU} {Q : Option MV → MG → MU → Prop} {a : Nat} {j : Int} : Wp E 137 56 ls (.inl j :: .inr (.inr (.inl a)) :: st) g μ Q = (((mKd g a).1 = 10 ∧ 0 ≤ j ∧ j < (mKd g a).2) ∧ Wp E 137 57 ls (.inl (μ a j.toNat) :: st) g μ Q) := Wp_ald k137_56 (fun _ => rfl)
theorem k137_57 : mCode 137 57 = some (.aload_n 0, 1) := by decide +kernel
theorem x137_57 {E : ME} {ls : MLs} {st : List MV} {g : MG} {μ : MU} {Q : Option MV → MG → MU → Prop} {v : Nat ⊕ Nat} : Wp E 137 57 (some (.inr (.inr v)) :: ls) st g μ Q = Wp E 137 58 (some (.inr (.inr v)) :: ls) (.inr (.inr v) :: st) g μ Q := Wp_nx k137_57 rfl
theorem k137_58 : mCode 137 58 = some (.getfield 62, 3) := by decide +kernel
theorem x137_58 {E : ME} {ls : MLs} {st : List MV} {g : MG} {μ : MU} {Q : Option MV → MG → MU → Prop} {a : Nat} : Wp E 137 58 ls (.inr (.inr (.inl a)) :: st) g μ Q = ((mKd g a).1 = 6 ∧ Wp E 137 61 ls (mRv (mRf g a 23) :: st) g μ Q) := Wp_getR k137_58 f6_62 (by decide) (by decide)
theorem k137_61 : mCode 137 61 = some (.iload_n 1, 1) := by decide +kernel
theorem x137_61 {E : ME} {ls : MLs} {st : List MV} {g : MG} {μ : MU} {Q : Option MV → MG → MU → Prop} {l0 : Option MV} {v : Int} : Wp E 137 61 (l0 :: some (.inl v) :: ls) st g μ Q = Wp E 137 62 (l0 :: some (.inl v) :: ls) (.inl v :: st) g μ Q := Wp_nx k137_61 rfl
theorem k137_62 : mCode 137 62 = some (.iconst 2, 1) := by decide +kernel
theorem x137_62 {E : ME} {ls : MLs} {st : List MV} {g : MG} {μ : MU} {Q : Option MV → MG → MU → Prop} : Wp E 137 62 ls st g μ Q = Wp E 137 63 ls (.inl 2 :: st) g μ Q := Wp_nx k137_62 rfl
theorem k137_63 : mCode 137 63 = some (.iadd, 1) := by decide +kernel
theorem x137_63 {E : ME} {ls : MLs} {st : List MV} {g : MG} {μ : MU} {Q : Option MV → MG → MU → Prop} {a b : Int} : Wp E 137 63 ls (.inl b :: .inl a :: st) g μ Q = Wp E 137 64 ls (.inl (mWr (a + b)) :: st) g μ Q := Wp_nx k137_63 rfl
theorem k137_64 : mCode 137 64 = some (.iaload, 1) := by decide +kernel
theorem x137_64 {E : ME} {ls : MLs} {st : List MV} {g : MG} {μ : MU} {Q : Option MV → MG → MU → Prop} {a : Nat} {j : Int} : Wp E 137 64 ls (.inl j :: .inr (.inr (.inl a)) :: st) g μ Q = (((mKd g a).1 = 10 ∧ 0 ≤ j ∧ j < (mKd g a).2) ∧ Wp E 137 65 ls (.inl (μ a j.toNat) :: st) g μ Q) := Wp_ald k137_64 (fun _ => rfl)
theorem k137_65 : mCode 137 65 = some (.aload_n 0, 1) := by decide +kernel
theorem x137_65 {E : ME} {ls : MLs} {st : List MV} {g : MG} {μ : MU} {Q : Option MV → MG → MU → Prop} {v : Nat ⊕ Nat} : Wp E 137 65 (some (.inr (.inr v)) :: ls) st g μ Q = Wp E 137 66 (some (.inr (.inr v)) :: ls) (.inr (.inr v) :: st) g μ Q := Wp_nx k137_65 rfl
theorem k137_66 : mCode 137 66 = some (.getfield 62, 3) := by decide +kernel
theorem x137_66 {E : ME} {ls : MLs} {st : List MV} {g : MG} {μ : MU} {Q : Option MV → MG → MU → Prop} {a : Nat} : Wp E 137 66 ls (.inr (.inr (.inl a)) :: st) g μ Q = ((mKd g a).1 = 6 ∧ Wp E 137 69 ls (mRv (mRf g a 23) :: st) g μ Q) := Wp_getR k137_66 f6_62 (by decide) (by decide)
theorem k137_69 : mCode 137 69 = some (.iload_n 1, 1) := by decide +kernel
theorem x137_69 {E : ME} {ls : MLs} {st : List MV} {g : MG} {μ : MU} {Q : Option MV → MG → MU → Prop} {l0 : Option MV} {v : Int} : Wp E 137 69 (l0 :: some (.inl v) :: ls) st g μ Q = Wp E 137 70 (l0 :: some (.inl v) :: ls) (.inl v :: st) g μ Q := Wp_nx k137_69 rfl
theorem k137_70 : mCode 137 70 = some (.iconst 3, 1) := by decide +kernel
theorem x137_70 {E : ME} {ls : MLs} {st : List MV} {g : MG} {μ : MU} {Q : Option MV → MG → MU → Prop} : Wp E 137 70 ls st g μ Q = Wp E 137 71 ls (.inl 3 :: st) g μ Q := Wp_nx k137_70 rfl
theorem k137_71 : mCode 137 71 = some (.iadd, 1) := by decide +kernel
theorem x137_71 {E : ME} {ls : MLs} {st : List MV} {g : MG} {μ : MU} {Q : Option MV → MG → MU → Prop} {a b : Int} : Wp E 137 71 ls (.inl b :: .inl a :: st) g μ Q = Wp E 137 72 ls (.inl (mWr (a + b)) :: st) g μ Q := Wp_nx k137_71 rfl
theorem k137_72 : mCode 137 72 = some (.iaload, 1) := by decide +kernel
theorem x137_72 {E : ME} {ls : MLs} {st : List MV} {g : MG} {μ : MU} {Q : Option MV → MG → MU → Prop} {a : Nat} {j : Int} : Wp E 137 72 ls (.inl j :: .inr (.inr (.inl a)) :: st) g μ Q = (((mKd g a).1 = 10 ∧ 0 ≤ j ∧ j < (mKd g a).2) ∧ Wp E 137 73 ls (.inl (μ a j.toNat) :: st) g μ Q) := Wp_ald k137_72 (fun _ => rfl)
theorem k137_73 : mCode 137 73 = some (.invokevirtual 130, 3) := by decide +kernel
theorem x137_73 {E : ME} {ls : MLs} {st : List MV} {g : MG} {μ : MU} {Q : Option MV → MG → MU → Prop} {r : Nat} {a0 : Int} {a1 : Int} {a2 : Int} : Wp E 137 73 ls (.inl a2 :: .inl a1 :: .inl a0 :: .inr (.inr (.inl r)) :: st) g μ Q = ((st.length ≤ 4 ∧ ((mKd g r).1 == 6) = true) ∧ Wp E 98 0 [some (.inr (.inr (.inl r))), some (.inl a0), some (.inl a1), some (.inl a2), none, none] [] g μ (fun r g' μ' => (g'.1 = g.1 ∧ g'.2.1 = g.2.1) ∧ Wp E 137 76 ls (mPush r st) g' μ' Q)) := Wp_cV k137_73 m6_130 (by decide) (as := [.inr (.inr (.inl r)), .inl a0, .inl a1, .inl a2]) rfl rfl rfl ⟨Nat.le_of_ble_eq_true rfl, by decide⟩
theorem k137_76 : mCode 137 76 = some (.pop, 1) := by decide +kernel
theorem x137_76 {E : ME} {ls : MLs} {st : List MV} {g : MG} {μ : MU} {Q : Option MV → MG → MU → Prop} {v : MV} : Wp E 137 76 ls (v :: st) g μ Q = (mC1 v = true ∧ Wp E 137 77 ls st g μ Q) := Wp_pop k137_76
theorem k137_77 : mCode 137 77 = some (.goto 131, 3) := by decide +kernel
theorem x137_77 {E : ME} {ls : MLs} {st : List MV} {g : MG} {μ : MU} {Q : Option MV → MG → MU → Prop} : Wp E 137 77 ls st g μ Q = Wp E 137 208 ls st g μ Q := Wp_goto k137_77 (by decide)
theorem k137_80 : mCode 137 80 = some (.aload_n 0, 1) := by decide +kernel
theorem x137_80 {E : ME} {ls : MLs} {st : List MV} {g : MG} {μ : MU} {Q : Option MV → MG → MU → Prop} {v : Nat ⊕ Nat} : Wp E 137 80 (some (.inr (.inr v)) :: ls) st g μ Q = Wp E 137 81 (some (.inr (.inr v)) :: ls) (.inr (.inr v) :: st) g μ Q := Wp_nx k137_80 rfl
theorem k137_81 : mCode 137 81 = some (.aload_n 0, 1) := by decide +kernel
theorem x137_81 {E : ME} {ls : MLs} {st : List MV} {g : MG} {μ : MU} {Q : Option MV → MG → MU → Prop} {v : Nat ⊕ Nat} : Wp E 137 81 (some (.inr (.inr v)) :: ls) st g μ Q = Wp E 137 82 (some (.inr (.inr v)) :: ls) (.inr (.inr v) :: st) g μ Q := Wp_nx k137_81 rfl
theorem k137_82 : mCode 137 82 = some (.getfield 62, 3) := by decide +kernel
theorem x137_82 {E : ME} {ls : MLs} {st : List MV} {g : MG} {μ : MU} {Q : Option MV → MG → MU → Prop} {a : Nat} : Wp E 137 82 ls (.inr (.inr (.inl a)) :: st) g μ Q = ((mKd g a).1 = 6 ∧ Wp E 137 85 ls (mRv (mRf g a 23) :: st) g μ Q) := Wp_getR k137_82 f6_62 (by decide) (by decide)
theorem k137_85 : mCode 137 85 = some (.iload_n 1, 1) := by decide +kernel
theorem x137_85 {E : ME} {ls : MLs} {st : List MV} {g : MG} {μ : MU} {Q : Option MV → MG → MU → Prop} {l0 : Option MV} {v : Int} : Wp E 137 85 (l0 :: some (.inl v) :: ls) st g μ Q = Wp E 137 86 (l0 :: some (.inl v) :: ls) (.inl v :: st) g μ Q := Wp_nx k137_85 rfl
theorem k137_86 : mCode 137 86 = some (.iconst 1, 1) := by decide +kernel
theorem x137_86 {E : ME} {ls : MLs} {st : List MV} {g : MG} {μ : MU} {Q : Option MV → MG → MU → Prop} : Wp E 137 86 ls st g μ Q = Wp E 137 87 ls (.inl 1 :: st) g μ Q := Wp_nx k137_86 rfl
theorem k137_87 : mCode 137 87 = some (.iadd, 1) := by decide +kernel
theorem x137_87 {E : ME} {ls : MLs} {st : List MV} {g : MG} {μ : MU} {Q : Option MV → MG → MU → Prop} {a b : Int} : Wp E 137 87 ls (.inl b :: .inl a :: st) g μ Q = Wp E 137 88 ls (.inl (mWr (a + b)) :: st) g μ Q := Wp_nx k137_87 rfl
theorem k137_88 : mCode 137 88 = some (.iaload, 1) := by decide +kernel
theorem x137_88 {E : ME} {ls : MLs} {st : List MV} {g : MG} {μ : MU} {Q : Option MV → MG → MU → Prop} {a : Nat} {j : Int} : Wp E 137 88 ls (.inl j :: .inr (.inr (.inl a)) :: st) g μ Q = (((mKd g a).1 = 10 ∧ 0 ≤ j ∧ j < (mKd g a).2) ∧ Wp E 137 89 ls (.inl (μ a j.toNat) :: st) g μ Q) := Wp_ald k137_88 (fun _ => rfl)
theorem k137_89 : mCode 137 89 = some (.aload_n 0, 1) := by decide +kernel
theorem x137_89 {E : ME} {ls : MLs} {st : List MV} {g : MG} {μ : MU} {Q : Option MV → MG → MU → Prop} {v : Nat ⊕ Nat} : Wp E 137 89 (some (.inr (.inr v)) :: ls) st g μ Q = Wp E 137 90 (some (.inr (.inr v)) :: ls) (.inr (.inr v) :: st) g μ Q := Wp_nx k137_89 rfl
theorem k137_90 : mCode 137 90 = some (.getfield 62, 3) := by decide +kernel
theorem x137_90 {E : ME} {ls : MLs} {st : List MV} {g : MG} {μ : MU} {Q : Option MV → MG → MU → Prop} {a : Nat} : Wp E 137 90 ls (.inr (.inr (.inl a)) :: st) g μ Q = ((mKd g a).1 = 6 ∧ Wp E 137 93 ls (mRv (mRf g a 23) :: st) g μ Q) := Wp_getR k137_90 f6_62 (by decide) (by decide)
theorem k137_93 : mCode 137 93 = some (.iload_n 1, 1) := by decide +kernel
theorem x137_93 {E : ME} {ls : MLs} {st : List MV} {g : MG} {μ : MU} {Q : Option MV → MG → MU → Prop} {l0 : Option MV} {v : Int} : Wp E 137 93 (l0 :: some (.inl v) :: ls) st g μ Q = Wp E 137 94 (l0 :: some (.inl v) :: ls) (.inl v :: st) g μ Q := Wp_nx k137_93 rfl
theorem k137_94 : mCode 137 94 = some (.iconst 2, 1) := by decide +kernel
theorem x137_94 {E : ME} {ls : MLs} {st : List MV} {g : MG} {μ : MU} {Q : Option MV → MG → MU → Prop} : Wp E 137 94 ls st g μ Q = Wp E 137 95 ls (.inl 2 :: st) g μ Q := Wp_nx k137_94 rfl
theorem k137_95 : mCode 137 95 = some (.iadd, 1) := by decide +kernel
theorem x137_95 {E : ME} {ls : MLs} {st : List MV} {g : MG} {μ : MU} {Q : Option MV → MG → MU → Prop} {a b : Int} : Wp E 137 95 ls (.inl b :: .inl a :: st) g μ Q = Wp E 137 96 ls (.inl (mWr (a + b)) :: st) g μ Q := Wp_nx k137_95 rfl
theorem k137_96 : mCode 137 96 = some (.iaload, 1) := by decide +kernel
theorem x137_96 {E : ME} {ls : MLs} {st : List MV} {g : MG} {μ : MU} {Q : Option MV → MG → MU → Prop} {a : Nat} {j : Int} : Wp E 137 96 ls (.inl j :: .inr (.inr (.inl a)) :: st) g μ Q = (((mKd g a).1 = 10 ∧ 0 ≤ j ∧ j < (mKd g a).2) ∧ Wp E 137 97 ls (.inl (μ a j.toNat) :: st) g μ Q) := Wp_ald k137_96 (fun _ => rfl)
theorem k137_97 : mCode 137 97 = some (.aload_n 0, 1) := by decide +kernel
theorem x137_97 {E : ME} {ls : MLs} {st : List MV} {g : MG} {μ : MU} {Q : Option MV → MG → MU → Prop} {v : Nat ⊕ Nat} : Wp E 137 97 (some (.inr (.inr v)) :: ls) st g μ Q = Wp E 137 98 (some (.inr (.inr v)) :: ls) (.inr (.inr v) :: st) g μ Q := Wp_nx k137_97 rfl
theorem k137_98 : mCode 137 98 = some (.getfield 62, 3) := by decide +kernel
theorem x137_98 {E : ME} {ls : MLs} {st : List MV} {g : MG} {μ : MU} {Q : Option MV → MG → MU → Prop} {a : Nat} : Wp E 137 98 ls (.inr (.inr (.inl a)) :: st) g μ Q = ((mKd g a).1 = 6 ∧ Wp E 137 101 ls (mRv (mRf g a 23) :: st) g μ Q) := Wp_getR k137_98 f6_62 (by decide) (by decide)
theorem k137_101 : mCode 137 101 = some (.iload_n 1, 1) := by decide +kernel
theorem x137_101 {E : ME} {ls : MLs} {st : List MV} {g : MG} {μ : MU} {Q : Option MV → MG → MU → Prop} {l0 : Option MV} {v : Int} : Wp E 137 101 (l0 :: some (.inl v) :: ls) st g μ Q = Wp E 137 102 (l0 :: some (.inl v) :: ls) (.inl v :: st) g μ Q := Wp_nx k137_101 rfl
theorem k137_102 : mCode 137 102 = some (.iconst 3, 1) := by decide +kernel
theorem x137_102 {E : ME} {ls : MLs} {st : List MV} {g : MG} {μ : MU} {Q : Option MV → MG → MU → Prop} : Wp E 137 102 ls st g μ Q = Wp E 137 103 ls (.inl 3 :: st) g μ Q := Wp_nx k137_102 rfl
theorem k137_103 : mCode 137 103 = some (.iadd, 1) := by decide +kernel
theorem x137_103 {E : ME} {ls : MLs} {st : List MV} {g : MG} {μ : MU} {Q : Option MV → MG → MU → Prop} {a b : Int} : Wp E 137 103 ls (.inl b :: .inl a :: st) g μ Q = Wp E 137 104 ls (.inl (mWr (a + b)) :: st) g μ Q := Wp_nx k137_103 rfl
theorem k137_104 : mCode 137 104 = some (.iaload, 1) := by decide +kernel
theorem x137_104 {E : ME} {ls : MLs} {st : List MV} {g : MG} {μ : MU} {Q : Option MV → MG → MU → Prop} {a : Nat} {j : Int} : Wp E 137 104 ls (.inl j :: .inr (.inr (.inl a)) :: st) g μ Q = (((mKd g a).1 = 10 ∧ 0 ≤ j ∧ j < (mKd g a).2) ∧ Wp E 137 105 ls (.inl (μ a j.toNat) :: st) g μ Q) := Wp_ald k137_104 (fun _ => rfl)
theorem k137_105 : mCode 137 105 = some (.aload_n 0, 1) := by decide +kernel
theorem x137_105 {E : ME} {ls : MLs} {st : List MV} {g : MG} {μ : MU} {Q : Option MV → MG → MU → Prop} {v : Nat ⊕ Nat} : Wp E 137 105 (some (.inr (.inr v)) :: ls) st g μ Q = Wp E 137 106 (some (.inr (.inr v)) :: ls) (.inr (.inr v) :: st) g μ Q := Wp_nx k137_105 rfl
theorem k137_106 : mCode 137 106 = some (.getfield 62, 3) := by decide +kernel
theorem x137_106 {E : ME} {ls : MLs} {st : List MV} {g : MG} {μ : MU} {Q : Option MV → MG → MU → Prop} {a : Nat} : Wp E 137 106 ls (.inr (.inr (.inl a)) :: st) g μ Q = ((mKd g a).1 = 6 ∧ Wp E 137 109 ls (mRv (mRf g a 23) :: st) g μ Q) := Wp_getR k137_106 f6_62 (by decide) (by decide)
theorem k137_109 : mCode 137 109 = some (.iload_n 1, 1) := by decide +kernel
theorem x137_109 {E : ME} {ls : MLs} {st : List MV} {g : MG} {μ : MU} {Q : Option MV → MG → MU → Prop} {l0 : Option MV} {v : Int} : Wp E 137 109 (l0 :: some (.inl v) :: ls) st g μ Q = Wp E 137 110 (l0 :: some (.inl v) :: ls) (.inl v :: st) g μ Q := Wp_nx k137_109 rfl
theorem k137_110 : mCode 137 110 = some (.iconst 4, 1) := by decide +kernel
theorem x137_110 {E : ME} {ls : MLs} {st : List MV} {g : MG} {μ : MU} {Q : Option MV → MG → MU → Prop} : Wp E 137 110 ls st g μ Q = Wp E 137 111 ls (.inl 4 :: st) g μ Q := Wp_nx k137_110 rfl
theorem k137_111 : mCode 137 111 = some (.iadd, 1) := by decide +kernel
theorem x137_111 {E : ME} {ls : MLs} {st : List MV} {g : MG} {μ : MU} {Q : Option MV → MG → MU → Prop} {a b : Int} : Wp E 137 111 ls (.inl b :: .inl a :: st) g μ Q = Wp E 137 112 ls (.inl (mWr (a + b)) :: st) g μ Q := Wp_nx k137_111 rfl
theorem k137_112 : mCode 137 112 = some (.iaload, 1) := by decide +kernel
theorem x137_112 {E : ME} {ls : MLs} {st : List MV} {g : MG} {μ : MU} {Q : Option MV → MG → MU → Prop} {a : Nat} {j : Int} : Wp E 137 112 ls (.inl j :: .inr (.inr (.inl a)) :: st) g μ Q = (((mKd g a).1 = 10 ∧ 0 ≤ j ∧ j < (mKd g a).2) ∧ Wp E 137 113 ls (.inl (μ a j.toNat) :: st) g μ Q) := Wp_ald k137_112 (fun _ => rfl)
theorem k137_113 : mCode 137 113 = some (.invokevirtual 143, 3) := by decide +kernel
theorem x137_113 {E : ME} {ls : MLs} {st : List MV} {g : MG} {μ : MU} {Q : Option MV → MG → MU → Prop} {r : Nat} {a0 : Int} {a1 : Int} {a2 : Int} {a3 : Int} : Wp E 137 113 ls (.inl a3 :: .inl a2 :: .inl a1 :: .inl a0 :: .inr (.inr (.inl r)) :: st) g μ Q = ((st.length ≤ 4 ∧ ((mKd g r).1 == 6) = true) ∧ Wp E 104 0 [some (.inr (.inr (.inl r))), some (.inl a0), some (.inl a1), some (.inl a2), some (.inl a3), none] [] g μ (fun r g' μ' => (g'.1 = g.1 ∧ g'.2.1 = g.2.1) ∧ Wp E 137 116 ls (mPush r st) g' μ' Q)) := Wp_cV k137_113 m6_143 (by decide) (as := [.inr (.inr (.inl r)), .inl a0, .inl a1, .inl a2, .inl a3]) rfl rfl rfl ⟨Nat.le_of_ble_eq_true rfl, by decide⟩
theorem k137_116 : mCode 137 116 = some (.pop, 1) := by decide +kernel
theorem x137_116 {E : ME} {ls : MLs} {st : List MV} {g : MG} {μ : MU} {Q : Option MV → MG → MU → Prop} {v : MV} : Wp E 137 116 ls (v :: st) g μ Q = (mC1 v = true ∧ Wp E 137 117 ls st g μ Q) := Wp_pop k137_116
theorem k137_117 : mCode 137 117 = some (.goto 91, 3) := by decide +kernel
theorem x137_117 {E : ME} {ls : MLs} {st : List MV} {g : MG} {μ : MU} {Q : Option MV → MG → MU → Prop} : Wp E 137 117 ls st g μ Q = Wp E 137 208 ls st g μ Q := Wp_goto k137_117 (by decide)
theorem k137_120 : mCode 137 120 = some (.aload_n 0, 1) := by decide +kernel
theorem x137_120 {E : ME} {ls : MLs} {st : List MV} {g : MG} {μ : MU} {Q : Option MV → MG → MU → Prop} {v : Nat ⊕ Nat} : Wp E 137 120 (some (.inr (.inr v)) :: ls) st g μ Q = Wp E 137 121 (some (.inr (.inr v)) :: ls) (.inr (.inr v) :: st) g μ Q := Wp_nx k137_120 rfl
theorem k137_121 : mCode 137 121 = some (.aload_n 0, 1) := by decide +kernel
theorem x137_121 {E : ME} {ls : MLs} {st : List MV} {g : MG} {μ : MU} {Q : Option MV → MG → MU → Prop} {v : Nat ⊕ Nat} : Wp E 137 121 (some (.inr (.inr v)) :: ls) st g μ Q = Wp E 137 122 (some (.inr (.inr v)) :: ls) (.inr (.inr v) :: st) g μ Q := Wp_nx k137_121 rfl
theorem k137_122 : mCode 137 122 = some (.getfield 62, 3) := by decide +kernel
theorem x137_122 {E : ME} {ls : MLs} {st : List MV} {g : MG} {μ : MU} {Q : Option MV → MG → MU → Prop} {a : Nat} : Wp E 137 122 ls (.inr (.inr (.inl a)) :: st) g μ Q = ((mKd g a).1 = 6 ∧ Wp E 137 125 ls (mRv (mRf g a 23) :: st) g μ Q) := Wp_getR k137_122 f6_62 (by decide) (by decide)
theorem k137_125 : mCode 137 125 = some (.iload_n 1, 1) := by decide +kernel
theorem x137_125 {E : ME} {ls : MLs} {st : List MV} {g : MG} {μ : MU} {Q : Option MV → MG → MU → Prop} {l0 : Option MV} {v : Int} : Wp E 137 125 (l0 :: some (.inl v) :: ls) st g μ Q = Wp E 137 126 (l0 :: some (.inl v) :: ls) (.inl v :: st) g μ Q := Wp_nx k137_125 rfl
theorem k137_126 : mCode 137 126 = some (.iconst 1, 1) := by decide +kernel
theorem x137_126 {E : ME} {ls : MLs} {st : List MV} {g : MG} {μ : MU} {Q : Option MV → MG → MU → Prop} : Wp E 137 126 ls st g μ Q = Wp E 137 127 ls (.inl 1 :: st) g μ Q := Wp_nx k137_126 rfl
theorem k137_127 : mCode 137 127 = some (.iadd, 1) := by decide +kernel
theorem x137_127 {E : ME} {ls : MLs} {st : List MV} {g : MG} {μ : MU} {Q : Option MV → MG → MU → Prop} {a b : Int} : Wp E 137 127 ls (.inl b :: .inl a :: st) g μ Q = Wp E 137 128 ls (.inl (mWr (a + b)) :: st) g μ Q := Wp_nx k137_127 rfl
theorem k137_128 : mCode 137 128 = some (.iaload, 1) := by decide +kernel
theorem x137_128 {E : ME} {ls : MLs} {st : List MV} {g : MG} {μ : MU} {Q : Option MV → MG → MU → Prop} {a : Nat} {j : Int} : Wp E 137 128 ls (.inl j :: .inr (.inr (.inl a)) :: st) g μ Q = (((mKd g a).1 = 10 ∧ 0 ≤ j ∧ j < (mKd g a).2) ∧ Wp E 137 129 ls (.inl (μ a j.toNat) :: st) g μ Q) := Wp_ald k137_128 (fun _ => rfl)
theorem k137_129 : mCode 137 129 = some (.aload_n 0, 1) := by decide +kernel
theorem x137_129 {E : ME} {ls : MLs} {st : List MV} {g : MG} {μ : MU} {Q : Option MV → MG → MU → Prop} {v : Nat ⊕ Nat} : Wp E 137 129 (some (.inr (.inr v)) :: ls) st g μ Q = Wp E 137 130 (some (.inr (.inr v)) :: ls) (.inr (.inr v) :: st) g μ Q := Wp_nx k137_129 rfl
theorem k137_130 : mCode 137 130 = some (.getfield 62, 3) := by decide +kernel
theorem x137_130 {E : ME} {ls : MLs} {st : List MV} {g : MG} {μ : MU} {Q : Option MV → MG → MU → Prop} {a : Nat} : Wp E 137 130 ls (.inr (.inr (.inl a)) :: st) g μ Q = ((mKd g a).1 = 6 ∧ Wp E 137 133 ls (mRv (mRf g a 23) :: st) g μ Q) := Wp_getR k137_130 f6_62 (by decide) (by decide)
theorem k137_133 : mCode 137 133 = some (.iload_n 1, 1) := by decide +kernel
theorem x137_133 {E : ME} {ls : MLs} {st : List MV} {g : MG} {μ : MU} {Q : Option MV → MG → MU → Prop} {l0 : Option MV} {v : Int} : Wp E 137 133 (l0 :: some (.inl v) :: ls) st g μ Q = Wp E 137 134 (l0 :: some (.inl v) :: ls) (.inl v :: st) g μ Q := Wp_nx k137_133 rfl
theorem k137_134 : mCode 137 134 = some (.iconst 2, 1) := by decide +kernel
theorem x137_134 {E : ME} {ls : MLs} {st : List MV} {g : MG} {μ : MU} {Q : Option MV → MG → MU → Prop} : Wp E 137 134 ls st g μ Q = Wp E 137 135 ls (.inl 2 :: st) g μ Q := Wp_nx k137_134 rfl
theorem k137_135 : mCode 137 135 = some (.iadd, 1) := by decide +kernel
theorem x137_135 {E : ME} {ls : MLs} {st : List MV} {g : MG} {μ : MU} {Q : Option MV → MG → MU → Prop} {a b : Int} : Wp E 137 135 ls (.inl b :: .inl a :: st) g μ Q = Wp E 137 136 ls (.inl (mWr (a + b)) :: st) g μ Q := Wp_nx k137_135 rfl
theorem k137_136 : mCode 137 136 = some (.iaload, 1) := by decide +kernel
theorem x137_136 {E : ME} {ls : MLs} {st : List MV} {g : MG} {μ : MU} {Q : Option MV → MG → MU → Prop} {a : Nat} {j : Int} : Wp E 137 136 ls (.inl j :: .inr (.inr (.inl a)) :: st) g μ Q = (((mKd g a).1 = 10 ∧ 0 ≤ j ∧ j < (mKd g a).2) ∧ Wp E 137 137 ls (.inl (μ a j.toNat) :: st) g μ Q) := Wp_ald k137_136 (fun _ => rfl)
theorem k137_137 : mCode 137 137 = some (.aload_n 0, 1) := by decide +kernel
theorem x137_137 {E : ME} {ls : MLs} {st : List MV} {g : MG} {μ : MU} {Q : Option MV → MG → MU → Prop} {v : Nat ⊕ Nat} : Wp E 137 137 (some (.inr (.inr v)) :: ls) st g μ Q = Wp E 137 138 (some (.inr (.inr v)) :: ls) (.inr (.inr v) :: st) g μ Q := Wp_nx k137_137 rfl
theorem k137_138 : mCode 137 138 = some (.getfield 62, 3) := by decide +kernel
theorem x137_138 {E : ME} {ls : MLs} {st : List MV} {g : MG} {μ : MU} {Q : Option MV → MG → MU → Prop} {a : Nat} : Wp E 137 138 ls (.inr (.inr (.inl a)) :: st) g μ Q = ((mKd g a).1 = 6 ∧ Wp E 137 141 ls (mRv (mRf g a 23) :: st) g μ Q) := Wp_getR k137_138 f6_62 (by decide) (by decide)
theorem k137_141 : mCode 137 141 = some (.iload_n 1, 1) := by decide +kernel
theorem x137_141 {E : ME} {ls : MLs} {st : List MV} {g : MG} {μ : MU} {Q : Option MV → MG → MU → Prop} {l0 : Option MV} {v : Int} : Wp E 137 141 (l0 :: some (.inl v) :: ls) st g μ Q = Wp E 137 142 (l0 :: some (.inl v) :: ls) (.inl v :: st) g μ Q := Wp_nx k137_141 rfl
theorem k137_142 : mCode 137 142 = some (.iconst 3, 1) := by decide +kernel
theorem x137_142 {E : ME} {ls : MLs} {st : List MV} {g : MG} {μ : MU} {Q : Option MV → MG → MU → Prop} : Wp E 137 142 ls st g μ Q = Wp E 137 143 ls (.inl 3 :: st) g μ Q := Wp_nx k137_142 rfl
theorem k137_143 : mCode 137 143 = some (.iadd, 1) := by decide +kernel
theorem x137_143 {E : ME} {ls : MLs} {st : List MV} {g : MG} {μ : MU} {Q : Option MV → MG → MU → Prop} {a b : Int} : Wp E 137 143 ls (.inl b :: .inl a :: st) g μ Q = Wp E 137 144 ls (.inl (mWr (a + b)) :: st) g μ Q := Wp_nx k137_143 rfl
theorem k137_144 : mCode 137 144 = some (.iaload, 1) := by decide +kernel
theorem x137_144 {E : ME} {ls : MLs} {st : List MV} {g : MG} {μ : MU} {Q : Option MV → MG → MU → Prop} {a : Nat} {j : Int} : Wp E 137 144 ls (.inl j :: .inr (.inr (.inl a)) :: st) g μ Q = (((mKd g a).1 = 10 ∧ 0 ≤ j ∧ j < (mKd g a).2) ∧ Wp E 137 145 ls (.inl (μ a j.toNat) :: st) g μ Q) := Wp_ald k137_144 (fun _ => rfl)
theorem k137_145 : mCode 137 145 = some (.invokevirtual 136, 3) := by decide +kernel
theorem x137_145 {E : ME} {ls : MLs} {st : List MV} {g : MG} {μ : MU} {Q : Option MV → MG → MU → Prop} {r : Nat} {a0 : Int} {a1 : Int} {a2 : Int} : Wp E 137 145 ls (.inl a2 :: .inl a1 :: .inl a0 :: .inr (.inr (.inl r)) :: st) g μ Q = ((st.length ≤ 4 ∧ ((mKd g r).1 == 6) = true) ∧ Wp E 101 0 [some (.inr (.inr (.inl r))), some (.inl a0), some (.inl a1), some (.inl a2), none] [] g μ (fun r g' μ' => (g'.1 = g.1 ∧ g'.2.1 = g.2.1) ∧ Wp E 137 148 ls (mPush r st) g' μ' Q)) := Wp_cV k137_145 m6_136 (by decide) (as := [.inr (.inr (.inl r)), .inl a0, .inl a1, .inl a2]) rfl rfl rfl ⟨Nat.le_of_ble_eq_true rfl, by decide⟩
theorem k137_148 : mCode 137 148 = some (.pop, 1) := by decide +kernel
theorem x137_148 {E : ME} {ls : MLs} {st : List MV} {g : MG} {μ : MU} {Q : Option MV → MG → MU → Prop} {v : MV} : Wp E 137 148 ls (v :: st) g μ Q = (mC1 v = true ∧ Wp E 137 149 ls st g μ Q) := Wp_pop k137_148
theorem k137_149 : mCode 137 149 = some (.goto 59, 3) := by decide +kernel
theorem x137_149 {E : ME} {ls : MLs} {st : List MV} {g : MG} {μ : MU} {Q : Option MV → MG → MU → Prop} : Wp E 137 149 ls st g μ Q = Wp E 137 208 ls st g μ Q := Wp_goto k137_149 (by decide)
theorem k137_152 : mCode 137 152 = some (.aload_n 0, 1) := by decide +kernel
theorem x137_152 {E : ME} {ls : MLs} {st : List MV} {g : MG} {μ : MU} {Q : Option MV → MG → MU → Prop} {v : Nat ⊕ Nat} : Wp E 137 152 (some (.inr (.inr v)) :: ls) st g μ Q = Wp E 137 153 (some (.inr (.inr v)) :: ls) (.inr (.inr v) :: st) g μ Q := Wp_nx k137_152 rfl
theorem k137_153 : mCode 137 153 = some (.getfield 7, 3) := by decide +kernel
theorem x137_153 {E : ME} {ls : MLs} {st : List MV} {g : MG} {μ : MU} {Q : Option MV → MG → MU → Prop} {a : Nat} : Wp E 137 153 ls (.inr (.inr (.inl a)) :: st) g μ Q = ((mKd g a).1 = 6 ∧ Wp E 137 156 ls (mRv (mRf g a 1) :: st) g μ Q) := Wp_getR k137_153 f6_7 (by decide) (by decide)
theorem k137_156 : mCode 137 156 = some (.bipush 23, 2) := by decide +kernel
theorem x137_156 {E : ME} {ls : MLs} {st : List MV} {g : MG} {μ : MU} {Q : Option MV → MG → MU → Prop} : Wp E 137 156 ls st g μ Q = Wp E 137 158 ls (.inl 23 :: st) g μ Q := Wp_nx k137_156 rfl
theorem k137_158 : mCode 137 158 = some (.bipush 9, 2) := by decide +kernel
theorem x137_158 {E : ME} {ls : MLs} {st : List MV} {g : MG} {μ : MU} {Q : Option MV → MG → MU → Prop} : Wp E 137 158 ls st g μ Q = Wp E 137 160 ls (.inl 9 :: st) g μ Q := Wp_nx k137_158 rfl
theorem k137_160 : mCode 137 160 = some (.aload_n 0, 1) := by decide +kernel
theorem x137_160 {E : ME} {ls : MLs} {st : List MV} {g : MG} {μ : MU} {Q : Option MV → MG → MU → Prop} {v : Nat ⊕ Nat} : Wp E 137 160 (some (.inr (.inr v)) :: ls) st g μ Q = Wp E 137 161 (some (.inr (.inr v)) :: ls) (.inr (.inr v) :: st) g μ Q := Wp_nx k137_160 rfl
theorem k137_161 : mCode 137 161 = some (.getfield 62, 3) := by decide +kernel
theorem x137_161 {E : ME} {ls : MLs} {st : List MV} {g : MG} {μ : MU} {Q : Option MV → MG → MU → Prop} {a : Nat} : Wp E 137 161 ls (.inr (.inr (.inl a)) :: st) g μ Q = ((mKd g a).1 = 6 ∧ Wp E 137 164 ls (mRv (mRf g a 23) :: st) g μ Q) := Wp_getR k137_161 f6_62 (by decide) (by decide)
theorem k137_164 : mCode 137 164 = some (.iload_n 1, 1) := by decide +kernel
theorem x137_164 {E : ME} {ls : MLs} {st : List MV} {g : MG} {μ : MU} {Q : Option MV → MG → MU → Prop} {l0 : Option MV} {v : Int} : Wp E 137 164 (l0 :: some (.inl v) :: ls) st g μ Q = Wp E 137 165 (l0 :: some (.inl v) :: ls) (.inl v :: st) g μ Q := Wp_nx k137_164 rfl
theorem k137_165 : mCode 137 165 = some (.iconst 1, 1) := by decide +kernel
theorem x137_165 {E : ME} {ls : MLs} {st : List MV} {g : MG} {μ : MU} {Q : Option MV → MG → MU → Prop} : Wp E 137 165 ls st g μ Q = Wp E 137 166 ls (.inl 1 :: st) g μ Q := Wp_nx k137_165 rfl
theorem k137_166 : mCode 137 166 = some (.iadd, 1) := by decide +kernel
theorem x137_166 {E : ME} {ls : MLs} {st : List MV} {g : MG} {μ : MU} {Q : Option MV → MG → MU → Prop} {a b : Int} : Wp E 137 166 ls (.inl b :: .inl a :: st) g μ Q = Wp E 137 167 ls (.inl (mWr (a + b)) :: st) g μ Q := Wp_nx k137_166 rfl
theorem k137_167 : mCode 137 167 = some (.iaload, 1) := by decide +kernel
theorem x137_167 {E : ME} {ls : MLs} {st : List MV} {g : MG} {μ : MU} {Q : Option MV → MG → MU → Prop} {a : Nat} {j : Int} : Wp E 137 167 ls (.inl j :: .inr (.inr (.inl a)) :: st) g μ Q = (((mKd g a).1 = 10 ∧ 0 ≤ j ∧ j < (mKd g a).2) ∧ Wp E 137 168 ls (.inl (μ a j.toNat) :: st) g μ Q) := Wp_ald k137_167 (fun _ => rfl)
theorem k137_168 : mCode 137 168 = some (.imul, 1) := by decide +kernel
theorem x137_168 {E : ME} {ls : MLs} {st : List MV} {g : MG} {μ : MU} {Q : Option MV → MG → MU → Prop} {a b : Int} : Wp E 137 168 ls (.inl b :: .inl a :: st) g μ Q = Wp E 137 169 ls (.inl (mWr (a * b)) :: st) g μ Q := Wp_nx k137_168 rfl
theorem k137_169 : mCode 137 169 = some (.iadd, 1) := by decide +kernel
theorem x137_169 {E : ME} {ls : MLs} {st : List MV} {g : MG} {μ : MU} {Q : Option MV → MG → MU → Prop} {a b : Int} : Wp E 137 169 ls (.inl b :: .inl a :: st) g μ Q = Wp E 137 170 ls (.inl (mWr (a + b)) :: st) g μ Q := Wp_nx k137_169 rfl
theorem k137_170 : mCode 137 170 = some (.iconst 3, 1) := by decide +kernel
theorem x137_170 {E : ME} {ls : MLs} {st : List MV} {g : MG} {μ : MU} {Q : Option MV → MG → MU → Prop} : Wp E 137 170 ls st g μ Q = Wp E 137 171 ls (.inl 3 :: st) g μ Q := Wp_nx k137_170 rfl
theorem k137_171 : mCode 137 171 = some (.iadd, 1) := by decide +kernel
theorem x137_171 {E : ME} {ls : MLs} {st : List MV} {g : MG} {μ : MU} {Q : Option MV → MG → MU → Prop} {a b : Int} : Wp E 137 171 ls (.inl b :: .inl a :: st) g μ Q = Wp E 137 172 ls (.inl (mWr (a + b)) :: st) g μ Q := Wp_nx k137_171 rfl
theorem k137_172 : mCode 137 172 = some (.aload_n 0, 1) := by decide +kernel
theorem x137_172 {E : ME} {ls : MLs} {st : List MV} {g : MG} {μ : MU} {Q : Option MV → MG → MU → Prop} {v : Nat ⊕ Nat} : Wp E 137 172 (some (.inr (.inr v)) :: ls) st g μ Q = Wp E 137 173 (some (.inr (.inr v)) :: ls) (.inr (.inr v) :: st) g μ Q := Wp_nx k137_172 rfl
theorem k137_173 : mCode 137 173 = some (.getfield 62, 3) := by decide +kernel
theorem x137_173 {E : ME} {ls : MLs} {st : List MV} {g : MG} {μ : MU} {Q : Option MV → MG → MU → Prop} {a : Nat} : Wp E 137 173 ls (.inr (.inr (.inl a)) :: st) g μ Q = ((mKd g a).1 = 6 ∧ Wp E 137 176 ls (mRv (mRf g a 23) :: st) g μ Q) := Wp_getR k137_173 f6_62 (by decide) (by decide)
theorem k137_176 : mCode 137 176 = some (.iload_n 1, 1) := by decide +kernel
theorem x137_176 {E : ME} {ls : MLs} {st : List MV} {g : MG} {μ : MU} {Q : Option MV → MG → MU → Prop} {l0 : Option MV} {v : Int} : Wp E 137 176 (l0 :: some (.inl v) :: ls) st g μ Q = Wp E 137 177 (l0 :: some (.inl v) :: ls) (.inl v :: st) g μ Q := Wp_nx k137_176 rfl
theorem k137_177 : mCode 137 177 = some (.iconst 2, 1) := by decide +kernel
theorem x137_177 {E : ME} {ls : MLs} {st : List MV} {g : MG} {μ : MU} {Q : Option MV → MG → MU → Prop} : Wp E 137 177 ls st g μ Q = Wp E 137 178 ls (.inl 2 :: st) g μ Q := Wp_nx k137_177 rfl
theorem k137_178 : mCode 137 178 = some (.iadd, 1) := by decide +kernel
theorem x137_178 {E : ME} {ls : MLs} {st : List MV} {g : MG} {μ : MU} {Q : Option MV → MG → MU → Prop} {a b : Int} : Wp E 137 178 ls (.inl b :: .inl a :: st) g μ Q = Wp E 137 179 ls (.inl (mWr (a + b)) :: st) g μ Q := Wp_nx k137_178 rfl
theorem k137_179 : mCode 137 179 = some (.iaload, 1) := by decide +kernel
theorem x137_179 {E : ME} {ls : MLs} {st : List MV} {g : MG} {μ : MU} {Q : Option MV → MG → MU → Prop} {a : Nat} {j : Int} : Wp E 137 179 ls (.inl j :: .inr (.inr (.inl a)) :: st) g μ Q = (((mKd g a).1 = 10 ∧ 0 ≤ j ∧ j < (mKd g a).2) ∧ Wp E 137 180 ls (.inl (μ a j.toNat) :: st) g μ Q) := Wp_ald k137_179 (fun _ => rfl)
theorem k137_180 : mCode 137 180 = some (.iadd, 1) := by decide +kernel
theorem x137_180 {E : ME} {ls : MLs} {st : List MV} {g : MG} {μ : MU} {Q : Option MV → MG → MU → Prop} {a b : Int} : Wp E 137 180 ls (.inl b :: .inl a :: st) g μ Q = Wp E 137 181 ls (.inl (mWr (a + b)) :: st) g μ Q := Wp_nx k137_180 rfl
theorem k137_181 : mCode 137 181 = some (.aload_n 0, 1) := by decide +kernel
theorem x137_181 {E : ME} {ls : MLs} {st : List MV} {g : MG} {μ : MU} {Q : Option MV → MG → MU → Prop} {v : Nat ⊕ Nat} : Wp E 137 181 (some (.inr (.inr v)) :: ls) st g μ Q = Wp E 137 182 (some (.inr (.inr v)) :: ls) (.inr (.inr v) :: st) g μ Q := Wp_nx k137_181 rfl
theorem k137_182 : mCode 137 182 = some (.getfield 62, 3) := by decide +kernel
theorem x137_182 {E : ME} {ls : MLs} {st : List MV} {g : MG} {μ : MU} {Q : Option MV → MG → MU → Prop} {a : Nat} : Wp E 137 182 ls (.inr (.inr (.inl a)) :: st) g μ Q = ((mKd g a).1 = 6 ∧ Wp E 137 185 ls (mRv (mRf g a 23) :: st) g μ Q) := Wp_getR k137_182 f6_62 (by decide) (by decide)
theorem k137_185 : mCode 137 185 = some (.iload_n 1, 1) := by decide +kernel
theorem x137_185 {E : ME} {ls : MLs} {st : List MV} {g : MG} {μ : MU} {Q : Option MV → MG → MU → Prop} {l0 : Option MV} {v : Int} : Wp E 137 185 (l0 :: some (.inl v) :: ls) st g μ Q = Wp E 137 186 (l0 :: some (.inl v) :: ls) (.inl v :: st) g μ Q := Wp_nx k137_185 rfl
theorem k137_186 : mCode 137 186 = some (.iconst 3, 1) := by decide +kernel
theorem x137_186 {E : ME} {ls : MLs} {st : List MV} {g : MG} {μ : MU} {Q : Option MV → MG → MU → Prop} : Wp E 137 186 ls st g μ Q = Wp E 137 187 ls (.inl 3 :: st) g μ Q := Wp_nx k137_186 rfl
theorem k137_187 : mCode 137 187 = some (.iadd, 1) := by decide +kernel
theorem x137_187 {E : ME} {ls : MLs} {st : List MV} {g : MG} {μ : MU} {Q : Option MV → MG → MU → Prop} {a b : Int} : Wp E 137 187 ls (.inl b :: .inl a :: st) g μ Q = Wp E 137 188 ls (.inl (mWr (a + b)) :: st) g μ Q := Wp_nx k137_187 rfl
theorem k137_188 : mCode 137 188 = some (.iaload, 1) := by decide +kernel
theorem x137_188 {E : ME} {ls : MLs} {st : List MV} {g : MG} {μ : MU} {Q : Option MV → MG → MU → Prop} {a : Nat} {j : Int} : Wp E 137 188 ls (.inl j :: .inr (.inr (.inl a)) :: st) g μ Q = (((mKd g a).1 = 10 ∧ 0 ≤ j ∧ j < (mKd g a).2) ∧ Wp E 137 189 ls (.inl (μ a j.toNat) :: st) g μ Q) := Wp_ald k137_188 (fun _ => rfl)
theorem k137_189 : mCode 137 189 = some (.iconst 1, 1) := by decide +kernel
theorem x137_189 {E : ME} {ls : MLs} {st : List MV} {g : MG} {μ : MU} {Q : Option MV → MG → MU → Prop} : Wp E 137 189 ls st g μ Q = Wp E 137 190 ls (.inl 1 :: st) g μ Q := Wp_nx k137_189 rfl
theorem k137_190 : mCode 137 190 = some (.iadd, 1) := by decide +kernel
theorem x137_190 {E : ME} {ls : MLs} {st : List MV} {g : MG} {μ : MU} {Q : Option MV → MG → MU → Prop} {a b : Int} : Wp E 137 190 ls (.inl b :: .inl a :: st) g μ Q = Wp E 137 191 ls (.inl (mWr (a + b)) :: st) g μ Q := Wp_nx k137_190 rfl
theorem k137_191 : mCode 137 191 = some (.iastore, 1) := by decide +kernel
theorem x137_191 {E : ME} {ls : MLs} {st : List MV} {g : MG} {μ : MU} {Q : Option MV → MG → MU → Prop} {a : Nat} {j v : Int} : Wp E 137 191 ls (.inl v :: .inl j :: .inr (.inr (.inl a)) :: st) g μ Q = (((mKd g a).1 = 10 ∧ 0 ≤ j ∧ j < (mKd g a).2) ∧ Wp E 137 192 ls st g (mUp μ a j.toNat v) Q) := Wp_iast k137_191
theorem k137_192 : mCode 137 192 = some (.goto 16, 3) := by decide +kernel
theorem x137_192 {E : ME} {ls : MLs} {st : List MV} {g : MG} {μ : MU} {Q : Option MV → MG → MU → Prop} : Wp E 137 192 ls st g μ Q = Wp E 137 208 ls st g μ Q := Wp_goto k137_192 (by decide)
theorem k137_195 : mCode 137 195 = some (.aload_n 0, 1) := by decide +kernel
theorem x137_195 {E : ME} {ls : MLs} {st : List MV} {g : MG} {μ : MU} {Q : Option MV → MG → MU → Prop} {v : Nat ⊕ Nat} : Wp E 137 195 (some (.inr (.inr v)) :: ls) st g μ Q = Wp E 137 196 (some (.inr (.inr v)) :: ls) (.inr (.inr v) :: st) g μ Q := Wp_nx k137_195 rfl
theorem k137_196 : mCode 137 196 = some (.aload_n 0, 1) := by decide +kernel
theorem x137_196 {E : ME} {ls : MLs} {st : List MV} {g : MG} {μ : MU} {Q : Option MV → MG → MU → Prop} {v : Nat ⊕ Nat} : Wp E 137 196 (some (.inr (.inr v)) :: ls) st g μ Q = Wp E 137 197 (some (.inr (.inr v)) :: ls) (.inr (.inr v) :: st) g μ Q := Wp_nx k137_196 rfl
theorem k137_197 : mCode 137 197 = some (.getfield 62, 3) := by decide +kernel
theorem x137_197 {E : ME} {ls : MLs} {st : List MV} {g : MG} {μ : MU} {Q : Option MV → MG → MU → Prop} {a : Nat} : Wp E 137 197 ls (.inr (.inr (.inl a)) :: st) g μ Q = ((mKd g a).1 = 6 ∧ Wp E 137 200 ls (mRv (mRf g a 23) :: st) g μ Q) := Wp_getR k137_197 f6_62 (by decide) (by decide)
theorem k137_200 : mCode 137 200 = some (.iload_n 1, 1) := by decide +kernel
theorem x137_200 {E : ME} {ls : MLs} {st : List MV} {g : MG} {μ : MU} {Q : Option MV → MG → MU → Prop} {l0 : Option MV} {v : Int} : Wp E 137 200 (l0 :: some (.inl v) :: ls) st g μ Q = Wp E 137 201 (l0 :: some (.inl v) :: ls) (.inl v :: st) g μ Q := Wp_nx k137_200 rfl
theorem k137_201 : mCode 137 201 = some (.iconst 1, 1) := by decide +kernel
theorem x137_201 {E : ME} {ls : MLs} {st : List MV} {g : MG} {μ : MU} {Q : Option MV → MG → MU → Prop} : Wp E 137 201 ls st g μ Q = Wp E 137 202 ls (.inl 1 :: st) g μ Q := Wp_nx k137_201 rfl
theorem k137_202 : mCode 137 202 = some (.iadd, 1) := by decide +kernel
theorem x137_202 {E : ME} {ls : MLs} {st : List MV} {g : MG} {μ : MU} {Q : Option MV → MG → MU → Prop} {a b : Int} : Wp E 137 202 ls (.inl b :: .inl a :: st) g μ Q = Wp E 137 203 ls (.inl (mWr (a + b)) :: st) g μ Q := Wp_nx k137_202 rfl
theorem k137_203 : mCode 137 203 = some (.iaload, 1) := by decide +kernel
theorem x137_203 {E : ME} {ls : MLs} {st : List MV} {g : MG} {μ : MU} {Q : Option MV → MG → MU → Prop} {a : Nat} {j : Int} : Wp E 137 203 ls (.inl j :: .inr (.inr (.inl a)) :: st) g μ Q = (((mKd g a).1 = 10 ∧ 0 ≤ j ∧ j < (mKd g a).2) ∧ Wp E 137 204 ls (.inl (μ a j.toNat) :: st) g μ Q) := Wp_ald k137_203 (fun _ => rfl)
theorem k137_204 : mCode 137 204 = some (.invokevirtual 149, 3) := by decide +kernel
theorem x137_204 {E : ME} {ls : MLs} {st : List MV} {g : MG} {μ : MU} {Q : Option MV → MG → MU → Prop} {r : Nat} {a0 : Int} : Wp E 137 204 ls (.inl a0 :: .inr (.inr (.inl r)) :: st) g μ Q = ((st.length ≤ 4 ∧ ((mKd g r).1 == 6) = true) ∧ Wp E 106 0 [some (.inr (.inr (.inl r))), some (.inl a0), none] [] g μ (fun r g' μ' => (g'.1 = g.1 ∧ g'.2.1 = g.2.1) ∧ Wp E 137 207 ls (mPush r st) g' μ' Q)) := Wp_cV k137_204 m6_149 (by decide) (as := [.inr (.inr (.inl r)), .inl a0]) rfl rfl rfl ⟨Nat.le_of_ble_eq_true rfl, by decide⟩
theorem k137_207 : mCode 137 207 = some (.pop, 1) := by decide +kernel
theorem x137_207 {E : ME} {ls : MLs} {st : List MV} {g : MG} {μ : MU} {Q : Option MV → MG → MU → Prop} {v : MV} : Wp E 137 207 ls (v :: st) g μ Q = (mC1 v = true ∧ Wp E 137 208 ls st g μ Q) := Wp_pop k137_207
theorem k137_208 : mCode 137 208 = some (.return_, 1) := by decide +kernel
theorem x137_208 {E : ME} {ls : MLs} {g : MG} {μ : MU} {Q : Option MV → MG → MU → Prop} : Wp E 137 208 ls [] g μ Q = Q none g μ := Wp_retV k137_208 (by decide)
theorem k138_0 : mCode 138 0 = some (.aload_n 0, 1) := by decide +kernel
theorem x138_0 {E : ME} {ls : MLs} {st : List MV} {g : MG} {μ : MU} {Q : Option MV → MG → MU → Prop} {v : Nat ⊕ Nat} : Wp E 138 0 (some (.inr (.inr v)) :: ls) st g μ Q = Wp E 138 1 (some (.inr (.inr v)) :: ls) (.inr (.inr v) :: st) g μ Q := Wp_nx k138_0 rfl
theorem k138_1 : mCode 138 1 = some (.iconst 0, 1) := by decide +kernel
theorem x138_1 {E : ME} {ls : MLs} {st : List MV} {g : MG} {μ : MU} {Q : Option MV → MG → MU → Prop} : Wp E 138 1 ls st g μ Q = Wp E 138 2 ls (.inl 0 :: st) g μ Q := Wp_nx k138_1 rfl
theorem k138_2 : mCode 138 2 = some (.putfield 65, 3) := by decide +kernel
theorem x138_2 {E : ME} {ls : MLs} {st : List MV} {g : MG} {μ : MU} {Q : Option MV → MG → MU → Prop} {a : Nat} {v : Int} : Wp E 138 2 ls (.inl v :: .inr (.inr (.inl a)) :: st) g μ Q = ((mKd g a).1 = 6 ∧ Wp E 138 5 ls st g (mUp μ a 0 v) Q) := Wp_putI0 k138_2 f6_65 (by decide) (by decide)
theorem k138_5 : mCode 138 5 = some (.aload_n 0, 1) := by decide +kernel
theorem x138_5 {E : ME} {ls : MLs} {st : List MV} {g : MG} {μ : MU} {Q : Option MV → MG → MU → Prop} {v : Nat ⊕ Nat} : Wp E 138 5 (some (.inr (.inr v)) :: ls) st g μ Q = Wp E 138 6 (some (.inr (.inr v)) :: ls) (.inr (.inr v) :: st) g μ Q := Wp_nx k138_5 rfl
theorem k138_6 : mCode 138 6 = some (.invokevirtual 217, 3) := by decide +kernel
theorem x138_6 {E : ME} {ls : MLs} {st : List MV} {g : MG} {μ : MU} {Q : Option MV → MG → MU → Prop} {r : Nat} : Wp E 138 6 ls (.inr (.inr (.inl r)) :: st) g μ Q = ((st.length ≤ 4 ∧ ((mKd g r).1 == 6) = true) ∧ Wp E 134 0 [some (.inr (.inr (.inl r)))] [] g μ (fun r g' μ' => (g'.1 = g.1 ∧ g'.2.1 = g.2.1) ∧ Wp E 138 9 ls (mPush r st) g' μ' Q)) := Wp_cV k138_6 m6_217 (by decide) (as := [.inr (.inr (.inl r))]) rfl rfl rfl ⟨Nat.le_of_ble_eq_true rfl, by decide⟩
theorem k138_9 : mCode 138 9 = some (.bipush (-6), 2) := by decide +kernel
theorem x138_9 {E : ME} {ls : MLs} {st : List MV} {g : MG} {μ : MU} {Q : Option MV → MG → MU → Prop} : Wp E 138 9 ls st g μ Q = Wp E 138 11 ls (.inl (-6) :: st) g μ Q := Wp_nx k138_9 rfl
theorem k138_11 : mCode 138 11 = some (.if_icmp .eq 6, 3) := by decide +kernel
theorem x138_11 {E : ME} {ls : MLs} {st : List MV} {g : MG} {μ : MU} {Q : Option MV → MG → MU → Prop} {a b : Int} : Wp E 138 11 ls (.inl b :: .inl a :: st) g μ Q = ((a = b → Wp E 138 17 ls st g μ Q) ∧ (¬ a = b → Wp E 138 14 ls st g μ Q)) := Wp_cmp_eq k138_11 (by decide)
theorem k138_14 : mCode 138 14 = some (.bipush (-3), 2) := by decide +kernel
theorem x138_14 {E : ME} {ls : MLs} {st : List MV} {g : MG} {μ : MU} {Q : Option MV → MG → MU → Prop} : Wp E 138 14 ls st g μ Q = Wp E 138 16 ls (.inl (-3) :: st) g μ Q := Wp_nx k138_14 rfl
theorem k138_16 : mCode 138 16 = some (.ireturn, 1) := by decide +kernel
theorem x138_16 {E : ME} {ls : MLs} {g : MG} {μ : MU} {Q : Option MV → MG → MU → Prop} {v : Int} : Wp E 138 16 ls [.inl v] g μ Q = Q (some (.inl v)) g μ := Wp_retI k138_16 (by decide)
theorem k138_17 : mCode 138 17 = some (.aload_n 0, 1) := by decide +kernel
theorem x138_17 {E : ME} {ls : MLs} {st : List MV} {g : MG} {μ : MU} {Q : Option MV → MG → MU → Prop} {v : Nat ⊕ Nat} : Wp E 138 17 (some (.inr (.inr v)) :: ls) st g μ Q = Wp E 138 18 (some (.inr (.inr v)) :: ls) (.inr (.inr v) :: st) g μ Q := Wp_nx k138_17 rfl
theorem k138_18 : mCode 138 18 = some (.invokevirtual 121, 3) := by decide +kernel
theorem x138_18 {E : ME} {ls : MLs} {st : List MV} {g : MG} {μ : MU} {Q : Option MV → MG → MU → Prop} {r : Nat} : Wp E 138 18 ls (.inr (.inr (.inl r)) :: st) g μ Q = ((st.length ≤ 4 ∧ ((mKd g r).1 == 6) = true) ∧ Wp E 84 0 [some (.inr (.inr (.inl r))), none] [] g μ (fun r g' μ' => (g'.1 = g.1 ∧ g'.2.1 = g.2.1) ∧ Wp E 138 21 ls (mPush r st) g' μ' Q)) := Wp_cV k138_18 m6_121 (by decide) (as := [.inr (.inr (.inl r))]) rfl rfl rfl ⟨Nat.le_of_ble_eq_true rfl, by decide⟩
theorem k138_21 : mCode 138 21 = some (.aload_n 0, 1) := by decide +kernel
theorem x138_21 {E : ME} {ls : MLs} {st : List MV} {g : MG} {μ : MU} {Q : Option MV → MG → MU → Prop} {v : Nat ⊕ Nat} : Wp E 138 21 (some (.inr (.inr v)) :: ls) st g μ Q = Wp E 138 22 (some (.inr (.inr v)) :: ls) (.inr (.inr v) :: st) g μ Q := Wp_nx k138_21 rfl
theorem k138_22 : mCode 138 22 = some (.iconst 0, 1) := by decide +kernel
theorem x138_22 {E : ME} {ls : MLs} {st : List MV} {g : MG} {μ : MU} {Q : Option MV → MG → MU → Prop} : Wp E 138 22 ls st g μ Q = Wp E 138 23 ls (.inl 0 :: st) g μ Q := Wp_nx k138_22 rfl
theorem k138_23 : mCode 138 23 = some (.putfield 183, 3) := by decide +kernel
theorem x138_23 {E : ME} {ls : MLs} {st : List MV} {g : MG} {μ : MU} {Q : Option MV → MG → MU → Prop} {a : Nat} {v : Int} : Wp E 138 23 ls (.inl v :: .inr (.inr (.inl a)) :: st) g μ Q = ((mKd g a).1 = 6 ∧ Wp E 138 26 ls st g (mUp μ a 7 v) Q) := Wp_putI0 k138_23 f6_183 (by decide) (by decide)
theorem k138_26 : mCode 138 26 = some (.iconst 0, 1) := by decide +kernel
theorem x138_26 {E : ME} {ls : MLs} {st : List MV} {g : MG} {μ : MU} {Q : Option MV → MG → MU → Prop} : Wp E 138 26 ls st g μ Q = Wp E 138 27 ls (.inl 0 :: st) g μ Q := Wp_nx k138_26 rfl
theorem k138_27 : mCode 138 27 = some (.istore_n 1, 1) := by decide +kernel
theorem x138_27 {E : ME} {ls : MLs} {st : List MV} {g : MG} {μ : MU} {Q : Option MV → MG → MU → Prop} {l0 : Option MV} {lk : Option MV} {v : Int} : Wp E 138 27 (l0 :: lk :: ls) (.inl v :: st) g μ Q = ((mNl (some l0) = true ∧ mNl (some lk) = true) ∧ Wp E 138 28 (l0 :: some (.inl v) :: ls) st g μ Q) := Wp_sti k138_27 (fun _ => rfl) rfl rfl rfl
theorem k138_28 : mCode 138 28 = some (.iload_n 1, 1) := by decide +kernel
theorem x138_28 {E : ME} {ls : MLs} {st : List MV} {g : MG} {μ : MU} {Q : Option MV → MG → MU → Prop} {l0 : Option MV} {v : Int} : Wp E 138 28 (l0 :: some (.inl v) :: ls) st g μ Q = Wp E 138 29 (l0 :: some (.inl v) :: ls) (.inl v :: st) g μ Q := Wp_nx k138_28 rfl
theorem k138_29 : mCode 138 29 = some (.aload_n 0, 1) := by decide +kernel
theorem x138_29 {E : ME} {ls : MLs} {st : List MV} {g : MG} {μ : MU} {Q : Option MV → MG → MU → Prop} {v : Nat ⊕ Nat} : Wp E 138 29 (some (.inr (.inr v)) :: ls) st g μ Q = Wp E 138 30 (some (.inr (.inr v)) :: ls) (.inr (.inr v) :: st) g μ Q := Wp_nx k138_29 rfl
theorem k138_30 : mCode 138 30 = some (.getfield 205, 3) := by decide +kernel
theorem x138_30 {E : ME} {ls : MLs} {st : List MV} {g : MG} {μ : MU} {Q : Option MV → MG → MU → Prop} {a : Nat} : Wp E 138 30 ls (.inr (.inr (.inl a)) :: st) g μ Q = ((mKd g a).1 = 6 ∧ Wp E 138 33 ls (.inl (μ a 24) :: st) g μ Q) := Wp_getI k138_30 f6_205 (by decide) (by decide)
theorem k138_33 : mCode 138 33 = some (.if_icmp .ge 28, 3) := by decide +kernel
theorem x138_33 {E : ME} {ls : MLs} {st : List MV} {g : MG} {μ : MU} {Q : Option MV → MG → MU → Prop} {a b : Int} : Wp E 138 33 ls (.inl b :: .inl a :: st) g μ Q = ((b ≤ a → Wp E 138 61 ls st g μ Q) ∧ (a < b → Wp E 138 36 ls st g μ Q)) := Wp_cmp_ge k138_33 (by decide)
theorem k138_36 : mCode 138 36 = some (.aload_n 0, 1) := by decide +kernel
theorem x138_36 {E : ME} {ls : MLs} {st : List MV} {g : MG} {μ : MU} {Q : Option MV → MG → MU → Prop} {v : Nat ⊕ Nat} : Wp E 138 36 (some (.inr (.inr v)) :: ls) st g μ Q = Wp E 138 37 (some (.inr (.inr v)) :: ls) (.inr (.inr v) :: st) g μ Q := Wp_nx k138_36 rfl
theorem k138_37 : mCode 138 37 = some (.iconst 5, 1) := by decide +kernel
theorem x138_37 {E : ME} {ls : MLs} {st : List MV} {g : MG} {μ : MU} {Q : Option MV → MG → MU → Prop} : Wp E 138 37 ls st g μ Q = Wp E 138 38 ls (.inl 5 :: st) g μ Q := Wp_nx k138_37 rfl
theorem k138_38 : mCode 138 38 = some (.iload_n 1, 1) := by decide +kernel
theorem x138_38 {E : ME} {ls : MLs} {st : List MV} {g : MG} {μ : MU} {Q : Option MV → MG → MU → Prop} {l0 : Option MV} {v : Int} : Wp E 138 38 (l0 :: some (.inl v) :: ls) st g μ Q = Wp E 138 39 (l0 :: some (.inl v) :: ls) (.inl v :: st) g μ Q := Wp_nx k138_38 rfl
theorem k138_39 : mCode 138 39 = some (.imul, 1) := by decide +kernel
theorem x138_39 {E : ME} {ls : MLs} {st : List MV} {g : MG} {μ : MU} {Q : Option MV → MG → MU → Prop} {a b : Int} : Wp E 138 39 ls (.inl b :: .inl a :: st) g μ Q = Wp E 138 40 ls (.inl (mWr (a * b)) :: st) g μ Q := Wp_nx k138_39 rfl
theorem k138_40 : mCode 138 40 = some (.invokevirtual 220, 3) := by decide +kernel
theorem x138_40 {E : ME} {ls : MLs} {st : List MV} {g : MG} {μ : MU} {Q : Option MV → MG → MU → Prop} {r : Nat} {a0 : Int} : Wp E 138 40 ls (.inl a0 :: .inr (.inr (.inl r)) :: st) g μ Q = ((st.length ≤ 4 ∧ ((mKd g r).1 == 6) = true) ∧ Wp E 136 0 [some (.inr (.inr (.inl r))), some (.inl a0)] [] g μ (fun r g' μ' => (g'.1 = g.1 ∧ g'.2.1 = g.2.1) ∧ Wp E 138 43 ls (mPush r st) g' μ' Q)) := Wp_cV k138_40 m6_220 (by decide) (as := [.inr (.inr (.inl r)), .inl a0]) rfl rfl rfl ⟨Nat.le_of_ble_eq_true rfl, by decide⟩
theorem k138_43 : mCode 138 43 = some (.ifCond .eq 5, 3) := by decide +kernel
theorem x138_43 {E : ME} {ls : MLs} {st : List MV} {g : MG} {μ : MU} {Q : Option MV → MG → MU → Prop} {a : Int} : Wp E 138 43 ls (.inl a :: st) g μ Q = ((a = 0 → Wp E 138 48 ls st g μ Q) ∧ (¬ a = 0 → Wp E 138 46 ls st g μ Q)) := Wp_if_eq k138_43 (by decide)
theorem k138_46 : mCode 138 46 = some (.iload_n 1, 1) := by decide +kernel
theorem x138_46 {E : ME} {ls : MLs} {st : List MV} {g : MG} {μ : MU} {Q : Option MV → MG → MU → Prop} {l0 : Option MV} {v : Int} : Wp E 138 46 (l0 :: some (.inl v) :: ls) st g μ Q = Wp E 138 47 (l0 :: some (.inl v) :: ls) (.inl v :: st) g μ Q := Wp_nx k138_46 rfl
theorem k138_47 : mCode 138 47 = some (.ireturn, 1) := by decide +kernel
theorem x138_47 {E : ME} {ls : MLs} {g : MG} {μ : MU} {Q : Option MV → MG → MU → Prop} {v : Int} : Wp E 138 47 ls [.inl v] g μ Q = Q (some (.inl v)) g μ := Wp_retI k138_47 (by decide)
theorem k138_48 : mCode 138 48 = some (.aload_n 0, 1) := by decide +kernel
theorem x138_48 {E : ME} {ls : MLs} {st : List MV} {g : MG} {μ : MU} {Q : Option MV → MG → MU → Prop} {v : Nat ⊕ Nat} : Wp E 138 48 (some (.inr (.inr v)) :: ls) st g μ Q = Wp E 138 49 (some (.inr (.inr v)) :: ls) (.inr (.inr v) :: st) g μ Q := Wp_nx k138_48 rfl
theorem k138_49 : mCode 138 49 = some (.iconst 5, 1) := by decide +kernel
theorem x138_49 {E : ME} {ls : MLs} {st : List MV} {g : MG} {μ : MU} {Q : Option MV → MG → MU → Prop} : Wp E 138 49 ls st g μ Q = Wp E 138 50 ls (.inl 5 :: st) g μ Q := Wp_nx k138_49 rfl
theorem k138_50 : mCode 138 50 = some (.iload_n 1, 1) := by decide +kernel
theorem x138_50 {E : ME} {ls : MLs} {st : List MV} {g : MG} {μ : MU} {Q : Option MV → MG → MU → Prop} {l0 : Option MV} {v : Int} : Wp E 138 50 (l0 :: some (.inl v) :: ls) st g μ Q = Wp E 138 51 (l0 :: some (.inl v) :: ls) (.inl v :: st) g μ Q := Wp_nx k138_50 rfl
theorem k138_51 : mCode 138 51 = some (.imul, 1) := by decide +kernel
theorem x138_51 {E : ME} {ls : MLs} {st : List MV} {g : MG} {μ : MU} {Q : Option MV → MG → MU → Prop} {a b : Int} : Wp E 138 51 ls (.inl b :: .inl a :: st) g μ Q = Wp E 138 52 ls (.inl (mWr (a * b)) :: st) g μ Q := Wp_nx k138_51 rfl
theorem k138_52 : mCode 138 52 = some (.invokevirtual 223, 3) := by decide +kernel
theorem x138_52 {E : ME} {ls : MLs} {st : List MV} {g : MG} {μ : MU} {Q : Option MV → MG → MU → Prop} {r : Nat} {a0 : Int} : Wp E 138 52 ls (.inl a0 :: .inr (.inr (.inl r)) :: st) g μ Q = ((st.length ≤ 4 ∧ ((mKd g r).1 == 6) = true) ∧ Wp E 137 0 [some (.inr (.inr (.inl r))), some (.inl a0)] [] g μ (fun r g' μ' => (g'.1 = g.1 ∧ g'.2.1 = g.2.1) ∧ Wp E 138 55 ls (mPush r st) g' μ' Q)) := Wp_cV k138_52 m6_223 (by decide) (as := [.inr (.inr (.inl r)), .inl a0]) rfl rfl rfl ⟨Nat.le_of_ble_eq_true rfl, by decide⟩
theorem k138_55 : mCode 138 55 = some (.iinc 1 1, 3) := by decide +kernel
theorem x138_55 {E : ME} {ls : MLs} {st : List MV} {g : MG} {μ : MU} {Q : Option MV → MG → MU → Prop} {l0 : Option MV} {v : Int} : Wp E 138 55 (l0 :: some (.inl v) :: ls) st g μ Q = (mNl (some l0) = true ∧ Wp E 138 58 (l0 :: some (.inl (mWr (v + 1))) :: ls) st g μ Q) := Wp_inc k138_55 rfl rfl rfl
theorem k138_58 : mCode 138 58 = some (.goto (-30), 3) := by decide +kernel
theorem x138_58 {E : ME} {ls : MLs} {st : List MV} {g : MG} {μ : MU} {Q : Option MV → MG → MU → Prop} : Wp E 138 58 ls st g μ Q = Wp E 138 28 ls st g μ Q := Wp_goto k138_58 (by decide)
theorem k138_61 : mCode 138 61 = some (.aload_n 0, 1) := by decide +kernel
theorem x138_61 {E : ME} {ls : MLs} {st : List MV} {g : MG} {μ : MU} {Q : Option MV → MG → MU → Prop} {v : Nat ⊕ Nat} : Wp E 138 61 (some (.inr (.inr v)) :: ls) st g μ Q = Wp E 138 62 (some (.inr (.inr v)) :: ls) (.inr (.inr v) :: st) g μ Q := Wp_nx k138_61 rfl
theorem k138_62 : mCode 138 62 = some (.getfield 205, 3) := by decide +kernel
theorem x138_62 {E : ME} {ls : MLs} {st : List MV} {g : MG} {μ : MU} {Q : Option MV → MG → MU → Prop} {a : Nat} : Wp E 138 62 ls (.inr (.inr (.inl a)) :: st) g μ Q = ((mKd g a).1 = 6 ∧ Wp E 138 65 ls (.inl (μ a 24) :: st) g μ Q) := Wp_getI k138_62 f6_205 (by decide) (by decide)
theorem k138_65 : mCode 138 65 = some (.ireturn, 1) := by decide +kernel
theorem x138_65 {E : ME} {ls : MLs} {g : MG} {μ : MU} {Q : Option MV → MG → MU → Prop} {v : Int} : Wp E 138 65 ls [.inl v] g μ Q = Q (some (.inl v)) g μ := Wp_retI k138_65 (by decide)
theorem k139_0 : mCode 139 0 = some (.aload_n 0, 1) := by decide +kernel
theorem x139_0 {E : ME} {ls : MLs} {st : List MV} {g : MG} {μ : MU} {Q : Option MV → MG → MU → Prop} {v : Nat ⊕ Nat} : Wp E 139 0 (some (.inr (.inr v)) :: ls) st g μ Q = Wp E 139 1 (some (.inr (.inr v)) :: ls) (.inr (.inr v) :: st) g μ Q := Wp_nx k139_0 rfl
theorem k139_1 : mCode 139 1 = some (.iconst 0, 1) := by decide +kernel
theorem x139_1 {E : ME} {ls : MLs} {st : List MV} {g : MG} {μ : MU} {Q : Option MV → MG → MU → Prop} : Wp E 139 1 ls st g μ Q = Wp E 139 2 ls (.inl 0 :: st) g μ Q := Wp_nx k139_1 rfl
theorem k139_2 : mCode 139 2 = some (.putfield 65, 3) := by decide +kernel
theorem x139_2 {E : ME} {ls : MLs} {st : List MV} {g : MG} {μ : MU} {Q : Option MV → MG → MU → Prop} {a : Nat} {v : Int} : Wp E 139 2 ls (.inl v :: .inr (.inr (.inl a)) :: st) g μ Q = ((mKd g a).1 = 6 ∧ Wp E 139 5 ls st g (mUp μ a 0 v) Q) := Wp_putI0 k139_2 f6_65 (by decide) (by decide)
theorem k139_5 : mCode 139 5 = some (.aload_n 0, 1) := by decide +kernel
theorem x139_5 {E : ME} {ls : MLs} {st : List MV} {g : MG} {μ : MU} {Q : Option MV → MG → MU → Prop} {v : Nat ⊕ Nat} : Wp E 139 5 (some (.inr (.inr v)) :: ls) st g μ Q = Wp E 139 6 (some (.inr (.inr v)) :: ls) (.inr (.inr v) :: st) g μ Q := Wp_nx k139_5 rfl
theorem k139_6 : mCode 139 6 = some (.getfield 81, 3) := by decide +kernel
theorem x139_6 {E : ME} {ls : MLs} {st : List MV} {g : MG} {μ : MU} {Q : Option MV → MG → MU → Prop} {a : Nat} : Wp E 139 6 ls (.inr (.inr (.inl a)) :: st) g μ Q = ((mKd g a).1 = 6 ∧ Wp E 139 9 ls (.inl (μ a 3) :: st) g μ Q) := Wp_getI k139_6 f6_81 (by decide) (by decide)
theorem k139_9 : mCode 139 9 = some (.ifCond .ne 6, 3) := by decide +kernel
theorem x139_9 {E : ME} {ls : MLs} {st : List MV} {g : MG} {μ : MU} {Q : Option MV → MG → MU → Prop} {a : Int} : Wp E 139 9 ls (.inl a :: st) g μ Q = ((¬ a = 0 → Wp E 139 15 ls st g μ Q) ∧ (a = 0 → Wp E 139 12 ls st g μ Q)) := Wp_if_ne k139_9 (by decide)
theorem k139_12 : mCode 139 12 = some (.bipush (-5), 2) := by decide +kernel
theorem x139_12 {E : ME} {ls : MLs} {st : List MV} {g : MG} {μ : MU} {Q : Option MV → MG → MU → Prop} : Wp E 139 12 ls st g μ Q = Wp E 139 14 ls (.inl (-5) :: st) g μ Q := Wp_nx k139_12 rfl
theorem k139_14 : mCode 139 14 = some (.ireturn, 1) := by decide +kernel
theorem x139_14 {E : ME} {ls : MLs} {g : MG} {μ : MU} {Q : Option MV → MG → MU → Prop} {v : Int} : Wp E 139 14 ls [.inl v] g μ Q = Q (some (.inl v)) g μ := Wp_retI k139_14 (by decide)
theorem k139_15 : mCode 139 15 = some (.aload_n 0, 1) := by decide +kernel
theorem x139_15 {E : ME} {ls : MLs} {st : List MV} {g : MG} {μ : MU} {Q : Option MV → MG → MU → Prop} {v : Nat ⊕ Nat} : Wp E 139 15 (some (.inr (.inr v)) :: ls) st g μ Q = Wp E 139 16 (some (.inr (.inr v)) :: ls) (.inr (.inr v) :: st) g μ Q := Wp_nx k139_15 rfl
theorem k139_16 : mCode 139 16 = some (.dup, 1) := by decide +kernel
theorem x139_16 {E : ME} {ls : MLs} {st : List MV} {g : MG} {μ : MU} {Q : Option MV → MG → MU → Prop} {v : MV} : Wp E 139 16 ls (v :: st) g μ Q = (mC1 v = true ∧ Wp E 139 17 ls (v :: v :: st) g μ Q) := Wp_dup k139_16
theorem k139_17 : mCode 139 17 = some (.getfield 81, 3) := by decide +kernel
theorem x139_17 {E : ME} {ls : MLs} {st : List MV} {g : MG} {μ : MU} {Q : Option MV → MG → MU → Prop} {a : Nat} : Wp E 139 17 ls (.inr (.inr (.inl a)) :: st) g μ Q = ((mKd g a).1 = 6 ∧ Wp E 139 20 ls (.inl (μ a 3) :: st) g μ Q) := Wp_getI k139_17 f6_81 (by decide) (by decide)
theorem k139_20 : mCode 139 20 = some (.iconst 1, 1) := by decide +kernel
theorem x139_20 {E : ME} {ls : MLs} {st : List MV} {g : MG} {μ : MU} {Q : Option MV → MG → MU → Prop} : Wp E 139 20 ls st g μ Q = Wp E 139 21 ls (.inl 1 :: st) g μ Q := Wp_nx k139_20 rfl
theorem k139_21 : mCode 139 21 = some (.isub, 1) := by decide +kernel
theorem x139_21 {E : ME} {ls : MLs} {st : List MV} {g : MG} {μ : MU} {Q : Option MV → MG → MU → Prop} {a b : Int} : Wp E 139 21 ls (.inl b :: .inl a :: st) g μ Q = Wp E 139 22 ls (.inl (mWr (a - b)) :: st) g μ Q := Wp_nx k139_21 rfl
theorem k139_22 : mCode 139 22 = some (.putfield 81, 3) := by decide +kernel
theorem x139_22 {E : ME} {ls : MLs} {st : List MV} {g : MG} {μ : MU} {Q : Option MV → MG → MU → Prop} {a : Nat} {v : Int} : Wp E 139 22 ls (.inl v :: .inr (.inr (.inl a)) :: st) g μ Q = ((mKd g a).1 = 6 ∧ Wp E 139 25 ls st g (mUp μ a 3 v) Q) := Wp_putI0 k139_22 f6_81 (by decide) (by decide)
theorem k139_25 : mCode 139 25 = some (.iconst 0, 1) := by decide +kernel
theorem x139_25 {E : ME} {ls : MLs} {st : List MV} {g : MG} {μ : MU} {Q : Option MV → MG → MU → Prop} : Wp E 139 25 ls st g μ Q = Wp E 139 26 ls (.inl 0 :: st) g μ Q := Wp_nx k139_25 rfl
theorem k139_26 : mCode 139 26 = some (.istore_n 1, 1) := by decide +kernel
theorem x139_26 {E : ME} {ls : MLs} {st : List MV} {g : MG} {μ : MU} {Q : Option MV → MG → MU → Prop} {l0 : Option MV} {lk : Option MV} {v : Int} : Wp E 139 26 (l0 :: lk :: ls) (.inl v :: st) g μ Q = ((mNl (some l0) = true ∧ mNl (some lk) = true) ∧ Wp E 139 27 (l0 :: some (.inl v) :: ls) st g μ Q) := Wp_sti k139_26 (fun _ => rfl) rfl rfl rfl
theorem k139_27 : mCode 139 27 = some (.iload_n 1, 1) := by decide +kernel
theorem x139_27 {E : ME} {ls : MLs} {st : List MV} {g : MG} {μ : MU} {Q : Option MV → MG → MU → Prop} {l0 : Option MV} {v : Int} : Wp E 139 27 (l0 :: some (.inl v) :: ls) st g μ Q = Wp E 139 28 (l0 :: some (.inl v) :: ls) (.inl v :: st) g μ Q := Wp_nx k139_27 rfl
theorem k139_28 : mCode 139 28 = some (.sipush 148, 3) := by decide +kernel
theorem x139_28 {E : ME} {ls : MLs} {st : List MV} {g : MG} {μ : MU} {Q : Option MV → MG → MU → Prop} : Wp E 139 28 ls st g μ Q = Wp E 139 31 ls (.inl 148 :: st) g μ Q := Wp_nx k139_28 rfl
theorem k139_31 : mCode 139 31 = some (.if_icmp .ge 30, 3) := by decide +kernel
theorem x139_31 {E : ME} {ls : MLs} {st : List MV} {g : MG} {μ : MU} {Q : Option MV → MG → MU → Prop} {a b : Int} : Wp E 139 31 ls (.inl b :: .inl a :: st) g μ Q = ((b ≤ a → Wp E 139 61 ls st g μ Q) ∧ (a < b → Wp E 139 34 ls st g μ Q)) := Wp_cmp_ge k139_31 (by decide)
theorem k139_34 : mCode 139 34 = some (.aload_n 0, 1) := by decide +kernel
theorem x139_34 {E : ME} {ls : MLs} {st : List MV} {g : MG} {μ : MU} {Q : Option MV → MG → MU → Prop} {v : Nat ⊕ Nat} : Wp E 139 34 (some (.inr (.inr v)) :: ls) st g μ Q = Wp E 139 35 (some (.inr (.inr v)) :: ls) (.inr (.inr v) :: st) g μ Q := Wp_nx k139_34 rfl
theorem k139_35 : mCode 139 35 = some (.getfield 7, 3) := by decide +kernel
theorem x139_35 {E : ME} {ls : MLs} {st : List MV} {g : MG} {μ : MU} {Q : Option MV → MG → MU → Prop} {a : Nat} : Wp E 139 35 ls (.inr (.inr (.inl a)) :: st) g μ Q = ((mKd g a).1 = 6 ∧ Wp E 139 38 ls (mRv (mRf g a 1) :: st) g μ Q) := Wp_getR k139_35 f6_7 (by decide) (by decide)
theorem k139_38 : mCode 139 38 = some (.iload_n 1, 1) := by decide +kernel
theorem x139_38 {E : ME} {ls : MLs} {st : List MV} {g : MG} {μ : MU} {Q : Option MV → MG → MU → Prop} {l0 : Option MV} {v : Int} : Wp E 139 38 (l0 :: some (.inl v) :: ls) st g μ Q = Wp E 139 39 (l0 :: some (.inl v) :: ls) (.inl v :: st) g μ Q := Wp_nx k139_38 rfl
theorem k139_39 : mCode 139 39 = some (.aload_n 0, 1) := by decide +kernel
theorem x139_39 {E : ME} {ls : MLs} {st : List MV} {g : MG} {μ : MU} {Q : Option MV → MG → MU → Prop} {v : Nat ⊕ Nat} : Wp E 139 39 (some (.inr (.inr v)) :: ls) st g μ Q = Wp E 139 40 (some (.inr (.inr v)) :: ls) (.inr (.inr v) :: st) g μ Q := Wp_nx k139_39 rfl
theorem k139_40 : mCode 139 40 = some (.getfield 13, 3) := by decide +kernel
theorem x139_40 {E : ME} {ls : MLs} {st : List MV} {g : MG} {μ : MU} {Q : Option MV → MG → MU → Prop} {a : Nat} : Wp E 139 40 ls (.inr (.inr (.inl a)) :: st) g μ Q = ((mKd g a).1 = 6 ∧ Wp E 139 43 ls (mRv (mRf g a 2) :: st) g μ Q) := Wp_getR k139_40 f6_13 (by decide) (by decide)
theorem k139_43 : mCode 139 43 = some (.sipush 148, 3) := by decide +kernel
theorem x139_43 {E : ME} {ls : MLs} {st : List MV} {g : MG} {μ : MU} {Q : Option MV → MG → MU → Prop} : Wp E 139 43 ls st g μ Q = Wp E 139 46 ls (.inl 148 :: st) g μ Q := Wp_nx k139_43 rfl
theorem k139_46 : mCode 139 46 = some (.aload_n 0, 1) := by decide +kernel
theorem x139_46 {E : ME} {ls : MLs} {st : List MV} {g : MG} {μ : MU} {Q : Option MV → MG → MU → Prop} {v : Nat ⊕ Nat} : Wp E 139 46 (some (.inr (.inr v)) :: ls) st g μ Q = Wp E 139 47 (some (.inr (.inr v)) :: ls) (.inr (.inr v) :: st) g μ Q := Wp_nx k139_46 rfl
theorem k139_47 : mCode 139 47 = some (.getfield 81, 3) := by decide +kernel
theorem x139_47 {E : ME} {ls : MLs} {st : List MV} {g : MG} {μ : MU} {Q : Option MV → MG → MU → Prop} {a : Nat} : Wp E 139 47 ls (.inr (.inr (.inl a)) :: st) g μ Q = ((mKd g a).1 = 6 ∧ Wp E 139 50 ls (.inl (μ a 3) :: st) g μ Q) := Wp_getI k139_47 f6_81 (by decide) (by decide)
theorem k139_50 : mCode 139 50 = some (.imul, 1) := by decide +kernel
theorem x139_50 {E : ME} {ls : MLs} {st : List MV} {g : MG} {μ : MU} {Q : Option MV → MG → MU → Prop} {a b : Int} : Wp E 139 50 ls (.inl b :: .inl a :: st) g μ Q = Wp E 139 51 ls (.inl (mWr (a * b)) :: st) g μ Q := Wp_nx k139_50 rfl
theorem k139_51 : mCode 139 51 = some (.iload_n 1, 1) := by decide +kernel
theorem x139_51 {E : ME} {ls : MLs} {st : List MV} {g : MG} {μ : MU} {Q : Option MV → MG → MU → Prop} {l0 : Option MV} {v : Int} : Wp E 139 51 (l0 :: some (.inl v) :: ls) st g μ Q = Wp E 139 52 (l0 :: some (.inl v) :: ls) (.inl v :: st) g μ Q := Wp_nx k139_51 rfl
theorem k139_52 : mCode 139 52 = some (.iadd, 1) := by decide +kernel
theorem x139_52 {E : ME} {ls : MLs} {st : List MV} {g : MG} {μ : MU} {Q : Option MV → MG → MU → Prop} {a b : Int} : Wp E 139 52 ls (.inl b :: .inl a :: st) g μ Q = Wp E 139 53 ls (.inl (mWr (a + b)) :: st) g μ Q := Wp_nx k139_52 rfl
theorem k139_53 : mCode 139 53 = some (.iaload, 1) := by decide +kernel
theorem x139_53 {E : ME} {ls : MLs} {st : List MV} {g : MG} {μ : MU} {Q : Option MV → MG → MU → Prop} {a : Nat} {j : Int} : Wp E 139 53 ls (.inl j :: .inr (.inr (.inl a)) :: st) g μ Q = (((mKd g a).1 = 10 ∧ 0 ≤ j ∧ j < (mKd g a).2) ∧ Wp E 139 54 ls (.inl (μ a j.toNat) :: st) g μ Q) := Wp_ald k139_53 (fun _ => rfl)
theorem k139_54 : mCode 139 54 = some (.iastore, 1) := by decide +kernel
theorem x139_54 {E : ME} {ls : MLs} {st : List MV} {g : MG} {μ : MU} {Q : Option MV → MG → MU → Prop} {a : Nat} {j v : Int} : Wp E 139 54 ls (.inl v :: .inl j :: .inr (.inr (.inl a)) :: st) g μ Q = (((mKd g a).1 = 10 ∧ 0 ≤ j ∧ j < (mKd g a).2) ∧ Wp E 139 55 ls st g (mUp μ a j.toNat v) Q) := Wp_iast k139_54
theorem k139_55 : mCode 139 55 = some (.iinc 1 1, 3) := by decide +kernel
theorem x139_55 {E : ME} {ls : MLs} {st : List MV} {g : MG} {μ : MU} {Q : Option MV → MG → MU → Prop} {l0 : Option MV} {v : Int} : Wp E 139 55 (l0 :: some (.inl v) :: ls) st g μ Q = (mNl (some l0) = true ∧ Wp E 139 58 (l0 :: some (.inl (mWr (v + 1))) :: ls) st g μ Q) := Wp_inc k139_55 rfl rfl rfl
theorem k139_58 : mCode 139 58 = some (.goto (-31), 3) := by decide +kernel
theorem x139_58 {E : ME} {ls : MLs} {st : List MV} {g : MG} {μ : MU} {Q : Option MV → MG → MU → Prop} : Wp E 139 58 ls st g μ Q = Wp E 139 27 ls st g μ Q := Wp_goto k139_58 (by decide)
theorem k139_61 : mCode 139 61 = some (.aload_n 0, 1) := by decide +kernel
theorem x139_61 {E : ME} {ls : MLs} {st : List MV} {g : MG} {μ : MU} {Q : Option MV → MG → MU → Prop} {v : Nat ⊕ Nat} : Wp E 139 61 (some (.inr (.inr v)) :: ls) st g μ Q = Wp E 139 62 (some (.inr (.inr v)) :: ls) (.inr (.inr v) :: st) g μ Q := Wp_nx k139_61 rfl
theorem k139_62 : mCode 139 62 = some (.getfield 81, 3) := by decide +kernel
theorem x139_62 {E : ME} {ls : MLs} {st : List MV} {g : MG} {μ : MU} {Q : Option MV → MG → MU → Prop} {a : Nat} : Wp E 139 62 ls (.inr (.inr (.inl a)) :: st) g μ Q = ((mKd g a).1 = 6 ∧ Wp E 139 65 ls (.inl (μ a 3) :: st) g μ Q) := Wp_getI k139_62 f6_81 (by decide) (by decide)
theorem k139_65 : mCode 139 65 = some (.ireturn, 1) := by decide +kernel
theorem x139_65 {E : ME} {ls : MLs} {g : MG} {μ : MU} {Q : Option MV → MG → MU → Prop} {v : Int} : Wp E 139 65 ls [.inl v] g μ Q = Q (some (.inl v)) g μ := Wp_retI k139_65 (by decide)
theorem k140_0 : mCode 140 0 = some (.aload_n 0, 1) := by decide +kernel
theorem x140_0 {E : ME} {ls : MLs} {st : List MV} {g : MG} {μ : MU} {Q : Option MV → MG → MU → Prop} {v : Nat ⊕ Nat} : Wp E 140 0 (some (.inr (.inr v)) :: ls) st g μ Q = Wp E 140 1 (some (.inr (.inr v)) :: ls) (.inr (.inr v) :: st) g μ Q := Wp_nx k140_0 rfl
theorem k140_1 : mCode 140 1 = some (.iconst 0, 1) := by decide +kernel
theorem x140_1 {E : ME} {ls : MLs} {st : List MV} {g : MG} {μ : MU} {Q : Option MV → MG → MU → Prop} : Wp E 140 1 ls st g μ Q = Wp E 140 2 ls (.inl 0 :: st) g μ Q := Wp_nx k140_1 rfl
theorem k140_2 : mCode 140 2 = some (.putfield 65, 3) := by decide +kernel
theorem x140_2 {E : ME} {ls : MLs} {st : List MV} {g : MG} {μ : MU} {Q : Option MV → MG → MU → Prop} {a : Nat} {v : Int} : Wp E 140 2 ls (.inl v :: .inr (.inr (.inl a)) :: st) g μ Q = ((mKd g a).1 = 6 ∧ Wp E 140 5 ls st g (mUp μ a 0 v) Q) := Wp_putI0 k140_2 f6_65 (by decide) (by decide)
theorem k140_5 : mCode 140 5 = some (.iload_n 1, 1) := by decide +kernel
theorem x140_5 {E : ME} {ls : MLs} {st : List MV} {g : MG} {μ : MU} {Q : Option MV → MG → MU → Prop} {l0 : Option MV} {v : Int} : Wp E 140 5 (l0 :: some (.inl v) :: ls) st g μ Q = Wp E 140 6 (l0 :: some (.inl v) :: ls) (.inl v :: st) g μ Q := Wp_nx k140_5 rfl
theorem k140_6 : mCode 140 6 = some (.iconst 0, 1) := by decide +kernel
theorem x140_6 {E : ME} {ls : MLs} {st : List MV} {g : MG} {μ : MU} {Q : Option MV → MG → MU → Prop} : Wp E 140 6 ls st g μ Q = Wp E 140 7 ls (.inl 0 :: st) g μ Q := Wp_nx k140_6 rfl
theorem k140_7 : mCode 140 7 = some (.iconst 1, 1) := by decide +kernel
theorem x140_7 {E : ME} {ls : MLs} {st : List MV} {g : MG} {μ : MU} {Q : Option MV → MG → MU → Prop} : Wp E 140 7 ls st g μ Q = Wp E 140 8 ls (.inl 1 :: st) g μ Q := Wp_nx k140_7 rfl
theorem k140_8 : mCode 140 8 = some (.invokestatic 69, 3) := by decide +kernel
theorem x140_8 {E : ME} {ls : MLs} {st : List MV} {g : MG} {μ : MU} {Q : Option MV → MG → MU → Prop} {a0 : Int} {a1 : Int} {a2 : Int} : Wp E 140 8 ls (.inl a2 :: .inl a1 :: .inl a0 :: st) g μ Q = (st.length ≤ 4 ∧ Wp E 77 0 [some (.inl a0), some (.inl a1), some (.inl a2)] [] g μ (fun r g' μ' => (g'.1 = g.1 ∧ g'.2.1 = g.2.1) ∧ Wp E 140 11 ls (mPush r st) g' μ' Q)) := Wp_cS k140_8 m6_69 (by decide) (as := [.inl a0, .inl a1, .inl a2]) rfl rfl rfl ⟨Nat.le_of_ble_eq_true rfl, by decide⟩
theorem k140_11 : mCode 140 11 = some (.ifCond .ne 6, 3) := by decide +kernel
theorem x140_11 {E : ME} {ls : MLs} {st : List MV} {g : MG} {μ : MU} {Q : Option MV → MG → MU → Prop} {a : Int} : Wp E 140 11 ls (.inl a :: st) g μ Q = ((¬ a = 0 → Wp E 140 17 ls st g μ Q) ∧ (a = 0 → Wp E 140 14 ls st g μ Q)) := Wp_if_ne k140_11 (by decide)
theorem k140_14 : mCode 140 14 = some (.bipush (-2), 2) := by decide +kernel
theorem x140_14 {E : ME} {ls : MLs} {st : List MV} {g : MG} {μ : MU} {Q : Option MV → MG → MU → Prop} : Wp E 140 14 ls st g μ Q = Wp E 140 16 ls (.inl (-2) :: st) g μ Q := Wp_nx k140_14 rfl
theorem k140_16 : mCode 140 16 = some (.ireturn, 1) := by decide +kernel
theorem x140_16 {E : ME} {ls : MLs} {g : MG} {μ : MU} {Q : Option MV → MG → MU → Prop} {v : Int} : Wp E 140 16 ls [.inl v] g μ Q = Q (some (.inl v)) g μ := Wp_retI k140_16 (by decide)
theorem k140_17 : mCode 140 17 = some (.iconst 0, 1) := by decide +kernel
theorem x140_17 {E : ME} {ls : MLs} {st : List MV} {g : MG} {μ : MU} {Q : Option MV → MG → MU → Prop} : Wp E 140 17 ls st g μ Q = Wp E 140 18 ls (.inl 0 :: st) g μ Q := Wp_nx k140_17 rfl
theorem k140_18 : mCode 140 18 = some (.istore_n 2, 1) := by decide +kernel
theorem x140_18 {E : ME} {ls : MLs} {st : List MV} {g : MG} {μ : MU} {Q : Option MV → MG → MU → Prop} {l0 l1 : Option MV} {lk : Option MV} {v : Int} : Wp E 140 18 (l0 :: l1 :: lk :: ls) (.inl v :: st) g μ Q = ((mNl (some l1) = true ∧ mNl (some lk) = true) ∧ Wp E 140 19 (l0 :: l1 :: some (.inl v) :: ls) st g μ Q) := Wp_sti k140_18 (fun _ => rfl) rfl rfl rfl
theorem k140_19 : mCode 140 19 = some (.iload_n 2, 1) := by decide +kernel
theorem x140_19 {E : ME} {ls : MLs} {st : List MV} {g : MG} {μ : MU} {Q : Option MV → MG → MU → Prop} {l0 l1 : Option MV} {v : Int} : Wp E 140 19 (l0 :: l1 :: some (.inl v) :: ls) st g μ Q = Wp E 140 20 (l0 :: l1 :: some (.inl v) :: ls) (.inl v :: st) g μ Q := Wp_nx k140_19 rfl
theorem k140_20 : mCode 140 20 = some (.sipush 148, 3) := by decide +kernel
theorem x140_20 {E : ME} {ls : MLs} {st : List MV} {g : MG} {μ : MU} {Q : Option MV → MG → MU → Prop} : Wp E 140 20 ls st g μ Q = Wp E 140 23 ls (.inl 148 :: st) g μ Q := Wp_nx k140_20 rfl
theorem k140_23 : mCode 140 23 = some (.if_icmp .ge 27, 3) := by decide +kernel
theorem x140_23 {E : ME} {ls : MLs} {st : List MV} {g : MG} {μ : MU} {Q : Option MV → MG → MU → Prop} {a b : Int} : Wp E 140 23 ls (.inl b :: .inl a :: st) g μ Q = ((b ≤ a → Wp E 140 50 ls st g μ Q) ∧ (a < b → Wp E 140 26 ls st g μ Q)) := Wp_cmp_ge k140_23 (by decide)
theorem k140_26 : mCode 140 26 = some (.aload_n 0, 1) := by decide +kernel
theorem x140_26 {E : ME} {ls : MLs} {st : List MV} {g : MG} {μ : MU} {Q : Option MV → MG → MU → Prop} {v : Nat ⊕ Nat} : Wp E 140 26 (some (.inr (.inr v)) :: ls) st g μ Q = Wp E 140 27 (some (.inr (.inr v)) :: ls) (.inr (.inr v) :: st) g μ Q := Wp_nx k140_26 rfl
theorem k140_27 : mCode 140 27 = some (.getfield 16, 3) := by decide +kernel
theorem x140_27 {E : ME} {ls : MLs} {st : List MV} {g : MG} {μ : MU} {Q : Option MV → MG → MU → Prop} {a : Nat} : Wp E 140 27 ls (.inr (.inr (.inl a)) :: st) g μ Q = ((mKd g a).1 = 6 ∧ Wp E 140 30 ls (mRv (mRf g a 4) :: st) g μ Q) := Wp_getR k140_27 f6_16 (by decide) (by decide)
theorem k140_30 : mCode 140 30 = some (.sipush 148, 3) := by decide +kernel
theorem x140_30 {E : ME} {ls : MLs} {st : List MV} {g : MG} {μ : MU} {Q : Option MV → MG → MU → Prop} : Wp E 140 30 ls st g μ Q = Wp E 140 33 ls (.inl 148 :: st) g μ Q := Wp_nx k140_30 rfl
theorem k140_33 : mCode 140 33 = some (.iload_n 1, 1) := by decide +kernel
theorem x140_33 {E : ME} {ls : MLs} {st : List MV} {g : MG} {μ : MU} {Q : Option MV → MG → MU → Prop} {l0 : Option MV} {v : Int} : Wp E 140 33 (l0 :: some (.inl v) :: ls) st g μ Q = Wp E 140 34 (l0 :: some (.inl v) :: ls) (.inl v :: st) g μ Q := Wp_nx k140_33 rfl
theorem k140_34 : mCode 140 34 = some (.imul, 1) := by decide +kernel
theorem x140_34 {E : ME} {ls : MLs} {st : List MV} {g : MG} {μ : MU} {Q : Option MV → MG → MU → Prop} {a b : Int} : Wp E 140 34 ls (.inl b :: .inl a :: st) g μ Q = Wp E 140 35 ls (.inl (mWr (a * b)) :: st) g μ Q := Wp_nx k140_34 rfl
theorem k140_35 : mCode 140 35 = some (.iload_n 2, 1) := by decide +kernel
theorem x140_35 {E : ME} {ls : MLs} {st : List MV} {g : MG} {μ : MU} {Q : Option MV → MG → MU → Prop} {l0 l1 : Option MV} {v : Int} : Wp E 140 35 (l0 :: l1 :: some (.inl v) :: ls) st g μ Q = Wp E 140 36 (l0 :: l1 :: some (.inl v) :: ls) (.inl v :: st) g μ Q := Wp_nx k140_35 rfl
theorem k140_36 : mCode 140 36 = some (.iadd, 1) := by decide +kernel
theorem x140_36 {E : ME} {ls : MLs} {st : List MV} {g : MG} {μ : MU} {Q : Option MV → MG → MU → Prop} {a b : Int} : Wp E 140 36 ls (.inl b :: .inl a :: st) g μ Q = Wp E 140 37 ls (.inl (mWr (a + b)) :: st) g μ Q := Wp_nx k140_36 rfl
theorem k140_37 : mCode 140 37 = some (.aload_n 0, 1) := by decide +kernel
theorem x140_37 {E : ME} {ls : MLs} {st : List MV} {g : MG} {μ : MU} {Q : Option MV → MG → MU → Prop} {v : Nat ⊕ Nat} : Wp E 140 37 (some (.inr (.inr v)) :: ls) st g μ Q = Wp E 140 38 (some (.inr (.inr v)) :: ls) (.inr (.inr v) :: st) g μ Q := Wp_nx k140_37 rfl
theorem k140_38 : mCode 140 38 = some (.getfield 7, 3) := by decide +kernel
theorem x140_38 {E : ME} {ls : MLs} {st : List MV} {g : MG} {μ : MU} {Q : Option MV → MG → MU → Prop} {a : Nat} : Wp E 140 38 ls (.inr (.inr (.inl a)) :: st) g μ Q = ((mKd g a).1 = 6 ∧ Wp E 140 41 ls (mRv (mRf g a 1) :: st) g μ Q) := Wp_getR k140_38 f6_7 (by decide) (by decide)
theorem k140_41 : mCode 140 41 = some (.iload_n 2, 1) := by decide +kernel
theorem x140_41 {E : ME} {ls : MLs} {st : List MV} {g : MG} {μ : MU} {Q : Option MV → MG → MU → Prop} {l0 l1 : Option MV} {v : Int} : Wp E 140 41 (l0 :: l1 :: some (.inl v) :: ls) st g μ Q = Wp E 140 42 (l0 :: l1 :: some (.inl v) :: ls) (.inl v :: st) g μ Q := Wp_nx k140_41 rfl
theorem k140_42 : mCode 140 42 = some (.iaload, 1) := by decide +kernel
theorem x140_42 {E : ME} {ls : MLs} {st : List MV} {g : MG} {μ : MU} {Q : Option MV → MG → MU → Prop} {a : Nat} {j : Int} : Wp E 140 42 ls (.inl j :: .inr (.inr (.inl a)) :: st) g μ Q = (((mKd g a).1 = 10 ∧ 0 ≤ j ∧ j < (mKd g a).2) ∧ Wp E 140 43 ls (.inl (μ a j.toNat) :: st) g μ Q) := Wp_ald k140_42 (fun _ => rfl)
theorem k140_43 : mCode 140 43 = some (.iastore, 1) := by decide +kernel
theorem x140_43 {E : ME} {ls : MLs} {st : List MV} {g : MG} {μ : MU} {Q : Option MV → MG → MU → Prop} {a : Nat} {j v : Int} : Wp E 140 43 ls (.inl v :: .inl j :: .inr (.inr (.inl a)) :: st) g μ Q = (((mKd g a).1 = 10 ∧ 0 ≤ j ∧ j < (mKd g a).2) ∧ Wp E 140 44 ls st g (mUp μ a j.toNat v) Q) := Wp_iast k140_43
theorem k140_44 : mCode 140 44 = some (.iinc 2 1, 3) := by decide +kernel
theorem x140_44 {E : ME} {ls : MLs} {st : List MV} {g : MG} {μ : MU} {Q : Option MV → MG → MU → Prop} {l0 l1 : Option MV} {v : Int} : Wp E 140 44 (l0 :: l1 :: some (.inl v) :: ls) st g μ Q = (mNl (some l1) = true ∧ Wp E 140 47 (l0 :: l1 :: some (.inl (mWr (v + 1))) :: ls) st g μ Q) := Wp_inc k140_44 rfl rfl rfl
theorem k140_47 : mCode 140 47 = some (.goto (-28), 3) := by decide +kernel
theorem x140_47 {E : ME} {ls : MLs} {st : List MV} {g : MG} {μ : MU} {Q : Option MV → MG → MU → Prop} : Wp E 140 47 ls st g μ Q = Wp E 140 19 ls st g μ Q := Wp_goto k140_47 (by decide)
theorem k140_50 : mCode 140 50 = some (.aload_n 0, 1) := by decide +kernel
theorem x140_50 {E : ME} {ls : MLs} {st : List MV} {g : MG} {μ : MU} {Q : Option MV → MG → MU → Prop} {v : Nat ⊕ Nat} : Wp E 140 50 (some (.inr (.inr v)) :: ls) st g μ Q = Wp E 140 51 (some (.inr (.inr v)) :: ls) (.inr (.inr v) :: st) g μ Q := Wp_nx k140_50 rfl
theorem k140_51 : mCode 140 51 = some (.getfield 19, 3) := by decide +kernel
theorem x140_51 {E : ME} {ls : MLs} {st : List MV} {g : MG} {μ : MU} {Q : Option MV → MG → MU → Prop} {a : Nat} : Wp E 140 51 ls (.inr (.inr (.inl a)) :: st) g μ Q = ((mKd g a).1 = 6 ∧ Wp E 140 54 ls (mRv (mRf g a 5) :: st) g μ Q) := Wp_getR k140_51 f6_19 (by decide) (by decide)
theorem k140_54 : mCode 140 54 = some (.iload_n 1, 1) := by decide +kernel
theorem x140_54 {E : ME} {ls : MLs} {st : List MV} {g : MG} {μ : MU} {Q : Option MV → MG → MU → Prop} {l0 : Option MV} {v : Int} : Wp E 140 54 (l0 :: some (.inl v) :: ls) st g μ Q = Wp E 140 55 (l0 :: some (.inl v) :: ls) (.inl v :: st) g μ Q := Wp_nx k140_54 rfl
theorem k140_55 : mCode 140 55 = some (.iconst 1, 1) := by decide +kernel
theorem x140_55 {E : ME} {ls : MLs} {st : List MV} {g : MG} {μ : MU} {Q : Option MV → MG → MU → Prop} : Wp E 140 55 ls st g μ Q = Wp E 140 56 ls (.inl 1 :: st) g μ Q := Wp_nx k140_55 rfl
theorem k140_56 : mCode 140 56 = some (.bastore, 1) := by decide +kernel
theorem x140_56 {E : ME} {ls : MLs} {st : List MV} {g : MG} {μ : MU} {Q : Option MV → MG → MU → Prop} {a : Nat} {j v : Int} : Wp E 140 56 ls (.inl v :: .inl j :: .inr (.inr (.inl a)) :: st) g μ Q = (((mKd g a).1 = 12 ∧ 0 ≤ j ∧ j < (mKd g a).2 ∧ mOk 2 v = true) ∧ Wp E 140 57 ls st g (mUp μ a j.toNat v) Q) := Wp_ast k140_56 (fun _ => rfl)
theorem k140_57 : mCode 140 57 = some (.aload_n 0, 1) := by decide +kernel
theorem x140_57 {E : ME} {ls : MLs} {st : List MV} {g : MG} {μ : MU} {Q : Option MV → MG → MU → Prop} {v : Nat ⊕ Nat} : Wp E 140 57 (some (.inr (.inr v)) :: ls) st g μ Q = Wp E 140 58 (some (.inr (.inr v)) :: ls) (.inr (.inr v) :: st) g μ Q := Wp_nx k140_57 rfl
theorem k140_58 : mCode 140 58 = some (.getfield 7, 3) := by decide +kernel
theorem x140_58 {E : ME} {ls : MLs} {st : List MV} {g : MG} {μ : MU} {Q : Option MV → MG → MU → Prop} {a : Nat} : Wp E 140 58 ls (.inr (.inr (.inl a)) :: st) g μ Q = ((mKd g a).1 = 6 ∧ Wp E 140 61 ls (mRv (mRf g a 1) :: st) g μ Q) := Wp_getR k140_58 f6_7 (by decide) (by decide)
theorem k140_61 : mCode 140 61 = some (.bipush 6, 2) := by decide +kernel
theorem x140_61 {E : ME} {ls : MLs} {st : List MV} {g : MG} {μ : MU} {Q : Option MV → MG → MU → Prop} : Wp E 140 61 ls st g μ Q = Wp E 140 63 ls (.inl 6 :: st) g μ Q := Wp_nx k140_61 rfl
theorem k140_63 : mCode 140 63 = some (.iaload, 1) := by decide +kernel
theorem x140_63 {E : ME} {ls : MLs} {st : List MV} {g : MG} {μ : MU} {Q : Option MV → MG → MU → Prop} {a : Nat} {j : Int} : Wp E 140 63 ls (.inl j :: .inr (.inr (.inl a)) :: st) g μ Q = (((mKd g a).1 = 10 ∧ 0 ≤ j ∧ j < (mKd g a).2) ∧ Wp E 140 64 ls (.inl (μ a j.toNat) :: st) g μ Q) := Wp_ald k140_63 (fun _ => rfl)
theorem k140_64 : mCode 140 64 = some (.ireturn, 1) := by decide +kernel
theorem x140_64 {E : ME} {ls : MLs} {g : MG} {μ : MU} {Q : Option MV → MG → MU → Prop} {v : Int} : Wp E 140 64 ls [.inl v] g μ Q = Q (some (.inl v)) g μ := Wp_retI k140_64 (by decide)
theorem k141_0 : mCode 141 0 = some (.aload_n 0, 1) := by decide +kernel
theorem x141_0 {E : ME} {ls : MLs} {st : List MV} {g : MG} {μ : MU} {Q : Option MV → MG → MU → Prop} {v : Nat ⊕ Nat} : Wp E 141 0 (some (.inr (.inr v)) :: ls) st g μ Q = Wp E 141 1 (some (.inr (.inr v)) :: ls) (.inr (.inr v) :: st) g μ Q := Wp_nx k141_0 rfl
theorem k141_1 : mCode 141 1 = some (.iconst 0, 1) := by decide +kernel
theorem x141_1 {E : ME} {ls : MLs} {st : List MV} {g : MG} {μ : MU} {Q : Option MV → MG → MU → Prop} : Wp E 141 1 ls st g μ Q = Wp E 141 2 ls (.inl 0 :: st) g μ Q := Wp_nx k141_1 rfl
theorem k141_2 : mCode 141 2 = some (.putfield 65, 3) := by decide +kernel
theorem x141_2 {E : ME} {ls : MLs} {st : List MV} {g : MG} {μ : MU} {Q : Option MV → MG → MU → Prop} {a : Nat} {v : Int} : Wp E 141 2 ls (.inl v :: .inr (.inr (.inl a)) :: st) g μ Q = ((mKd g a).1 = 6 ∧ Wp E 141 5 ls st g (mUp μ a 0 v) Q) := Wp_putI0 k141_2 f6_65 (by decide) (by decide)
theorem k141_5 : mCode 141 5 = some (.iload_n 1, 1) := by decide +kernel
theorem x141_5 {E : ME} {ls : MLs} {st : List MV} {g : MG} {μ : MU} {Q : Option MV → MG → MU → Prop} {l0 : Option MV} {v : Int} : Wp E 141 5 (l0 :: some (.inl v) :: ls) st g μ Q = Wp E 141 6 (l0 :: some (.inl v) :: ls) (.inl v :: st) g μ Q := Wp_nx k141_5 rfl
theorem k141_6 : mCode 141 6 = some (.iconst 0, 1) := by decide +kernel
theorem x141_6 {E : ME} {ls : MLs} {st : List MV} {g : MG} {μ : MU} {Q : Option MV → MG → MU → Prop} : Wp E 141 6 ls st g μ Q = Wp E 141 7 ls (.inl 0 :: st) g μ Q := Wp_nx k141_6 rfl
theorem k141_7 : mCode 141 7 = some (.iconst 1, 1) := by decide +kernel
theorem x141_7 {E : ME} {ls : MLs} {st : List MV} {g : MG} {μ : MU} {Q : Option MV → MG → MU → Prop} : Wp E 141 7 ls st g μ Q = Wp E 141 8 ls (.inl 1 :: st) g μ Q := Wp_nx k141_7 rfl
theorem k141_8 : mCode 141 8 = some (.invokestatic 69, 3) := by decide +kernel
theorem x141_8 {E : ME} {ls : MLs} {st : List MV} {g : MG} {μ : MU} {Q : Option MV → MG → MU → Prop} {a0 : Int} {a1 : Int} {a2 : Int} : Wp E 141 8 ls (.inl a2 :: .inl a1 :: .inl a0 :: st) g μ Q = (st.length ≤ 4 ∧ Wp E 77 0 [some (.inl a0), some (.inl a1), some (.inl a2)] [] g μ (fun r g' μ' => (g'.1 = g.1 ∧ g'.2.1 = g.2.1) ∧ Wp E 141 11 ls (mPush r st) g' μ' Q)) := Wp_cS k141_8 m6_69 (by decide) (as := [.inl a0, .inl a1, .inl a2]) rfl rfl rfl ⟨Nat.le_of_ble_eq_true rfl, by decide⟩
theorem k141_11 : mCode 141 11 = some (.ifCond .ne 6, 3) := by decide +kernel
theorem x141_11 {E : ME} {ls : MLs} {st : List MV} {g : MG} {μ : MU} {Q : Option MV → MG → MU → Prop} {a : Int} : Wp E 141 11 ls (.inl a :: st) g μ Q = ((¬ a = 0 → Wp E 141 17 ls st g μ Q) ∧ (a = 0 → Wp E 141 14 ls st g μ Q)) := Wp_if_ne k141_11 (by decide)
theorem k141_14 : mCode 141 14 = some (.bipush (-2), 2) := by decide +kernel
theorem x141_14 {E : ME} {ls : MLs} {st : List MV} {g : MG} {μ : MU} {Q : Option MV → MG → MU → Prop} : Wp E 141 14 ls st g μ Q = Wp E 141 16 ls (.inl (-2) :: st) g μ Q := Wp_nx k141_14 rfl
theorem k141_16 : mCode 141 16 = some (.ireturn, 1) := by decide +kernel
theorem x141_16 {E : ME} {ls : MLs} {g : MG} {μ : MU} {Q : Option MV → MG → MU → Prop} {v : Int} : Wp E 141 16 ls [.inl v] g μ Q = Q (some (.inl v)) g μ := Wp_retI k141_16 (by decide)
theorem k141_17 : mCode 141 17 = some (.aload_n 0, 1) := by decide +kernel
theorem x141_17 {E : ME} {ls : MLs} {st : List MV} {g : MG} {μ : MU} {Q : Option MV → MG → MU → Prop} {v : Nat ⊕ Nat} : Wp E 141 17 (some (.inr (.inr v)) :: ls) st g μ Q = Wp E 141 18 (some (.inr (.inr v)) :: ls) (.inr (.inr v) :: st) g μ Q := Wp_nx k141_17 rfl
theorem k141_18 : mCode 141 18 = some (.getfield 19, 3) := by decide +kernel
theorem x141_18 {E : ME} {ls : MLs} {st : List MV} {g : MG} {μ : MU} {Q : Option MV → MG → MU → Prop} {a : Nat} : Wp E 141 18 ls (.inr (.inr (.inl a)) :: st) g μ Q = ((mKd g a).1 = 6 ∧ Wp E 141 21 ls (mRv (mRf g a 5) :: st) g μ Q) := Wp_getR k141_18 f6_19 (by decide) (by decide)
theorem k141_21 : mCode 141 21 = some (.iload_n 1, 1) := by decide +kernel
theorem x141_21 {E : ME} {ls : MLs} {st : List MV} {g : MG} {μ : MU} {Q : Option MV → MG → MU → Prop} {l0 : Option MV} {v : Int} : Wp E 141 21 (l0 :: some (.inl v) :: ls) st g μ Q = Wp E 141 22 (l0 :: some (.inl v) :: ls) (.inl v :: st) g μ Q := Wp_nx k141_21 rfl
theorem k141_22 : mCode 141 22 = some (.baload, 1) := by decide +kernel
theorem x141_22 {E : ME} {ls : MLs} {st : List MV} {g : MG} {μ : MU} {Q : Option MV → MG → MU → Prop} {a : Nat} {j : Int} : Wp E 141 22 ls (.inl j :: .inr (.inr (.inl a)) :: st) g μ Q = (((mKd g a).1 = 12 ∧ 0 ≤ j ∧ j < (mKd g a).2) ∧ Wp E 141 23 ls (.inl (μ a j.toNat) :: st) g μ Q) := Wp_ald k141_22 (fun _ => rfl)
theorem k141_23 : mCode 141 23 = some (.ifCond .ne 6, 3) := by decide +kernel
theorem x141_23 {E : ME} {ls : MLs} {st : List MV} {g : MG} {μ : MU} {Q : Option MV → MG → MU → Prop} {a : Int} : Wp E 141 23 ls (.inl a :: st) g μ Q = ((¬ a = 0 → Wp E 141 29 ls st g μ Q) ∧ (a = 0 → Wp E 141 26 ls st g μ Q)) := Wp_if_ne k141_23 (by decide)
theorem k141_26 : mCode 141 26 = some (.bipush (-5), 2) := by decide +kernel
theorem x141_26 {E : ME} {ls : MLs} {st : List MV} {g : MG} {μ : MU} {Q : Option MV → MG → MU → Prop} : Wp E 141 26 ls st g μ Q = Wp E 141 28 ls (.inl (-5) :: st) g μ Q := Wp_nx k141_26 rfl
theorem k141_28 : mCode 141 28 = some (.ireturn, 1) := by decide +kernel
theorem x141_28 {E : ME} {ls : MLs} {g : MG} {μ : MU} {Q : Option MV → MG → MU → Prop} {v : Int} : Wp E 141 28 ls [.inl v] g μ Q = Q (some (.inl v)) g μ := Wp_retI k141_28 (by decide)
theorem k141_29 : mCode 141 29 = some (.aload_n 0, 1) := by decide +kernel
theorem x141_29 {E : ME} {ls : MLs} {st : List MV} {g : MG} {μ : MU} {Q : Option MV → MG → MU → Prop} {v : Nat ⊕ Nat} : Wp E 141 29 (some (.inr (.inr v)) :: ls) st g μ Q = Wp E 141 30 (some (.inr (.inr v)) :: ls) (.inr (.inr v) :: st) g μ Q := Wp_nx k141_29 rfl
theorem k141_30 : mCode 141 30 = some (.invokevirtual 121, 3) := by decide +kernel
theorem x141_30 {E : ME} {ls : MLs} {st : List MV} {g : MG} {μ : MU} {Q : Option MV → MG → MU → Prop} {r : Nat} : Wp E 141 30 ls (.inr (.inr (.inl r)) :: st) g μ Q = ((st.length ≤ 4 ∧ ((mKd g r).1 == 6) = true) ∧ Wp E 84 0 [some (.inr (.inr (.inl r))), none] [] g μ (fun r g' μ' => (g'.1 = g.1 ∧ g'.2.1 = g.2.1) ∧ Wp E 141 33 ls (mPush r st) g' μ' Q)) := Wp_cV k141_30 m6_121 (by decide) (as := [.inr (.inr (.inl r))]) rfl rfl rfl ⟨Nat.le_of_ble_eq_true rfl, by decide⟩
theorem k141_33 : mCode 141 33 = some (.iconst 0, 1) := by decide +kernel
theorem x141_33 {E : ME} {ls : MLs} {st : List MV} {g : MG} {μ : MU} {Q : Option MV → MG → MU → Prop} : Wp E 141 33 ls st g μ Q = Wp E 141 34 ls (.inl 0 :: st) g μ Q := Wp_nx k141_33 rfl
theorem k141_34 : mCode 141 34 = some (.istore_n 2, 1) := by decide +kernel
theorem x141_34 {E : ME} {ls : MLs} {st : List MV} {g : MG} {μ : MU} {Q : Option MV → MG → MU → Prop} {l0 l1 : Option MV} {lk : Option MV} {v : Int} : Wp E 141 34 (l0 :: l1 :: lk :: ls) (.inl v :: st) g μ Q = ((mNl (some l1) = true ∧ mNl (some lk) = true) ∧ Wp E 141 35 (l0 :: l1 :: some (.inl v) :: ls) st g μ Q) := Wp_sti k141_34 (fun _ => rfl) rfl rfl rfl
theorem k141_35 : mCode 141 35 = some (.iload_n 2, 1) := by decide +kernel
theorem x141_35 {E : ME} {ls : MLs} {st : List MV} {g : MG} {μ : MU} {Q : Option MV → MG → MU → Prop} {l0 l1 : Option MV} {v : Int} : Wp E 141 35 (l0 :: l1 :: some (.inl v) :: ls) st g μ Q = Wp E 141 36 (l0 :: l1 :: some (.inl v) :: ls) (.inl v :: st) g μ Q := Wp_nx k141_35 rfl
theorem k141_36 : mCode 141 36 = some (.sipush 148, 3) := by decide +kernel
theorem x141_36 {E : ME} {ls : MLs} {st : List MV} {g : MG} {μ : MU} {Q : Option MV → MG → MU → Prop} : Wp E 141 36 ls st g μ Q = Wp E 141 39 ls (.inl 148 :: st) g μ Q := Wp_nx k141_36 rfl
theorem k141_39 : mCode 141 39 = some (.if_icmp .ge 27, 3) := by decide +kernel
theorem x141_39 {E : ME} {ls : MLs} {st : List MV} {g : MG} {μ : MU} {Q : Option MV → MG → MU → Prop} {a b : Int} : Wp E 141 39 ls (.inl b :: .inl a :: st) g μ Q = ((b ≤ a → Wp E 141 66 ls st g μ Q) ∧ (a < b → Wp E 141 42 ls st g μ Q)) := Wp_cmp_ge k141_39 (by decide)
theorem k141_42 : mCode 141 42 = some (.aload_n 0, 1) := by decide +kernel
theorem x141_42 {E : ME} {ls : MLs} {st : List MV} {g : MG} {μ : MU} {Q : Option MV → MG → MU → Prop} {v : Nat ⊕ Nat} : Wp E 141 42 (some (.inr (.inr v)) :: ls) st g μ Q = Wp E 141 43 (some (.inr (.inr v)) :: ls) (.inr (.inr v) :: st) g μ Q := Wp_nx k141_42 rfl
theorem k141_43 : mCode 141 43 = some (.getfield 7, 3) := by decide +kernel
theorem x141_43 {E : ME} {ls : MLs} {st : List MV} {g : MG} {μ : MU} {Q : Option MV → MG → MU → Prop} {a : Nat} : Wp E 141 43 ls (.inr (.inr (.inl a)) :: st) g μ Q = ((mKd g a).1 = 6 ∧ Wp E 141 46 ls (mRv (mRf g a 1) :: st) g μ Q) := Wp_getR k141_43 f6_7 (by decide) (by decide)
theorem k141_46 : mCode 141 46 = some (.iload_n 2, 1) := by decide +kernel
theorem x141_46 {E : ME} {ls : MLs} {st : List MV} {g : MG} {μ : MU} {Q : Option MV → MG → MU → Prop} {l0 l1 : Option MV} {v : Int} : Wp E 141 46 (l0 :: l1 :: some (.inl v) :: ls) st g μ Q = Wp E 141 47 (l0 :: l1 :: some (.inl v) :: ls) (.inl v :: st) g μ Q := Wp_nx k141_46 rfl
theorem k141_47 : mCode 141 47 = some (.aload_n 0, 1) := by decide +kernel
theorem x141_47 {E : ME} {ls : MLs} {st : List MV} {g : MG} {μ : MU} {Q : Option MV → MG → MU → Prop} {v : Nat ⊕ Nat} : Wp E 141 47 (some (.inr (.inr v)) :: ls) st g μ Q = Wp E 141 48 (some (.inr (.inr v)) :: ls) (.inr (.inr v) :: st) g μ Q := Wp_nx k141_47 rfl
theorem k141_48 : mCode 141 48 = some (.getfield 16, 3) := by decide +kernel
theorem x141_48 {E : ME} {ls : MLs} {st : List MV} {g : MG} {μ : MU} {Q : Option MV → MG → MU → Prop} {a : Nat} : Wp E 141 48 ls (.inr (.inr (.inl a)) :: st) g μ Q = ((mKd g a).1 = 6 ∧ Wp E 141 51 ls (mRv (mRf g a 4) :: st) g μ Q) := Wp_getR k141_48 f6_16 (by decide) (by decide)
theorem k141_51 : mCode 141 51 = some (.sipush 148, 3) := by decide +kernel
theorem x141_51 {E : ME} {ls : MLs} {st : List MV} {g : MG} {μ : MU} {Q : Option MV → MG → MU → Prop} : Wp E 141 51 ls st g μ Q = Wp E 141 54 ls (.inl 148 :: st) g μ Q := Wp_nx k141_51 rfl
theorem k141_54 : mCode 141 54 = some (.iload_n 1, 1) := by decide +kernel
theorem x141_54 {E : ME} {ls : MLs} {st : List MV} {g : MG} {μ : MU} {Q : Option MV → MG → MU → Prop} {l0 : Option MV} {v : Int} : Wp E 141 54 (l0 :: some (.inl v) :: ls) st g μ Q = Wp E 141 55 (l0 :: some (.inl v) :: ls) (.inl v :: st) g μ Q := Wp_nx k141_54 rfl
theorem k141_55 : mCode 141 55 = some (.imul, 1) := by decide +kernel
theorem x141_55 {E : ME} {ls : MLs} {st : List MV} {g : MG} {μ : MU} {Q : Option MV → MG → MU → Prop} {a b : Int} : Wp E 141 55 ls (.inl b :: .inl a :: st) g μ Q = Wp E 141 56 ls (.inl (mWr (a * b)) :: st) g μ Q := Wp_nx k141_55 rfl
theorem k141_56 : mCode 141 56 = some (.iload_n 2, 1) := by decide +kernel
theorem x141_56 {E : ME} {ls : MLs} {st : List MV} {g : MG} {μ : MU} {Q : Option MV → MG → MU → Prop} {l0 l1 : Option MV} {v : Int} : Wp E 141 56 (l0 :: l1 :: some (.inl v) :: ls) st g μ Q = Wp E 141 57 (l0 :: l1 :: some (.inl v) :: ls) (.inl v :: st) g μ Q := Wp_nx k141_56 rfl
theorem k141_57 : mCode 141 57 = some (.iadd, 1) := by decide +kernel
theorem x141_57 {E : ME} {ls : MLs} {st : List MV} {g : MG} {μ : MU} {Q : Option MV → MG → MU → Prop} {a b : Int} : Wp E 141 57 ls (.inl b :: .inl a :: st) g μ Q = Wp E 141 58 ls (.inl (mWr (a + b)) :: st) g μ Q := Wp_nx k141_57 rfl
theorem k141_58 : mCode 141 58 = some (.iaload, 1) := by decide +kernel
theorem x141_58 {E : ME} {ls : MLs} {st : List MV} {g : MG} {μ : MU} {Q : Option MV → MG → MU → Prop} {a : Nat} {j : Int} : Wp E 141 58 ls (.inl j :: .inr (.inr (.inl a)) :: st) g μ Q = (((mKd g a).1 = 10 ∧ 0 ≤ j ∧ j < (mKd g a).2) ∧ Wp E 141 59 ls (.inl (μ a j.toNat) :: st) g μ Q) := Wp_ald k141_58 (fun _ => rfl)
theorem k141_59 : mCode 141 59 = some (.iastore, 1) := by decide +kernel
theorem x141_59 {E : ME} {ls : MLs} {st : List MV} {g : MG} {μ : MU} {Q : Option MV → MG → MU → Prop} {a : Nat} {j v : Int} : Wp E 141 59 ls (.inl v :: .inl j :: .inr (.inr (.inl a)) :: st) g μ Q = (((mKd g a).1 = 10 ∧ 0 ≤ j ∧ j < (mKd g a).2) ∧ Wp E 141 60 ls st g (mUp μ a j.toNat v) Q) := Wp_iast k141_59
theorem k141_60 : mCode 141 60 = some (.iinc 2 1, 3) := by decide +kernel
theorem x141_60 {E : ME} {ls : MLs} {st : List MV} {g : MG} {μ : MU} {Q : Option MV → MG → MU → Prop} {l0 l1 : Option MV} {v : Int} : Wp E 141 60 (l0 :: l1 :: some (.inl v) :: ls) st g μ Q = (mNl (some l1) = true ∧ Wp E 141 63 (l0 :: l1 :: some (.inl (mWr (v + 1))) :: ls) st g μ Q) := Wp_inc k141_60 rfl rfl rfl
theorem k141_63 : mCode 141 63 = some (.goto (-28), 3) := by decide +kernel
theorem x141_63 {E : ME} {ls : MLs} {st : List MV} {g : MG} {μ : MU} {Q : Option MV → MG → MU → Prop} : Wp E 141 63 ls st g μ Q = Wp E 141 35 ls st g μ Q := Wp_goto k141_63 (by decide)
theorem k141_66 : mCode 141 66 = some (.aload_n 0, 1) := by decide +kernel
theorem x141_66 {E : ME} {ls : MLs} {st : List MV} {g : MG} {μ : MU} {Q : Option MV → MG → MU → Prop} {v : Nat ⊕ Nat} : Wp E 141 66 (some (.inr (.inr v)) :: ls) st g μ Q = Wp E 141 67 (some (.inr (.inr v)) :: ls) (.inr (.inr v) :: st) g μ Q := Wp_nx k141_66 rfl
theorem k141_67 : mCode 141 67 = some (.getfield 7, 3) := by decide +kernel
theorem x141_67 {E : ME} {ls : MLs} {st : List MV} {g : MG} {μ : MU} {Q : Option MV → MG → MU → Prop} {a : Nat} : Wp E 141 67 ls (.inr (.inr (.inl a)) :: st) g μ Q = ((mKd g a).1 = 6 ∧ Wp E 141 70 ls (mRv (mRf g a 1) :: st) g μ Q) := Wp_getR k141_67 f6_7 (by decide) (by decide)
theorem k141_70 : mCode 141 70 = some (.bipush 6, 2) := by decide +kernel
theorem x141_70 {E : ME} {ls : MLs} {st : List MV} {g : MG} {μ : MU} {Q : Option MV → MG → MU → Prop} : Wp E 141 70 ls st g μ Q = Wp E 141 72 ls (.inl 6 :: st) g μ Q := Wp_nx k141_70 rfl
theorem k141_72 : mCode 141 72 = some (.iaload, 1) := by decide +kernel
theorem x141_72 {E : ME} {ls : MLs} {st : List MV} {g : MG} {μ : MU} {Q : Option MV → MG → MU → Prop} {a : Nat} {j : Int} : Wp E 141 72 ls (.inl j :: .inr (.inr (.inl a)) :: st) g μ Q = (((mKd g a).1 = 10 ∧ 0 ≤ j ∧ j < (mKd g a).2) ∧ Wp E 141 73 ls (.inl (μ a j.toNat) :: st) g μ Q) := Wp_ald k141_72 (fun _ => rfl)
theorem k141_73 : mCode 141 73 = some (.ireturn, 1) := by decide +kernel
theorem x141_73 {E : ME} {ls : MLs} {g : MG} {μ : MU} {Q : Option MV → MG → MU → Prop} {v : Int} : Wp E 141 73 ls [.inl v] g μ Q = Q (some (.inl v)) g μ := Wp_retI k141_73 (by decide)
