theorem k18_0 : mCode 18 0 = some (.aload_n 0, 1) := by decide +kernel
theorem x18_0 {E : ME} {ls : MLs} {st : List MV} {g : MG} {μ : MU} {Q : Option MV → MG → MU → Prop} {v : Nat ⊕ Nat} : Wp E 18 0 (some (.inr (.inr v)) :: ls) st g μ Q = Wp E 18 1 (some (.inr (.inr v)) :: ls) (.inr (.inr v) :: st) g μ Q := Wp_nx k18_0 rfl
theorem k18_1 : mCode 18 1 = some (.invokespecial 3, 3) := by decide +kernel
theorem x18_1 {E : ME} {ls : MLs} {st : List MV} {g : MG} {μ : MU} {Q : Option MV → MG → MU → Prop} {a : Nat} : Wp E 18 1 ls (.inr (.inr (.inl a)) :: st) g μ Q = (st.length ≤ 4 ∧ Wp E 18 4 ls st g μ Q) := Wp_oin k18_1 m2_3
theorem k18_4 : mCode 18 4 = some (.aload_n 0, 1) := by decide +kernel
theorem x18_4 {E : ME} {ls : MLs} {st : List MV} {g : MG} {μ : MU} {Q : Option MV → MG → MU → Prop} {v : Nat ⊕ Nat} : Wp E 18 4 (some (.inr (.inr v)) :: ls) st g μ Q = Wp E 18 5 (some (.inr (.inr v)) :: ls) (.inr (.inr v) :: st) g μ Q := Wp_nx k18_4 rfl
theorem k18_5 : mCode 18 5 = some (.bipush 80, 2) := by decide +kernel
theorem x18_5 {E : ME} {ls : MLs} {st : List MV} {g : MG} {μ : MU} {Q : Option MV → MG → MU → Prop} : Wp E 18 5 ls st g μ Q = Wp E 18 7 ls (.inl 80 :: st) g μ Q := Wp_nx k18_5 rfl
theorem k18_7 : mCode 18 7 = some (.newarray .char, 2) := by decide +kernel
theorem x18_7 {E : ME} {ls : MLs} {st : List MV} {g : MG} {μ : MU} {Q : Option MV → MG → MU → Prop} {n : Int} : Wp E 18 7 ls (.inl n :: st) g μ Q = ((0 ≤ n ∧ n < 2000) ∧ Wp E 18 9 ls (mR g.1 :: st) (mGrow g (11, n.toNat) n.toNat) (mZero μ g.1) Q) := Wp_newa k18_7 (fun _ => rfl)
theorem k18_9 : mCode 18 9 = some (.putfield 9, 3) := by decide +kernel
theorem x18_9 {E : ME} {ls : MLs} {st : List MV} {g : MG} {μ : MU} {Q : Option MV → MG → MU → Prop} {a b : Nat} : Wp E 18 9 ls (.inr (.inr (.inl b)) :: .inr (.inr (.inl a)) :: st) g μ Q = ((mKd g a).1 = 2 ∧ Wp E 18 12 ls st (mSetR g a 0 (some b)) μ Q) := Wp_putR k18_9 f2_9 (by decide) (by decide) (by decide)
theorem k18_12 : mCode 18 12 = some (.aload_n 0, 1) := by decide +kernel
theorem x18_12 {E : ME} {ls : MLs} {st : List MV} {g : MG} {μ : MU} {Q : Option MV → MG → MU → Prop} {v : Nat ⊕ Nat} : Wp E 18 12 (some (.inr (.inr v)) :: ls) st g μ Q = Wp E 18 13 (some (.inr (.inr v)) :: ls) (.inr (.inr v) :: st) g μ Q := Wp_nx k18_12 rfl
theorem k18_13 : mCode 18 13 = some (.iconst 4, 1) := by decide +kernel
theorem x18_13 {E : ME} {ls : MLs} {st : List MV} {g : MG} {μ : MU} {Q : Option MV → MG → MU → Prop} : Wp E 18 13 ls st g μ Q = Wp E 18 14 ls (.inl 4 :: st) g μ Q := Wp_nx k18_13 rfl
theorem k18_14 : mCode 18 14 = some (.newarray .int, 2) := by decide +kernel
theorem x18_14 {E : ME} {ls : MLs} {st : List MV} {g : MG} {μ : MU} {Q : Option MV → MG → MU → Prop} {n : Int} : Wp E 18 14 ls (.inl n :: st) g μ Q = ((0 ≤ n ∧ n < 2000) ∧ Wp E 18 16 ls (mR g.1 :: st) (mGrow g (10, n.toNat) n.toNat) (mZero μ g.1) Q) := Wp_newa k18_14 (fun _ => rfl)
theorem k18_16 : mCode 18 16 = some (.putfield 15, 3) := by decide +kernel
theorem x18_16 {E : ME} {ls : MLs} {st : List MV} {g : MG} {μ : MU} {Q : Option MV → MG → MU → Prop} {a b : Nat} : Wp E 18 16 ls (.inr (.inr (.inl b)) :: .inr (.inr (.inl a)) :: st) g μ Q = ((mKd g a).1 = 2 ∧ Wp E 18 19 ls st (mSetR g a 1 (some b)) μ Q) := Wp_putR k18_16 f2_15 (by decide) (by decide) (by decide)
theorem k18_19 : mCode 18 19 = some (.aload_n 0, 1) := by decide +kernel
theorem x18_19 {E : ME} {ls : MLs} {st : List MV} {g : MG} {μ : MU} {Q : Option MV → MG → MU → Prop} {v : Nat ⊕ Nat} : Wp E 18 19 (some (.inr (.inr v)) :: ls) st g μ Q = Wp E 18 20 (some (.inr (.inr v)) :: ls) (.inr (.inr v) :: st) g μ Q := Wp_nx k18_19 rfl
theorem k18_20 : mCode 18 20 = some (.iconst 0, 1) := by decide +kernel
theorem x18_20 {E : ME} {ls : MLs} {st : List MV} {g : MG} {μ : MU} {Q : Option MV → MG → MU → Prop} : Wp E 18 20 ls st g μ Q = Wp E 18 21 ls (.inl 0 :: st) g μ Q := Wp_nx k18_20 rfl
theorem k18_21 : mCode 18 21 = some (.putfield 19, 3) := by decide +kernel
theorem x18_21 {E : ME} {ls : MLs} {st : List MV} {g : MG} {μ : MU} {Q : Option MV → MG → MU → Prop} {a : Nat} {v : Int} : Wp E 18 21 ls (.inl v :: .inr (.inr (.inl a)) :: st) g μ Q = ((mKd g a).1 = 2 ∧ Wp E 18 24 ls st g (mUp μ a 2 v) Q) := Wp_putI0 k18_21 f2_19 (by decide) (by decide)
theorem k18_24 : mCode 18 24 = some (.aload_n 0, 1) := by decide +kernel
theorem x18_24 {E : ME} {ls : MLs} {st : List MV} {g : MG} {μ : MU} {Q : Option MV → MG → MU → Prop} {v : Nat ⊕ Nat} : Wp E 18 24 (some (.inr (.inr v)) :: ls) st g μ Q = Wp E 18 25 (some (.inr (.inr v)) :: ls) (.inr (.inr v) :: st) g μ Q := Wp_nx k18_24 rfl
theorem k18_25 : mCode 18 25 = some (.iconst 0, 1) := by decide +kernel
theorem x18_25 {E : ME} {ls : MLs} {st : List MV} {g : MG} {μ : MU} {Q : Option MV → MG → MU → Prop} : Wp E 18 25 ls st g μ Q = Wp E 18 26 ls (.inl 0 :: st) g μ Q := Wp_nx k18_25 rfl
theorem k18_26 : mCode 18 26 = some (.putfield 23, 3) := by decide +kernel
theorem x18_26 {E : ME} {ls : MLs} {st : List MV} {g : MG} {μ : MU} {Q : Option MV → MG → MU → Prop} {a : Nat} {v : Int} : Wp E 18 26 ls (.inl v :: .inr (.inr (.inl a)) :: st) g μ Q = ((mKd g a).1 = 2 ∧ Wp E 18 29 ls st g (mUp μ a 3 v) Q) := Wp_putI0 k18_26 f2_23 (by decide) (by decide)
theorem k18_29 : mCode 18 29 = some (.aload_n 0, 1) := by decide +kernel
theorem x18_29 {E : ME} {ls : MLs} {st : List MV} {g : MG} {μ : MU} {Q : Option MV → MG → MU → Prop} {v : Nat ⊕ Nat} : Wp E 18 29 (some (.inr (.inr v)) :: ls) st g μ Q = Wp E 18 30 (some (.inr (.inr v)) :: ls) (.inr (.inr v) :: st) g μ Q := Wp_nx k18_29 rfl
theorem k18_30 : mCode 18 30 = some (.iconst 0, 1) := by decide +kernel
theorem x18_30 {E : ME} {ls : MLs} {st : List MV} {g : MG} {μ : MU} {Q : Option MV → MG → MU → Prop} : Wp E 18 30 ls st g μ Q = Wp E 18 31 ls (.inl 0 :: st) g μ Q := Wp_nx k18_30 rfl
theorem k18_31 : mCode 18 31 = some (.putfield 26, 3) := by decide +kernel
theorem x18_31 {E : ME} {ls : MLs} {st : List MV} {g : MG} {μ : MU} {Q : Option MV → MG → MU → Prop} {a : Nat} {v : Int} : Wp E 18 31 ls (.inl v :: .inr (.inr (.inl a)) :: st) g μ Q = (((mKd g a).1 = 2 ∧ mOk 1 v = true) ∧ Wp E 18 34 ls st g (mUp μ a 4 v) Q) := Wp_putI k18_31 f2_26 (by decide) (by decide)
theorem k18_34 : mCode 18 34 = some (.aload_n 0, 1) := by decide +kernel
theorem x18_34 {E : ME} {ls : MLs} {st : List MV} {g : MG} {μ : MU} {Q : Option MV → MG → MU → Prop} {v : Nat ⊕ Nat} : Wp E 18 34 (some (.inr (.inr v)) :: ls) st g μ Q = Wp E 18 35 (some (.inr (.inr v)) :: ls) (.inr (.inr v) :: st) g μ Q := Wp_nx k18_34 rfl
theorem k18_35 : mCode 18 35 = some (.iconst 0, 1) := by decide +kernel
theorem x18_35 {E : ME} {ls : MLs} {st : List MV} {g : MG} {μ : MU} {Q : Option MV → MG → MU → Prop} : Wp E 18 35 ls st g μ Q = Wp E 18 36 ls (.inl 0 :: st) g μ Q := Wp_nx k18_35 rfl
theorem k18_36 : mCode 18 36 = some (.putfield 30, 3) := by decide +kernel
theorem x18_36 {E : ME} {ls : MLs} {st : List MV} {g : MG} {μ : MU} {Q : Option MV → MG → MU → Prop} {a : Nat} {v : Int} : Wp E 18 36 ls (.inl v :: .inr (.inr (.inl a)) :: st) g μ Q = ((mKd g a).1 = 2 ∧ Wp E 18 39 ls st g (mUp μ a 5 v) Q) := Wp_putI0 k18_36 f2_30 (by decide) (by decide)
theorem k18_39 : mCode 18 39 = some (.return_, 1) := by decide +kernel
theorem x18_39 {E : ME} {ls : MLs} {g : MG} {μ : MU} {Q : Option MV → MG → MU → Prop} : Wp E 18 39 ls [] g μ Q = Q none g μ := Wp_retV k18_39 (by decide)
theorem k19_0 : mCode 19 0 = some (.iconst 0, 1) := by decide +kernel
theorem x19_0 {E : ME} {ls : MLs} {st : List MV} {g : MG} {μ : MU} {Q : Option MV → MG → MU → Prop} : Wp E 19 0 ls st g μ Q = Wp E 19 1 ls (.inl 0 :: st) g μ Q := Wp_nx k19_0 rfl
theorem k19_1 : mCode 19 1 = some (.istore_n 3, 1) := by decide +kernel
theorem x19_1 {E : ME} {ls : MLs} {st : List MV} {g : MG} {μ : MU} {Q : Option MV → MG → MU → Prop} {l0 l1 l2 : Option MV} {lk : Option MV} {v : Int} : Wp E 19 1 (l0 :: l1 :: l2 :: lk :: ls) (.inl v :: st) g μ Q = ((mNl (some l2) = true ∧ mNl (some lk) = true) ∧ Wp E 19 2 (l0 :: l1 :: l2 :: some (.inl v) :: ls) st g μ Q) := Wp_sti k19_1 (fun _ => rfl) rfl rfl rfl
theorem k19_2 : mCode 19 2 = some (.lload_n 1, 1) := by decide +kernel
theorem x19_2 {E : ME} {ls : MLs} {st : List MV} {g : MG} {μ : MU} {Q : Option MV → MG → MU → Prop} {l0 : Option MV} {v : Int} : Wp E 19 2 (l0 :: some (.inr (.inl v)) :: ls) st g μ Q = Wp E 19 3 (l0 :: some (.inr (.inl v)) :: ls) (.inr (.inl v) :: st) g μ Q := Wp_nx k19_2 rfl
theorem k19_3 : mCode 19 3 = some (.lstore 4, 2) := by decide +kernel
theorem x19_3 {E : ME} {ls : MLs} {st : List MV} {g : MG} {μ : MU} {Q : Option MV → MG → MU → Prop} {l0 l1 l2 l3 : Option MV} {l9 lk : Option MV} {v : Int} : Wp E 19 3 (l0 :: l1 :: l2 :: l3 :: l9 :: lk :: ls) (.inr (.inl v) :: st) g μ Q = ((mNl (some l3) = true ∧ mNl (some lk) = true) ∧ Wp E 19 5 (l0 :: l1 :: l2 :: l3 :: some (.inr (.inl v)) :: none :: ls) st g μ Q) := Wp_stl k19_3 (fun _ => rfl) rfl rfl rfl
theorem k19_5 : mCode 19 5 = some (.iload_n 3, 1) := by decide +kernel
theorem x19_5 {E : ME} {ls : MLs} {st : List MV} {g : MG} {μ : MU} {Q : Option MV → MG → MU → Prop} {l0 l1 l2 : Option MV} {v : Int} : Wp E 19 5 (l0 :: l1 :: l2 :: some (.inl v) :: ls) st g μ Q = Wp E 19 6 (l0 :: l1 :: l2 :: some (.inl v) :: ls) (.inl v :: st) g μ Q := Wp_nx k19_5 rfl
theorem k19_6 : mCode 19 6 = some (.bipush 8, 2) := by decide +kernel
theorem x19_6 {E : ME} {ls : MLs} {st : List MV} {g : MG} {μ : MU} {Q : Option MV → MG → MU → Prop} : Wp E 19 6 ls st g μ Q = Wp E 19 8 ls (.inl 8 :: st) g μ Q := Wp_nx k19_6 rfl
theorem k19_8 : mCode 19 8 = some (.if_icmp .ge 56, 3) := by decide +kernel
theorem x19_8 {E : ME} {ls : MLs} {st : List MV} {g : MG} {μ : MU} {Q : Option MV → MG → MU → Prop} {a b : Int} : Wp E 19 8 ls (.inl b :: .inl a :: st) g μ Q = ((b ≤ a → Wp E 19 64 ls st g μ Q) ∧ (a < b → Wp E 19 11 ls st g μ Q)) := Wp_cmp_ge k19_8 (by decide)
theorem k19_11 : mCode 19 11 = some (.lload 4, 2) := by decide +kernel
theorem x19_11 {E : ME} {ls : MLs} {st : List MV} {g : MG} {μ : MU} {Q : Option MV → MG → MU → Prop} {l0 l1 l2 l3 : Option MV} {v : Int} : Wp E 19 11 (l0 :: l1 :: l2 :: l3 :: some (.inr (.inl v)) :: ls) st g μ Q = Wp E 19 13 (l0 :: l1 :: l2 :: l3 :: some (.inr (.inl v)) :: ls) (.inr (.inl v) :: st) g μ Q := Wp_nx k19_11 rfl
theorem k19_13 : mCode 19 13 = some (.ldc2_w 33, 3) := by decide +kernel
theorem x19_13 {E : ME} {ls : MLs} {st : List MV} {g : MG} {μ : MU} {Q : Option MV → MG → MU → Prop} : Wp E 19 13 ls st g μ Q = Wp E 19 16 ls (mL (255) :: st) g μ Q := Wp_ldc2_w k19_13 (by decide +kernel)
theorem k19_16 : mCode 19 16 = some (.land, 1) := by decide +kernel
theorem x19_16 {E : ME} {ls : MLs} {st : List MV} {g : MG} {μ : MU} {Q : Option MV → MG → MU → Prop} {a b : Int} : Wp E 19 16 ls (.inr (.inl b) :: .inr (.inl a) :: st) g μ Q = Wp E 19 17 ls (.inr (.inl (mLand a b)) :: st) g μ Q := Wp_nx k19_16 rfl
theorem k19_17 : mCode 19 17 = some (.lconst 0, 1) := by decide +kernel
theorem x19_17 {E : ME} {ls : MLs} {st : List MV} {g : MG} {μ : MU} {Q : Option MV → MG → MU → Prop} : Wp E 19 17 ls st g μ Q = Wp E 19 18 ls (.inr (.inl 0) :: st) g μ Q := Wp_nx k19_17 rfl
theorem k19_18 : mCode 19 18 = some (.lcmp, 1) := by decide +kernel
theorem x19_18 {E : ME} {ls : MLs} {st : List MV} {g : MG} {μ : MU} {Q : Option MV → MG → MU → Prop} {a b : Int} : Wp E 19 18 ls (.inr (.inl b) :: .inr (.inl a) :: st) g μ Q = Wp E 19 19 ls (.inl (if a < b then -1 else if a = b then 0 else 1) :: st) g μ Q := Wp_nx k19_18 rfl
theorem k19_19 : mCode 19 19 = some (.ifCond .eq 45, 3) := by decide +kernel
theorem x19_19 {E : ME} {ls : MLs} {st : List MV} {g : MG} {μ : MU} {Q : Option MV → MG → MU → Prop} {a : Int} : Wp E 19 19 ls (.inl a :: st) g μ Q = ((a = 0 → Wp E 19 64 ls st g μ Q) ∧ (¬ a = 0 → Wp E 19 22 ls st g μ Q)) := Wp_if_eq k19_19 (by decide)
theorem k19_22 : mCode 19 22 = some (.lload 4, 2) := by decide +kernel
theorem x19_22 {E : ME} {ls : MLs} {st : List MV} {g : MG} {μ : MU} {Q : Option MV → MG → MU → Prop} {l0 l1 l2 l3 : Option MV} {v : Int} : Wp E 19 22 (l0 :: l1 :: l2 :: l3 :: some (.inr (.inl v)) :: ls) st g μ Q = Wp E 19 24 (l0 :: l1 :: l2 :: l3 :: some (.inr (.inl v)) :: ls) (.inr (.inl v) :: st) g μ Q := Wp_nx k19_22 rfl
theorem k19_24 : mCode 19 24 = some (.ldc2_w 33, 3) := by decide +kernel
theorem x19_24 {E : ME} {ls : MLs} {st : List MV} {g : MG} {μ : MU} {Q : Option MV → MG → MU → Prop} : Wp E 19 24 ls st g μ Q = Wp E 19 27 ls (mL (255) :: st) g μ Q := Wp_ldc2_w k19_24 (by decide +kernel)
theorem k19_27 : mCode 19 27 = some (.land, 1) := by decide +kernel
theorem x19_27 {E : ME} {ls : MLs} {st : List MV} {g : MG} {μ : MU} {Q : Option MV → MG → MU → Prop} {a b : Int} : Wp E 19 27 ls (.inr (.inl b) :: .inr (.inl a) :: st) g μ Q = Wp E 19 28 ls (.inr (.inl (mLand a b)) :: st) g μ Q := Wp_nx k19_27 rfl
theorem k19_28 : mCode 19 28 = some (.ldc2_w 35, 3) := by decide +kernel
theorem x19_28 {E : ME} {ls : MLs} {st : List MV} {g : MG} {μ : MU} {Q : Option MV → MG → MU → Prop} : Wp E 19 28 ls st g μ Q = Wp E 19 31 ls (mL (33) :: st) g μ Q := Wp_ldc2_w k19_28 (by decide +kernel)
theorem k19_31 : mCode 19 31 = some (.lcmp, 1) := by decide +kernel
theorem x19_31 {E : ME} {ls : MLs} {st : List MV} {g : MG} {μ : MU} {Q : Option MV → MG → MU → Prop} {a b : Int} : Wp E 19 31 ls (.inr (.inl b) :: .inr (.inl a) :: st) g μ Q = Wp E 19 32 ls (.inl (if a < b then -1 else if a = b then 0 else 1) :: st) g μ Q := Wp_nx k19_31 rfl
theorem k19_32 : mCode 19 32 = some (.ifCond .lt 16, 3) := by decide +kernel
theorem x19_32 {E : ME} {ls : MLs} {st : List MV} {g : MG} {μ : MU} {Q : Option MV → MG → MU → Prop} {a : Int} : Wp E 19 32 ls (.inl a :: st) g μ Q = ((a < 0 → Wp E 19 48 ls st g μ Q) ∧ (0 ≤ a → Wp E 19 35 ls st g μ Q)) := Wp_if_lt k19_32 (by decide)
theorem k19_35 : mCode 19 35 = some (.lload 4, 2) := by decide +kernel
theorem x19_35 {E : ME} {ls : MLs} {st : List MV} {g : MG} {μ : MU} {Q : Option MV → MG → MU → Prop} {l0 l1 l2 l3 : Option MV} {v : Int} : Wp E 19 35 (l0 :: l1 :: l2 :: l3 :: some (.inr (.inl v)) :: ls) st g μ Q = Wp E 19 37 (l0 :: l1 :: l2 :: l3 :: some (.inr (.inl v)) :: ls) (.inr (.inl v) :: st) g μ Q := Wp_nx k19_35 rfl
theorem k19_37 : mCode 19 37 = some (.ldc2_w 33, 3) := by decide +kernel
theorem x19_37 {E : ME} {ls : MLs} {st : List MV} {g : MG} {μ : MU} {Q : Option MV → MG → MU → Prop} : Wp E 19 37 ls st g μ Q = Wp E 19 40 ls (mL (255) :: st) g μ Q := Wp_ldc2_w k19_37 (by decide +kernel)
theorem k19_40 : mCode 19 40 = some (.land, 1) := by decide +kernel
theorem x19_40 {E : ME} {ls : MLs} {st : List MV} {g : MG} {μ : MU} {Q : Option MV → MG → MU → Prop} {a b : Int} : Wp E 19 40 ls (.inr (.inl b) :: .inr (.inl a) :: st) g μ Q = Wp E 19 41 ls (.inr (.inl (mLand a b)) :: st) g μ Q := Wp_nx k19_40 rfl
theorem k19_41 : mCode 19 41 = some (.ldc2_w 37, 3) := by decide +kernel
theorem x19_41 {E : ME} {ls : MLs} {st : List MV} {g : MG} {μ : MU} {Q : Option MV → MG → MU → Prop} : Wp E 19 41 ls st g μ Q = Wp E 19 44 ls (mL (126) :: st) g μ Q := Wp_ldc2_w k19_41 (by decide +kernel)
theorem k19_44 : mCode 19 44 = some (.lcmp, 1) := by decide +kernel
theorem x19_44 {E : ME} {ls : MLs} {st : List MV} {g : MG} {μ : MU} {Q : Option MV → MG → MU → Prop} {a b : Int} : Wp E 19 44 ls (.inr (.inl b) :: .inr (.inl a) :: st) g μ Q = Wp E 19 45 ls (.inl (if a < b then -1 else if a = b then 0 else 1) :: st) g μ Q := Wp_nx k19_44 rfl
theorem k19_45 : mCode 19 45 = some (.ifCond .le 6, 3) := by decide +kernel
theorem x19_45 {E : ME} {ls : MLs} {st : List MV} {g : MG} {μ : MU} {Q : Option MV → MG → MU → Prop} {a : Int} : Wp E 19 45 ls (.inl a :: st) g μ Q = ((a ≤ 0 → Wp E 19 51 ls st g μ Q) ∧ (0 < a → Wp E 19 48 ls st g μ Q)) := Wp_if_le k19_45 (by decide)
theorem k19_48 : mCode 19 48 = some (.bipush (-2), 2) := by decide +kernel
theorem x19_48 {E : ME} {ls : MLs} {st : List MV} {g : MG} {μ : MU} {Q : Option MV → MG → MU → Prop} : Wp E 19 48 ls st g μ Q = Wp E 19 50 ls (.inl (-2) :: st) g μ Q := Wp_nx k19_48 rfl
theorem k19_50 : mCode 19 50 = some (.ireturn, 1) := by decide +kernel
theorem x19_50 {E : ME} {ls : MLs} {g : MG} {μ : MU} {Q : Option MV → MG → MU → Prop} {v : Int} : Wp E 19 50 ls [.inl v] g μ Q = Q (some (.inl v)) g μ := Wp_retI k19_50 (by decide)
theorem k19_51 : mCode 19 51 = some (.lload 4, 2) := by decide +kernel
theorem x19_51 {E : ME} {ls : MLs} {st : List MV} {g : MG} {μ : MU} {Q : Option MV → MG → MU → Prop} {l0 l1 l2 l3 : Option MV} {v : Int} : Wp E 19 51 (l0 :: l1 :: l2 :: l3 :: some (.inr (.inl v)) :: ls) st g μ Q = Wp E 19 53 (l0 :: l1 :: l2 :: l3 :: some (.inr (.inl v)) :: ls) (.inr (.inl v) :: st) g μ Q := Wp_nx k19_51 rfl
theorem k19_53 : mCode 19 53 = some (.bipush 8, 2) := by decide +kernel
theorem x19_53 {E : ME} {ls : MLs} {st : List MV} {g : MG} {μ : MU} {Q : Option MV → MG → MU → Prop} : Wp E 19 53 ls st g μ Q = Wp E 19 55 ls (.inl 8 :: st) g μ Q := Wp_nx k19_53 rfl
theorem k19_55 : mCode 19 55 = some (.lushr, 1) := by decide +kernel
theorem x19_55 {E : ME} {ls : MLs} {st : List MV} {g : MG} {μ : MU} {Q : Option MV → MG → MU → Prop} {a b : Int} : Wp E 19 55 ls (.inl b :: .inr (.inl a) :: st) g μ Q = Wp E 19 56 ls (.inr (.inl (mLushr a b)) :: st) g μ Q := Wp_nx k19_55 rfl
theorem k19_56 : mCode 19 56 = some (.lstore 4, 2) := by decide +kernel
theorem x19_56 {E : ME} {ls : MLs} {st : List MV} {g : MG} {μ : MU} {Q : Option MV → MG → MU → Prop} {l0 l1 l2 l3 : Option MV} {l9 lk : Option MV} {v : Int} : Wp E 19 56 (l0 :: l1 :: l2 :: l3 :: l9 :: lk :: ls) (.inr (.inl v) :: st) g μ Q = ((mNl (some l3) = true ∧ mNl (some lk) = true) ∧ Wp E 19 58 (l0 :: l1 :: l2 :: l3 :: some (.inr (.inl v)) :: none :: ls) st g μ Q) := Wp_stl k19_56 (fun _ => rfl) rfl rfl rfl
theorem k19_58 : mCode 19 58 = some (.iinc 3 1, 3) := by decide +kernel
theorem x19_58 {E : ME} {ls : MLs} {st : List MV} {g : MG} {μ : MU} {Q : Option MV → MG → MU → Prop} {l0 l1 l2 : Option MV} {v : Int} : Wp E 19 58 (l0 :: l1 :: l2 :: some (.inl v) :: ls) st g μ Q = (mNl (some l2) = true ∧ Wp E 19 61 (l0 :: l1 :: l2 :: some (.inl (mWr (v + 1))) :: ls) st g μ Q) := Wp_inc k19_58 rfl rfl rfl
theorem k19_61 : mCode 19 61 = some (.goto (-56), 3) := by decide +kernel
theorem x19_61 {E : ME} {ls : MLs} {st : List MV} {g : MG} {μ : MU} {Q : Option MV → MG → MU → Prop} : Wp E 19 61 ls st g μ Q = Wp E 19 5 ls st g μ Q := Wp_goto k19_61 (by decide)
theorem k19_64 : mCode 19 64 = some (.iload_n 3, 1) := by decide +kernel
theorem x19_64 {E : ME} {ls : MLs} {st : List MV} {g : MG} {μ : MU} {Q : Option MV → MG → MU → Prop} {l0 l1 l2 : Option MV} {v : Int} : Wp E 19 64 (l0 :: l1 :: l2 :: some (.inl v) :: ls) st g μ Q = Wp E 19 65 (l0 :: l1 :: l2 :: some (.inl v) :: ls) (.inl v :: st) g μ Q := Wp_nx k19_64 rfl
theorem k19_65 : mCode 19 65 = some (.ifCond .eq 10, 3) := by decide +kernel
theorem x19_65 {E : ME} {ls : MLs} {st : List MV} {g : MG} {μ : MU} {Q : Option MV → MG → MU → Prop} {a : Int} : Wp E 19 65 ls (.inl a :: st) g μ Q = ((a = 0 → Wp E 19 75 ls st g μ Q) ∧ (¬ a = 0 → Wp E 19 68 ls st g μ Q)) := Wp_if_eq k19_65 (by decide)
theorem k19_68 : mCode 19 68 = some (.lload 4, 2) := by decide +kernel
theorem x19_68 {E : ME} {ls : MLs} {st : List MV} {g : MG} {μ : MU} {Q : Option MV → MG → MU → Prop} {l0 l1 l2 l3 : Option MV} {v : Int} : Wp E 19 68 (l0 :: l1 :: l2 :: l3 :: some (.inr (.inl v)) :: ls) st g μ Q = Wp E 19 70 (l0 :: l1 :: l2 :: l3 :: some (.inr (.inl v)) :: ls) (.inr (.inl v) :: st) g μ Q := Wp_nx k19_68 rfl
theorem k19_70 : mCode 19 70 = some (.lconst 0, 1) := by decide +kernel
theorem x19_70 {E : ME} {ls : MLs} {st : List MV} {g : MG} {μ : MU} {Q : Option MV → MG → MU → Prop} : Wp E 19 70 ls st g μ Q = Wp E 19 71 ls (.inr (.inl 0) :: st) g μ Q := Wp_nx k19_70 rfl
theorem k19_71 : mCode 19 71 = some (.lcmp, 1) := by decide +kernel
theorem x19_71 {E : ME} {ls : MLs} {st : List MV} {g : MG} {μ : MU} {Q : Option MV → MG → MU → Prop} {a b : Int} : Wp E 19 71 ls (.inr (.inl b) :: .inr (.inl a) :: st) g μ Q = Wp E 19 72 ls (.inl (if a < b then -1 else if a = b then 0 else 1) :: st) g μ Q := Wp_nx k19_71 rfl
theorem k19_72 : mCode 19 72 = some (.ifCond .eq 6, 3) := by decide +kernel
theorem x19_72 {E : ME} {ls : MLs} {st : List MV} {g : MG} {μ : MU} {Q : Option MV → MG → MU → Prop} {a : Int} : Wp E 19 72 ls (.inl a :: st) g μ Q = ((a = 0 → Wp E 19 78 ls st g μ Q) ∧ (¬ a = 0 → Wp E 19 75 ls st g μ Q)) := Wp_if_eq k19_72 (by decide)
theorem k19_75 : mCode 19 75 = some (.bipush (-2), 2) := by decide +kernel
theorem x19_75 {E : ME} {ls : MLs} {st : List MV} {g : MG} {μ : MU} {Q : Option MV → MG → MU → Prop} : Wp E 19 75 ls st g μ Q = Wp E 19 77 ls (.inl (-2) :: st) g μ Q := Wp_nx k19_75 rfl
theorem k19_77 : mCode 19 77 = some (.ireturn, 1) := by decide +kernel
theorem x19_77 {E : ME} {ls : MLs} {g : MG} {μ : MU} {Q : Option MV → MG → MU → Prop} {v : Int} : Wp E 19 77 ls [.inl v] g μ Q = Q (some (.inl v)) g μ := Wp_retI k19_77 (by decide)
theorem k19_78 : mCode 19 78 = some (.aload_n 0, 1) := by decide +kernel
theorem x19_78 {E : ME} {ls : MLs} {st : List MV} {g : MG} {μ : MU} {Q : Option MV → MG → MU → Prop} {v : Nat ⊕ Nat} : Wp E 19 78 (some (.inr (.inr v)) :: ls) st g μ Q = Wp E 19 79 (some (.inr (.inr v)) :: ls) (.inr (.inr v) :: st) g μ Q := Wp_nx k19_78 rfl
theorem k19_79 : mCode 19 79 = some (.getfield 19, 3) := by decide +kernel
theorem x19_79 {E : ME} {ls : MLs} {st : List MV} {g : MG} {μ : MU} {Q : Option MV → MG → MU → Prop} {a : Nat} : Wp E 19 79 ls (.inr (.inr (.inl a)) :: st) g μ Q = ((mKd g a).1 = 2 ∧ Wp E 19 82 ls (.inl (μ a 2) :: st) g μ Q) := Wp_getI k19_79 f2_19 (by decide) (by decide)
theorem k19_82 : mCode 19 82 = some (.iload_n 3, 1) := by decide +kernel
theorem x19_82 {E : ME} {ls : MLs} {st : List MV} {g : MG} {μ : MU} {Q : Option MV → MG → MU → Prop} {l0 l1 l2 : Option MV} {v : Int} : Wp E 19 82 (l0 :: l1 :: l2 :: some (.inl v) :: ls) st g μ Q = Wp E 19 83 (l0 :: l1 :: l2 :: some (.inl v) :: ls) (.inl v :: st) g μ Q := Wp_nx k19_82 rfl
theorem k19_83 : mCode 19 83 = some (.iadd, 1) := by decide +kernel
theorem x19_83 {E : ME} {ls : MLs} {st : List MV} {g : MG} {μ : MU} {Q : Option MV → MG → MU → Prop} {a b : Int} : Wp E 19 83 ls (.inl b :: .inl a :: st) g μ Q = Wp E 19 84 ls (.inl (mWr (a + b)) :: st) g μ Q := Wp_nx k19_83 rfl
theorem k19_84 : mCode 19 84 = some (.bipush 80, 2) := by decide +kernel
theorem x19_84 {E : ME} {ls : MLs} {st : List MV} {g : MG} {μ : MU} {Q : Option MV → MG → MU → Prop} : Wp E 19 84 ls st g μ Q = Wp E 19 86 ls (.inl 80 :: st) g μ Q := Wp_nx k19_84 rfl
theorem k19_86 : mCode 19 86 = some (.if_icmp .le 6, 3) := by decide +kernel
theorem x19_86 {E : ME} {ls : MLs} {st : List MV} {g : MG} {μ : MU} {Q : Option MV → MG → MU → Prop} {a b : Int} : Wp E 19 86 ls (.inl b :: .inl a :: st) g μ Q = ((a ≤ b → Wp E 19 92 ls st g μ Q) ∧ (b < a → Wp E 19 89 ls st g μ Q)) := Wp_cmp_le k19_86 (by decide)
theorem k19_89 : mCode 19 89 = some (.bipush (-4), 2) := by decide +kernel
theorem x19_89 {E : ME} {ls : MLs} {st : List MV} {g : MG} {μ : MU} {Q : Option MV → MG → MU → Prop} : Wp E 19 89 ls st g μ Q = Wp E 19 91 ls (.inl (-4) :: st) g μ Q := Wp_nx k19_89 rfl
theorem k19_91 : mCode 19 91 = some (.ireturn, 1) := by decide +kernel
theorem x19_91 {E : ME} {ls : MLs} {g : MG} {μ : MU} {Q : Option MV → MG → MU → Prop} {v : Int} : Wp E 19 91 ls [.inl v] g μ Q = Q (some (.inl v)) g μ := Wp_retI k19_91 (by decide)
theorem k19_92 : mCode 19 92 = some (.iconst 0, 1) := by decide +kernel
theorem x19_92 {E : ME} {ls : MLs} {st : List MV} {g : MG} {μ : MU} {Q : Option MV → MG → MU → Prop} : Wp E 19 92 ls st g μ Q = Wp E 19 93 ls (.inl 0 :: st) g μ Q := Wp_nx k19_92 rfl
theorem k19_93 : mCode 19 93 = some (.istore 6, 2) := by decide +kernel
theorem x19_93 {E : ME} {ls : MLs} {st : List MV} {g : MG} {μ : MU} {Q : Option MV → MG → MU → Prop} {l0 l1 l2 l3 l4 l5 : Option MV} {lk : Option MV} {v : Int} : Wp E 19 93 (l0 :: l1 :: l2 :: l3 :: l4 :: l5 :: lk :: ls) (.inl v :: st) g μ Q = ((mNl (some l5) = true ∧ mNl (some lk) = true) ∧ Wp E 19 95 (l0 :: l1 :: l2 :: l3 :: l4 :: l5 :: some (.inl v) :: ls) st g μ Q) := Wp_sti k19_93 (fun _ => rfl) rfl rfl rfl
theorem k19_95 : mCode 19 95 = some (.iload 6, 2) := by decide +kernel
theorem x19_95 {E : ME} {ls : MLs} {st : List MV} {g : MG} {μ : MU} {Q : Option MV → MG → MU → Prop} {l0 l1 l2 l3 l4 l5 : Option MV} {v : Int} : Wp E 19 95 (l0 :: l1 :: l2 :: l3 :: l4 :: l5 :: some (.inl v) :: ls) st g μ Q = Wp E 19 97 (l0 :: l1 :: l2 :: l3 :: l4 :: l5 :: some (.inl v) :: ls) (.inl v :: st) g μ Q := Wp_nx k19_95 rfl
theorem k19_97 : mCode 19 97 = some (.iload_n 3, 1) := by decide +kernel
theorem x19_97 {E : ME} {ls : MLs} {st : List MV} {g : MG} {μ : MU} {Q : Option MV → MG → MU → Prop} {l0 l1 l2 : Option MV} {v : Int} : Wp E 19 97 (l0 :: l1 :: l2 :: some (.inl v) :: ls) st g μ Q = Wp E 19 98 (l0 :: l1 :: l2 :: some (.inl v) :: ls) (.inl v :: st) g μ Q := Wp_nx k19_97 rfl
theorem k19_98 : mCode 19 98 = some (.if_icmp .ge 38, 3) := by decide +kernel
theorem x19_98 {E : ME} {ls : MLs} {st : List MV} {g : MG} {μ : MU} {Q : Option MV → MG → MU → Prop} {a b : Int} : Wp E 19 98 ls (.inl b :: .inl a :: st) g μ Q = ((b ≤ a → Wp E 19 136 ls st g μ Q) ∧ (a < b → Wp E 19 101 ls st g μ Q)) := Wp_cmp_ge k19_98 (by decide)
theorem k19_101 : mCode 19 101 = some (.aload_n 0, 1) := by decide +kernel
theorem x19_101 {E : ME} {ls : MLs} {st : List MV} {g : MG} {μ : MU} {Q : Option MV → MG → MU → Prop} {v : Nat ⊕ Nat} : Wp E 19 101 (some (.inr (.inr v)) :: ls) st g μ Q = Wp E 19 102 (some (.inr (.inr v)) :: ls) (.inr (.inr v) :: st) g μ Q := Wp_nx k19_101 rfl
theorem k19_102 : mCode 19 102 = some (.getfield 9, 3) := by decide +kernel
theorem x19_102 {E : ME} {ls : MLs} {st : List MV} {g : MG} {μ : MU} {Q : Option MV → MG → MU → Prop} {a : Nat} : Wp E 19 102 ls (.inr (.inr (.inl a)) :: st) g μ Q = ((mKd g a).1 = 2 ∧ Wp E 19 105 ls (mRv (mRf g a 0) :: st) g μ Q) := Wp_getR k19_102 f2_9 (by decide) (by decide)
theorem k19_105 : mCode 19 105 = some (.aload_n 0, 1) := by decide +kernel
theorem x19_105 {E : ME} {ls : MLs} {st : List MV} {g : MG} {μ : MU} {Q : Option MV → MG → MU → Prop} {v : Nat ⊕ Nat} : Wp E 19 105 (some (.inr (.inr v)) :: ls) st g μ Q = Wp E 19 106 (some (.inr (.inr v)) :: ls) (.inr (.inr v) :: st) g μ Q := Wp_nx k19_105 rfl
theorem k19_106 : mCode 19 106 = some (.getfield 19, 3) := by decide +kernel
theorem x19_106 {E : ME} {ls : MLs} {st : List MV} {g : MG} {μ : MU} {Q : Option MV → MG → MU → Prop} {a : Nat} : Wp E 19 106 ls (.inr (.inr (.inl a)) :: st) g μ Q = ((mKd g a).1 = 2 ∧ Wp E 19 109 ls (.inl (μ a 2) :: st) g μ Q) := Wp_getI k19_106 f2_19 (by decide) (by decide)
theorem k19_109 : mCode 19 109 = some (.iload_n 3, 1) := by decide +kernel
theorem x19_109 {E : ME} {ls : MLs} {st : List MV} {g : MG} {μ : MU} {Q : Option MV → MG → MU → Prop} {l0 l1 l2 : Option MV} {v : Int} : Wp E 19 109 (l0 :: l1 :: l2 :: some (.inl v) :: ls) st g μ Q = Wp E 19 110 (l0 :: l1 :: l2 :: some (.inl v) :: ls) (.inl v :: st) g μ Q := Wp_nx k19_109 rfl
theorem k19_110 : mCode 19 110 = some (.iadd, 1) := by decide +kernel
theorem x19_110 {E : ME} {ls : MLs} {st : List MV} {g : MG} {μ : MU} {Q : Option MV → MG → MU → Prop} {a b : Int} : Wp E 19 110 ls (.inl b :: .inl a :: st) g μ Q = Wp E 19 111 ls (.inl (mWr (a + b)) :: st) g μ Q := Wp_nx k19_110 rfl
theorem k19_111 : mCode 19 111 = some (.iconst 1, 1) := by decide +kernel
theorem x19_111 {E : ME} {ls : MLs} {st : List MV} {g : MG} {μ : MU} {Q : Option MV → MG → MU → Prop} : Wp E 19 111 ls st g μ Q = Wp E 19 112 ls (.inl 1 :: st) g μ Q := Wp_nx k19_111 rfl
theorem k19_112 : mCode 19 112 = some (.isub, 1) := by decide +kernel
theorem x19_112 {E : ME} {ls : MLs} {st : List MV} {g : MG} {μ : MU} {Q : Option MV → MG → MU → Prop} {a b : Int} : Wp E 19 112 ls (.inl b :: .inl a :: st) g μ Q = Wp E 19 113 ls (.inl (mWr (a - b)) :: st) g μ Q := Wp_nx k19_112 rfl
theorem k19_113 : mCode 19 113 = some (.iload 6, 2) := by decide +kernel
theorem x19_113 {E : ME} {ls : MLs} {st : List MV} {g : MG} {μ : MU} {Q : Option MV → MG → MU → Prop} {l0 l1 l2 l3 l4 l5 : Option MV} {v : Int} : Wp E 19 113 (l0 :: l1 :: l2 :: l3 :: l4 :: l5 :: some (.inl v) :: ls) st g μ Q = Wp E 19 115 (l0 :: l1 :: l2 :: l3 :: l4 :: l5 :: some (.inl v) :: ls) (.inl v :: st) g μ Q := Wp_nx k19_113 rfl
theorem k19_115 : mCode 19 115 = some (.isub, 1) := by decide +kernel
theorem x19_115 {E : ME} {ls : MLs} {st : List MV} {g : MG} {μ : MU} {Q : Option MV → MG → MU → Prop} {a b : Int} : Wp E 19 115 ls (.inl b :: .inl a :: st) g μ Q = Wp E 19 116 ls (.inl (mWr (a - b)) :: st) g μ Q := Wp_nx k19_115 rfl
theorem k19_116 : mCode 19 116 = some (.lload_n 1, 1) := by decide +kernel
theorem x19_116 {E : ME} {ls : MLs} {st : List MV} {g : MG} {μ : MU} {Q : Option MV → MG → MU → Prop} {l0 : Option MV} {v : Int} : Wp E 19 116 (l0 :: some (.inr (.inl v)) :: ls) st g μ Q = Wp E 19 117 (l0 :: some (.inr (.inl v)) :: ls) (.inr (.inl v) :: st) g μ Q := Wp_nx k19_116 rfl
theorem k19_117 : mCode 19 117 = some (.bipush 8, 2) := by decide +kernel
theorem x19_117 {E : ME} {ls : MLs} {st : List MV} {g : MG} {μ : MU} {Q : Option MV → MG → MU → Prop} : Wp E 19 117 ls st g μ Q = Wp E 19 119 ls (.inl 8 :: st) g μ Q := Wp_nx k19_117 rfl
theorem k19_119 : mCode 19 119 = some (.iload 6, 2) := by decide +kernel
theorem x19_119 {E : ME} {ls : MLs} {st : List MV} {g : MG} {μ : MU} {Q : Option MV → MG → MU → Prop} {l0 l1 l2 l3 l4 l5 : Option MV} {v : Int} : Wp E 19 119 (l0 :: l1 :: l2 :: l3 :: l4 :: l5 :: some (.inl v) :: ls) st g μ Q = Wp E 19 121 (l0 :: l1 :: l2 :: l3 :: l4 :: l5 :: some (.inl v) :: ls) (.inl v :: st) g μ Q := Wp_nx k19_119 rfl
theorem k19_121 : mCode 19 121 = some (.imul, 1) := by decide +kernel
theorem x19_121 {E : ME} {ls : MLs} {st : List MV} {g : MG} {μ : MU} {Q : Option MV → MG → MU → Prop} {a b : Int} : Wp E 19 121 ls (.inl b :: .inl a :: st) g μ Q = Wp E 19 122 ls (.inl (mWr (a * b)) :: st) g μ Q := Wp_nx k19_121 rfl
theorem k19_122 : mCode 19 122 = some (.lushr, 1) := by decide +kernel
theorem x19_122 {E : ME} {ls : MLs} {st : List MV} {g : MG} {μ : MU} {Q : Option MV → MG → MU → Prop} {a b : Int} : Wp E 19 122 ls (.inl b :: .inr (.inl a) :: st) g μ Q = Wp E 19 123 ls (.inr (.inl (mLushr a b)) :: st) g μ Q := Wp_nx k19_122 rfl
theorem k19_123 : mCode 19 123 = some (.ldc2_w 33, 3) := by decide +kernel
theorem x19_123 {E : ME} {ls : MLs} {st : List MV} {g : MG} {μ : MU} {Q : Option MV → MG → MU → Prop} : Wp E 19 123 ls st g μ Q = Wp E 19 126 ls (mL (255) :: st) g μ Q := Wp_ldc2_w k19_123 (by decide +kernel)
theorem k19_126 : mCode 19 126 = some (.land, 1) := by decide +kernel
theorem x19_126 {E : ME} {ls : MLs} {st : List MV} {g : MG} {μ : MU} {Q : Option MV → MG → MU → Prop} {a b : Int} : Wp E 19 126 ls (.inr (.inl b) :: .inr (.inl a) :: st) g μ Q = Wp E 19 127 ls (.inr (.inl (mLand a b)) :: st) g μ Q := Wp_nx k19_126 rfl
theorem k19_127 : mCode 19 127 = some (.l2i, 1) := by decide +kernel
theorem x19_127 {E : ME} {ls : MLs} {st : List MV} {g : MG} {μ : MU} {Q : Option MV → MG → MU → Prop} {a : Int} : Wp E 19 127 ls (.inr (.inl a) :: st) g μ Q = Wp E 19 128 ls (.inl (mWr a) :: st) g μ Q := Wp_nx k19_127 rfl
theorem k19_128 : mCode 19 128 = some (.i2c, 1) := by decide +kernel
theorem x19_128 {E : ME} {ls : MLs} {st : List MV} {g : MG} {μ : MU} {Q : Option MV → MG → MU → Prop} {a : Int} : Wp E 19 128 ls (.inl a :: st) g μ Q = Wp E 19 129 ls (.inl (a % 65536) :: st) g μ Q := Wp_nx k19_128 rfl
theorem k19_129 : mCode 19 129 = some (.castore, 1) := by decide +kernel
theorem x19_129 {E : ME} {ls : MLs} {st : List MV} {g : MG} {μ : MU} {Q : Option MV → MG → MU → Prop} {a : Nat} {j v : Int} : Wp E 19 129 ls (.inl v :: .inl j :: .inr (.inr (.inl a)) :: st) g μ Q = (((mKd g a).1 = 11 ∧ 0 ≤ j ∧ j < (mKd g a).2 ∧ mOk 1 v = true) ∧ Wp E 19 130 ls st g (mUp μ a j.toNat v) Q) := Wp_ast k19_129 (fun _ => rfl)
theorem k19_130 : mCode 19 130 = some (.iinc 6 1, 3) := by decide +kernel
theorem x19_130 {E : ME} {ls : MLs} {st : List MV} {g : MG} {μ : MU} {Q : Option MV → MG → MU → Prop} {l0 l1 l2 l3 l4 l5 : Option MV} {v : Int} : Wp E 19 130 (l0 :: l1 :: l2 :: l3 :: l4 :: l5 :: some (.inl v) :: ls) st g μ Q = (mNl (some l5) = true ∧ Wp E 19 133 (l0 :: l1 :: l2 :: l3 :: l4 :: l5 :: some (.inl (mWr (v + 1))) :: ls) st g μ Q) := Wp_inc k19_130 rfl rfl rfl
theorem k19_133 : mCode 19 133 = some (.goto (-38), 3) := by decide +kernel
theorem x19_133 {E : ME} {ls : MLs} {st : List MV} {g : MG} {μ : MU} {Q : Option MV → MG → MU → Prop} : Wp E 19 133 ls st g μ Q = Wp E 19 95 ls st g μ Q := Wp_goto k19_133 (by decide)
theorem k19_136 : mCode 19 136 = some (.aload_n 0, 1) := by decide +kernel
theorem x19_136 {E : ME} {ls : MLs} {st : List MV} {g : MG} {μ : MU} {Q : Option MV → MG → MU → Prop} {v : Nat ⊕ Nat} : Wp E 19 136 (some (.inr (.inr v)) :: ls) st g μ Q = Wp E 19 137 (some (.inr (.inr v)) :: ls) (.inr (.inr v) :: st) g μ Q := Wp_nx k19_136 rfl
theorem k19_137 : mCode 19 137 = some (.dup, 1) := by decide +kernel
theorem x19_137 {E : ME} {ls : MLs} {st : List MV} {g : MG} {μ : MU} {Q : Option MV → MG → MU → Prop} {v : MV} : Wp E 19 137 ls (v :: st) g μ Q = (mC1 v = true ∧ Wp E 19 138 ls (v :: v :: st) g μ Q) := Wp_dup k19_137
theorem k19_138 : mCode 19 138 = some (.getfield 19, 3) := by decide +kernel
theorem x19_138 {E : ME} {ls : MLs} {st : List MV} {g : MG} {μ : MU} {Q : Option MV → MG → MU → Prop} {a : Nat} : Wp E 19 138 ls (.inr (.inr (.inl a)) :: st) g μ Q = ((mKd g a).1 = 2 ∧ Wp E 19 141 ls (.inl (μ a 2) :: st) g μ Q) := Wp_getI k19_138 f2_19 (by decide) (by decide)
theorem k19_141 : mCode 19 141 = some (.iload_n 3, 1) := by decide +kernel
theorem x19_141 {E : ME} {ls : MLs} {st : List MV} {g : MG} {μ : MU} {Q : Option MV → MG → MU → Prop} {l0 l1 l2 : Option MV} {v : Int} : Wp E 19 141 (l0 :: l1 :: l2 :: some (.inl v) :: ls) st g μ Q = Wp E 19 142 (l0 :: l1 :: l2 :: some (.inl v) :: ls) (.inl v :: st) g μ Q := Wp_nx k19_141 rfl
theorem k19_142 : mCode 19 142 = some (.iadd, 1) := by decide +kernel
theorem x19_142 {E : ME} {ls : MLs} {st : List MV} {g : MG} {μ : MU} {Q : Option MV → MG → MU → Prop} {a b : Int} : Wp E 19 142 ls (.inl b :: .inl a :: st) g μ Q = Wp E 19 143 ls (.inl (mWr (a + b)) :: st) g μ Q := Wp_nx k19_142 rfl
theorem k19_143 : mCode 19 143 = some (.putfield 19, 3) := by decide +kernel
theorem x19_143 {E : ME} {ls : MLs} {st : List MV} {g : MG} {μ : MU} {Q : Option MV → MG → MU → Prop} {a : Nat} {v : Int} : Wp E 19 143 ls (.inl v :: .inr (.inr (.inl a)) :: st) g μ Q = ((mKd g a).1 = 2 ∧ Wp E 19 146 ls st g (mUp μ a 2 v) Q) := Wp_putI0 k19_143 f2_19 (by decide) (by decide)
theorem k19_146 : mCode 19 146 = some (.aload_n 0, 1) := by decide +kernel
theorem x19_146 {E : ME} {ls : MLs} {st : List MV} {g : MG} {μ : MU} {Q : Option MV → MG → MU → Prop} {v : Nat ⊕ Nat} : Wp E 19 146 (some (.inr (.inr v)) :: ls) st g μ Q = Wp E 19 147 (some (.inr (.inr v)) :: ls) (.inr (.inr v) :: st) g μ Q := Wp_nx k19_146 rfl
theorem k19_147 : mCode 19 147 = some (.getfield 19, 3) := by decide +kernel
theorem x19_147 {E : ME} {ls : MLs} {st : List MV} {g : MG} {μ : MU} {Q : Option MV → MG → MU → Prop} {a : Nat} : Wp E 19 147 ls (.inr (.inr (.inl a)) :: st) g μ Q = ((mKd g a).1 = 2 ∧ Wp E 19 150 ls (.inl (μ a 2) :: st) g μ Q) := Wp_getI k19_147 f2_19 (by decide) (by decide)
theorem k19_150 : mCode 19 150 = some (.ireturn, 1) := by decide +kernel
theorem x19_150 {E : ME} {ls : MLs} {g : MG} {μ : MU} {Q : Option MV → MG → MU → Prop} {v : Int} : Wp E 19 150 ls [.inl v] g μ Q = Q (some (.inl v)) g μ := Wp_retI k19_150 (by decide)
theorem k20_0 : mCode 20 0 = some (.aload_n 0, 1) := by decide +kernel
theorem x20_0 {E : ME} {ls : MLs} {st : List MV} {g : MG} {μ : MU} {Q : Option MV → MG → MU → Prop} {v : Nat ⊕ Nat} : Wp E 20 0 (some (.inr (.inr v)) :: ls) st g μ Q = Wp E 20 1 (some (.inr (.inr v)) :: ls) (.inr (.inr v) :: st) g μ Q := Wp_nx k20_0 rfl
theorem k20_1 : mCode 20 1 = some (.iconst 0, 1) := by decide +kernel
theorem x20_1 {E : ME} {ls : MLs} {st : List MV} {g : MG} {μ : MU} {Q : Option MV → MG → MU → Prop} : Wp E 20 1 ls st g μ Q = Wp E 20 2 ls (.inl 0 :: st) g μ Q := Wp_nx k20_1 rfl
theorem k20_2 : mCode 20 2 = some (.putfield 23, 3) := by decide +kernel
theorem x20_2 {E : ME} {ls : MLs} {st : List MV} {g : MG} {μ : MU} {Q : Option MV → MG → MU → Prop} {a : Nat} {v : Int} : Wp E 20 2 ls (.inl v :: .inr (.inr (.inl a)) :: st) g μ Q = ((mKd g a).1 = 2 ∧ Wp E 20 5 ls st g (mUp μ a 3 v) Q) := Wp_putI0 k20_2 f2_23 (by decide) (by decide)
theorem k20_5 : mCode 20 5 = some (.iconst 0, 1) := by decide +kernel
theorem x20_5 {E : ME} {ls : MLs} {st : List MV} {g : MG} {μ : MU} {Q : Option MV → MG → MU → Prop} : Wp E 20 5 ls st g μ Q = Wp E 20 6 ls (.inl 0 :: st) g μ Q := Wp_nx k20_5 rfl
theorem k20_6 : mCode 20 6 = some (.istore_n 1, 1) := by decide +kernel
theorem x20_6 {E : ME} {ls : MLs} {st : List MV} {g : MG} {μ : MU} {Q : Option MV → MG → MU → Prop} {l0 : Option MV} {lk : Option MV} {v : Int} : Wp E 20 6 (l0 :: lk :: ls) (.inl v :: st) g μ Q = ((mNl (some l0) = true ∧ mNl (some lk) = true) ∧ Wp E 20 7 (l0 :: some (.inl v) :: ls) st g μ Q) := Wp_sti k20_6 (fun _ => rfl) rfl rfl rfl
theorem k20_7 : mCode 20 7 = some (.iload_n 1, 1) := by decide +kernel
theorem x20_7 {E : ME} {ls : MLs} {st : List MV} {g : MG} {μ : MU} {Q : Option MV → MG → MU → Prop} {l0 : Option MV} {v : Int} : Wp E 20 7 (l0 :: some (.inl v) :: ls) st g μ Q = Wp E 20 8 (l0 :: some (.inl v) :: ls) (.inl v :: st) g μ Q := Wp_nx k20_7 rfl
theorem k20_8 : mCode 20 8 = some (.bipush 80, 2) := by decide +kernel
theorem x20_8 {E : ME} {ls : MLs} {st : List MV} {g : MG} {μ : MU} {Q : Option MV → MG → MU → Prop} : Wp E 20 8 ls st g μ Q = Wp E 20 10 ls (.inl 80 :: st) g μ Q := Wp_nx k20_8 rfl
theorem k20_10 : mCode 20 10 = some (.if_icmp .ge 44, 3) := by decide +kernel
theorem x20_10 {E : ME} {ls : MLs} {st : List MV} {g : MG} {μ : MU} {Q : Option MV → MG → MU → Prop} {a b : Int} : Wp E 20 10 ls (.inl b :: .inl a :: st) g μ Q = ((b ≤ a → Wp E 20 54 ls st g μ Q) ∧ (a < b → Wp E 20 13 ls st g μ Q)) := Wp_cmp_ge k20_10 (by decide)
theorem k20_13 : mCode 20 13 = some (.aload_n 0, 1) := by decide +kernel
theorem x20_13 {E : ME} {ls : MLs} {st : List MV} {g : MG} {μ : MU} {Q : Option MV → MG → MU → Prop} {v : Nat ⊕ Nat} : Wp E 20 13 (some (.inr (.inr v)) :: ls) st g μ Q = Wp E 20 14 (some (.inr (.inr v)) :: ls) (.inr (.inr v) :: st) g μ Q := Wp_nx k20_13 rfl
theorem k20_14 : mCode 20 14 = some (.invokevirtual 39, 3) := by decide +kernel
theorem x20_14 {E : ME} {ls : MLs} {st : List MV} {g : MG} {μ : MU} {Q : Option MV → MG → MU → Prop} {r : Nat} : Wp E 20 14 ls (.inr (.inr (.inl r)) :: st) g μ Q = ((st.length ≤ 4 ∧ ((mKd g r).1 == 2) = true) ∧ Wp E 21 0 [some (.inr (.inr (.inl r))), none, none] [] g μ (fun r g' μ' => (g'.1 = g.1 ∧ g'.2.1 = g.2.1) ∧ Wp E 20 17 ls (mPush r st) g' μ' Q)) := Wp_cV k20_14 m2_39 (by decide) (as := [.inr (.inr (.inl r))]) rfl rfl rfl ⟨Nat.le_of_ble_eq_true rfl, by decide⟩
theorem k20_17 : mCode 20 17 = some (.ifCond .eq 37, 3) := by decide +kernel
theorem x20_17 {E : ME} {ls : MLs} {st : List MV} {g : MG} {μ : MU} {Q : Option MV → MG → MU → Prop} {a : Int} : Wp E 20 17 ls (.inl a :: st) g μ Q = ((a = 0 → Wp E 20 54 ls st g μ Q) ∧ (¬ a = 0 → Wp E 20 20 ls st g μ Q)) := Wp_if_eq k20_17 (by decide)
theorem k20_20 : mCode 20 20 = some (.aload_n 0, 1) := by decide +kernel
theorem x20_20 {E : ME} {ls : MLs} {st : List MV} {g : MG} {μ : MU} {Q : Option MV → MG → MU → Prop} {v : Nat ⊕ Nat} : Wp E 20 20 (some (.inr (.inr v)) :: ls) st g μ Q = Wp E 20 21 (some (.inr (.inr v)) :: ls) (.inr (.inr v) :: st) g μ Q := Wp_nx k20_20 rfl
theorem k20_21 : mCode 20 21 = some (.getfield 23, 3) := by decide +kernel
theorem x20_21 {E : ME} {ls : MLs} {st : List MV} {g : MG} {μ : MU} {Q : Option MV → MG → MU → Prop} {a : Nat} : Wp E 20 21 ls (.inr (.inr (.inl a)) :: st) g μ Q = ((mKd g a).1 = 2 ∧ Wp E 20 24 ls (.inl (μ a 3) :: st) g μ Q) := Wp_getI k20_21 f2_23 (by decide) (by decide)
theorem k20_24 : mCode 20 24 = some (.aload_n 0, 1) := by decide +kernel
theorem x20_24 {E : ME} {ls : MLs} {st : List MV} {g : MG} {μ : MU} {Q : Option MV → MG → MU → Prop} {v : Nat ⊕ Nat} : Wp E 20 24 (some (.inr (.inr v)) :: ls) st g μ Q = Wp E 20 25 (some (.inr (.inr v)) :: ls) (.inr (.inr v) :: st) g μ Q := Wp_nx k20_24 rfl
theorem k20_25 : mCode 20 25 = some (.getfield 19, 3) := by decide +kernel
theorem x20_25 {E : ME} {ls : MLs} {st : List MV} {g : MG} {μ : MU} {Q : Option MV → MG → MU → Prop} {a : Nat} : Wp E 20 25 ls (.inr (.inr (.inl a)) :: st) g μ Q = ((mKd g a).1 = 2 ∧ Wp E 20 28 ls (.inl (μ a 2) :: st) g μ Q) := Wp_getI k20_25 f2_19 (by decide) (by decide)
theorem k20_28 : mCode 20 28 = some (.if_icmp .ne 6, 3) := by decide +kernel
theorem x20_28 {E : ME} {ls : MLs} {st : List MV} {g : MG} {μ : MU} {Q : Option MV → MG → MU → Prop} {a b : Int} : Wp E 20 28 ls (.inl b :: .inl a :: st) g μ Q = ((¬ a = b → Wp E 20 34 ls st g μ Q) ∧ (a = b → Wp E 20 31 ls st g μ Q)) := Wp_cmp_ne k20_28 (by decide)
theorem k20_31 : mCode 20 31 = some (.bipush (-6), 2) := by decide +kernel
theorem x20_31 {E : ME} {ls : MLs} {st : List MV} {g : MG} {μ : MU} {Q : Option MV → MG → MU → Prop} : Wp E 20 31 ls st g μ Q = Wp E 20 33 ls (.inl (-6) :: st) g μ Q := Wp_nx k20_31 rfl
theorem k20_33 : mCode 20 33 = some (.ireturn, 1) := by decide +kernel
theorem x20_33 {E : ME} {ls : MLs} {g : MG} {μ : MU} {Q : Option MV → MG → MU → Prop} {v : Int} : Wp E 20 33 ls [.inl v] g μ Q = Q (some (.inl v)) g μ := Wp_retI k20_33 (by decide)
theorem k20_34 : mCode 20 34 = some (.aload_n 0, 1) := by decide +kernel
theorem x20_34 {E : ME} {ls : MLs} {st : List MV} {g : MG} {μ : MU} {Q : Option MV → MG → MU → Prop} {v : Nat ⊕ Nat} : Wp E 20 34 (some (.inr (.inr v)) :: ls) st g μ Q = Wp E 20 35 (some (.inr (.inr v)) :: ls) (.inr (.inr v) :: st) g μ Q := Wp_nx k20_34 rfl
theorem k20_35 : mCode 20 35 = some (.bipush 59, 2) := by decide +kernel
theorem x20_35 {E : ME} {ls : MLs} {st : List MV} {g : MG} {μ : MU} {Q : Option MV → MG → MU → Prop} : Wp E 20 35 ls st g μ Q = Wp E 20 37 ls (.inl 59 :: st) g μ Q := Wp_nx k20_35 rfl
theorem k20_37 : mCode 20 37 = some (.invokevirtual 43, 3) := by decide +kernel
theorem x20_37 {E : ME} {ls : MLs} {st : List MV} {g : MG} {μ : MU} {Q : Option MV → MG → MU → Prop} {r : Nat} {a0 : Int} : Wp E 20 37 ls (.inl a0 :: .inr (.inr (.inl r)) :: st) g μ Q = ((st.length ≤ 4 ∧ ((mKd g r).1 == 2) = true) ∧ Wp E 25 0 [some (.inr (.inr (.inl r))), some (.inl a0)] [] g μ (fun r g' μ' => (g'.1 = g.1 ∧ g'.2.1 = g.2.1) ∧ Wp E 20 40 ls (mPush r st) g' μ' Q)) := Wp_cV k20_37 m2_43 (by decide) (as := [.inr (.inr (.inl r)), .inl a0]) rfl rfl rfl ⟨Nat.le_of_ble_eq_true rfl, by decide⟩
theorem k20_40 : mCode 20 40 = some (.ifCond .ne 8, 3) := by decide +kernel
theorem x20_40 {E : ME} {ls : MLs} {st : List MV} {g : MG} {μ : MU} {Q : Option MV → MG → MU → Prop} {a : Int} : Wp E 20 40 ls (.inl a :: st) g μ Q = ((¬ a = 0 → Wp E 20 48 ls st g μ Q) ∧ (a = 0 → Wp E 20 43 ls st g μ Q)) := Wp_if_ne k20_40 (by decide)
theorem k20_43 : mCode 20 43 = some (.aload_n 0, 1) := by decide +kernel
theorem x20_43 {E : ME} {ls : MLs} {st : List MV} {g : MG} {μ : MU} {Q : Option MV → MG → MU → Prop} {v : Nat ⊕ Nat} : Wp E 20 43 (some (.inr (.inr v)) :: ls) st g μ Q = Wp E 20 44 (some (.inr (.inr v)) :: ls) (.inr (.inr v) :: st) g μ Q := Wp_nx k20_43 rfl
theorem k20_44 : mCode 20 44 = some (.getfield 23, 3) := by decide +kernel
theorem x20_44 {E : ME} {ls : MLs} {st : List MV} {g : MG} {μ : MU} {Q : Option MV → MG → MU → Prop} {a : Nat} : Wp E 20 44 ls (.inr (.inr (.inl a)) :: st) g μ Q = ((mKd g a).1 = 2 ∧ Wp E 20 47 ls (.inl (μ a 3) :: st) g μ Q) := Wp_getI k20_44 f2_23 (by decide) (by decide)
theorem k20_47 : mCode 20 47 = some (.ireturn, 1) := by decide +kernel
theorem x20_47 {E : ME} {ls : MLs} {g : MG} {μ : MU} {Q : Option MV → MG → MU → Prop} {v : Int} : Wp E 20 47 ls [.inl v] g μ Q = Q (some (.inl v)) g μ := Wp_retI k20_47 (by decide)
theorem k20_48 : mCode 20 48 = some (.iinc 1 1, 3) := by decide +kernel
theorem x20_48 {E : ME} {ls : MLs} {st : List MV} {g : MG} {μ : MU} {Q : Option MV → MG → MU → Prop} {l0 : Option MV} {v : Int} : Wp E 20 48 (l0 :: some (.inl v) :: ls) st g μ Q = (mNl (some l0) = true ∧ Wp E 20 51 (l0 :: some (.inl (mWr (v + 1))) :: ls) st g μ Q) := Wp_inc k20_48 rfl rfl rfl
theorem k20_51 : mCode 20 51 = some (.goto (-44), 3) := by decide +kernel
theorem x20_51 {E : ME} {ls : MLs} {st : List MV} {g : MG} {μ : MU} {Q : Option MV → MG → MU → Prop} : Wp E 20 51 ls st g μ Q = Wp E 20 7 ls st g μ Q := Wp_goto k20_51 (by decide)
theorem k20_54 : mCode 20 54 = some (.aload_n 0, 1) := by decide +kernel
theorem x20_54 {E : ME} {ls : MLs} {st : List MV} {g : MG} {μ : MU} {Q : Option MV → MG → MU → Prop} {v : Nat ⊕ Nat} : Wp E 20 54 (some (.inr (.inr v)) :: ls) st g μ Q = Wp E 20 55 (some (.inr (.inr v)) :: ls) (.inr (.inr v) :: st) g μ Q := Wp_nx k20_54 rfl
theorem k20_55 : mCode 20 55 = some (.getfield 23, 3) := by decide +kernel
theorem x20_55 {E : ME} {ls : MLs} {st : List MV} {g : MG} {μ : MU} {Q : Option MV → MG → MU → Prop} {a : Nat} : Wp E 20 55 ls (.inr (.inr (.inl a)) :: st) g μ Q = ((mKd g a).1 = 2 ∧ Wp E 20 58 ls (.inl (μ a 3) :: st) g μ Q) := Wp_getI k20_55 f2_23 (by decide) (by decide)
theorem k20_58 : mCode 20 58 = some (.ireturn, 1) := by decide +kernel
theorem x20_58 {E : ME} {ls : MLs} {g : MG} {μ : MU} {Q : Option MV → MG → MU → Prop} {v : Int} : Wp E 20 58 ls [.inl v] g μ Q = Q (some (.inl v)) g μ := Wp_retI k20_58 (by decide)
theorem k21_0 : mCode 21 0 = some (.aload_n 0, 1) := by decide +kernel
theorem x21_0 {E : ME} {ls : MLs} {st : List MV} {g : MG} {μ : MU} {Q : Option MV → MG → MU → Prop} {v : Nat ⊕ Nat} : Wp E 21 0 (some (.inr (.inr v)) :: ls) st g μ Q = Wp E 21 1 (some (.inr (.inr v)) :: ls) (.inr (.inr v) :: st) g μ Q := Wp_nx k21_0 rfl
theorem k21_1 : mCode 21 1 = some (.getfield 23, 3) := by decide +kernel
theorem x21_1 {E : ME} {ls : MLs} {st : List MV} {g : MG} {μ : MU} {Q : Option MV → MG → MU → Prop} {a : Nat} : Wp E 21 1 ls (.inr (.inr (.inl a)) :: st) g μ Q = ((mKd g a).1 = 2 ∧ Wp E 21 4 ls (.inl (μ a 3) :: st) g μ Q) := Wp_getI k21_1 f2_23 (by decide) (by decide)
theorem k21_4 : mCode 21 4 = some (.aload_n 0, 1) := by decide +kernel
theorem x21_4 {E : ME} {ls : MLs} {st : List MV} {g : MG} {μ : MU} {Q : Option MV → MG → MU → Prop} {v : Nat ⊕ Nat} : Wp E 21 4 (some (.inr (.inr v)) :: ls) st g μ Q = Wp E 21 5 (some (.inr (.inr v)) :: ls) (.inr (.inr v) :: st) g μ Q := Wp_nx k21_4 rfl
theorem k21_5 : mCode 21 5 = some (.getfield 19, 3) := by decide +kernel
theorem x21_5 {E : ME} {ls : MLs} {st : List MV} {g : MG} {μ : MU} {Q : Option MV → MG → MU → Prop} {a : Nat} : Wp E 21 5 ls (.inr (.inr (.inl a)) :: st) g μ Q = ((mKd g a).1 = 2 ∧ Wp E 21 8 ls (.inl (μ a 2) :: st) g μ Q) := Wp_getI k21_5 f2_19 (by decide) (by decide)
theorem k21_8 : mCode 21 8 = some (.if_icmp .lt 5, 3) := by decide +kernel
theorem x21_8 {E : ME} {ls : MLs} {st : List MV} {g : MG} {μ : MU} {Q : Option MV → MG → MU → Prop} {a b : Int} : Wp E 21 8 ls (.inl b :: .inl a :: st) g μ Q = ((a < b → Wp E 21 13 ls st g μ Q) ∧ (b ≤ a → Wp E 21 11 ls st g μ Q)) := Wp_cmp_lt k21_8 (by decide)
theorem k21_11 : mCode 21 11 = some (.iconst 0, 1) := by decide +kernel
theorem x21_11 {E : ME} {ls : MLs} {st : List MV} {g : MG} {μ : MU} {Q : Option MV → MG → MU → Prop} : Wp E 21 11 ls st g μ Q = Wp E 21 12 ls (.inl 0 :: st) g μ Q := Wp_nx k21_11 rfl
theorem k21_12 : mCode 21 12 = some (.ireturn, 1) := by decide +kernel
theorem x21_12 {E : ME} {ls : MLs} {g : MG} {μ : MU} {Q : Option MV → MG → MU → Prop} {v : Int} : Wp E 21 12 ls [.inl v] g μ Q = ((v = 0 ∨ v = 1) ∧ Q (some (.inl v)) g μ) := Wp_retZ k21_12 (by decide)
theorem k21_13 : mCode 21 13 = some (.aload_n 0, 1) := by decide +kernel
theorem x21_13 {E : ME} {ls : MLs} {st : List MV} {g : MG} {μ : MU} {Q : Option MV → MG → MU → Prop} {v : Nat ⊕ Nat} : Wp E 21 13 (some (.inr (.inr v)) :: ls) st g μ Q = Wp E 21 14 (some (.inr (.inr v)) :: ls) (.inr (.inr v) :: st) g μ Q := Wp_nx k21_13 rfl
theorem k21_14 : mCode 21 14 = some (.aload_n 0, 1) := by decide +kernel
theorem x21_14 {E : ME} {ls : MLs} {st : List MV} {g : MG} {μ : MU} {Q : Option MV → MG → MU → Prop} {v : Nat ⊕ Nat} : Wp E 21 14 (some (.inr (.inr v)) :: ls) st g μ Q = Wp E 21 15 (some (.inr (.inr v)) :: ls) (.inr (.inr v) :: st) g μ Q := Wp_nx k21_14 rfl
theorem k21_15 : mCode 21 15 = some (.getfield 9, 3) := by decide +kernel
theorem x21_15 {E : ME} {ls : MLs} {st : List MV} {g : MG} {μ : MU} {Q : Option MV → MG → MU → Prop} {a : Nat} : Wp E 21 15 ls (.inr (.inr (.inl a)) :: st) g μ Q = ((mKd g a).1 = 2 ∧ Wp E 21 18 ls (mRv (mRf g a 0) :: st) g μ Q) := Wp_getR k21_15 f2_9 (by decide) (by decide)
theorem k21_18 : mCode 21 18 = some (.aload_n 0, 1) := by decide +kernel
theorem x21_18 {E : ME} {ls : MLs} {st : List MV} {g : MG} {μ : MU} {Q : Option MV → MG → MU → Prop} {v : Nat ⊕ Nat} : Wp E 21 18 (some (.inr (.inr v)) :: ls) st g μ Q = Wp E 21 19 (some (.inr (.inr v)) :: ls) (.inr (.inr v) :: st) g μ Q := Wp_nx k21_18 rfl
theorem k21_19 : mCode 21 19 = some (.getfield 23, 3) := by decide +kernel
theorem x21_19 {E : ME} {ls : MLs} {st : List MV} {g : MG} {μ : MU} {Q : Option MV → MG → MU → Prop} {a : Nat} : Wp E 21 19 ls (.inr (.inr (.inl a)) :: st) g μ Q = ((mKd g a).1 = 2 ∧ Wp E 21 22 ls (.inl (μ a 3) :: st) g μ Q) := Wp_getI k21_19 f2_23 (by decide) (by decide)
theorem k21_22 : mCode 21 22 = some (.caload, 1) := by decide +kernel
theorem x21_22 {E : ME} {ls : MLs} {st : List MV} {g : MG} {μ : MU} {Q : Option MV → MG → MU → Prop} {a : Nat} {j : Int} : Wp E 21 22 ls (.inl j :: .inr (.inr (.inl a)) :: st) g μ Q = (((mKd g a).1 = 11 ∧ 0 ≤ j ∧ j < (mKd g a).2) ∧ Wp E 21 23 ls (.inl (μ a j.toNat) :: st) g μ Q) := Wp_ald k21_22 (fun _ => rfl)
theorem k21_23 : mCode 21 23 = some (.putfield 26, 3) := by decide +kernel
theorem x21_23 {E : ME} {ls : MLs} {st : List MV} {g : MG} {μ : MU} {Q : Option MV → MG → MU → Prop} {a : Nat} {v : Int} : Wp E 21 23 ls (.inl v :: .inr (.inr (.inl a)) :: st) g μ Q = (((mKd g a).1 = 2 ∧ mOk 1 v = true) ∧ Wp E 21 26 ls st g (mUp μ a 4 v) Q) := Wp_putI k21_23 f2_26 (by decide) (by decide)
theorem k21_26 : mCode 21 26 = some (.aload_n 0, 1) := by decide +kernel
theorem x21_26 {E : ME} {ls : MLs} {st : List MV} {g : MG} {μ : MU} {Q : Option MV → MG → MU → Prop} {v : Nat ⊕ Nat} : Wp E 21 26 (some (.inr (.inr v)) :: ls) st g μ Q = Wp E 21 27 (some (.inr (.inr v)) :: ls) (.inr (.inr v) :: st) g μ Q := Wp_nx k21_26 rfl
theorem k21_27 : mCode 21 27 = some (.getfield 26, 3) := by decide +kernel
theorem x21_27 {E : ME} {ls : MLs} {st : List MV} {g : MG} {μ : MU} {Q : Option MV → MG → MU → Prop} {a : Nat} : Wp E 21 27 ls (.inr (.inr (.inl a)) :: st) g μ Q = ((mKd g a).1 = 2 ∧ Wp E 21 30 ls (.inl (μ a 4) :: st) g μ Q) := Wp_getI k21_27 f2_26 (by decide) (by decide)
theorem k21_30 : mCode 21 30 = some (.invokestatic 47, 3) := by decide +kernel
theorem x21_30 {E : ME} {ls : MLs} {st : List MV} {g : MG} {μ : MU} {Q : Option MV → MG → MU → Prop} {a0 : Int} : Wp E 21 30 ls (.inl a0 :: st) g μ Q = (st.length ≤ 4 ∧ Wp E 22 0 [some (.inl a0)] [] g μ (fun r g' μ' => (g'.1 = g.1 ∧ g'.2.1 = g.2.1) ∧ Wp E 21 33 ls (mPush r st) g' μ' Q)) := Wp_cS k21_30 m2_47 (by decide) (as := [.inl a0]) rfl rfl rfl ⟨Nat.le_of_ble_eq_true rfl, by decide⟩
theorem k21_33 : mCode 21 33 = some (.astore_n 1, 1) := by decide +kernel
theorem x21_33 {E : ME} {ls : MLs} {st : List MV} {g : MG} {μ : MU} {Q : Option MV → MG → MU → Prop} {l0 : Option MV} {lk : Option MV} {v : Nat ⊕ Nat} : Wp E 21 33 (l0 :: lk :: ls) (.inr (.inr v) :: st) g μ Q = ((mNl (some l0) = true ∧ mNl (some lk) = true) ∧ Wp E 21 34 (l0 :: some (.inr (.inr v)) :: ls) st g μ Q) := Wp_sta k21_33 (fun _ => rfl) rfl rfl rfl
theorem k21_34 : mCode 21 34 = some (.aload_n 1, 1) := by decide +kernel
theorem x21_34 {E : ME} {ls : MLs} {st : List MV} {g : MG} {μ : MU} {Q : Option MV → MG → MU → Prop} {l0 : Option MV} {v : Nat ⊕ Nat} : Wp E 21 34 (l0 :: some (.inr (.inr v)) :: ls) st g μ Q = Wp E 21 35 (l0 :: some (.inr (.inr v)) :: ls) (.inr (.inr v) :: st) g μ Q := Wp_nx k21_34 rfl
theorem k21_35 : mCode 21 35 = some (.invokevirtual 51, 3) := by decide +kernel
theorem x21_35 {E : ME} {ls : MLs} {st : List MV} {g : MG} {μ : MU} {Q : Option MV → MG → MU → Prop} {r : Nat} : Wp E 21 35 ls (.inr (.inr (.inr r)) :: st) g μ Q = ((st.length ≤ 4 ∧ (7 == 7 && mk_isS r) = true) ∧ Wp E 145 0 [some (.inr (.inr (.inr r)))] [] g μ (fun r g' μ' => (g'.1 = g.1 ∧ g'.2.1 = g.2.1) ∧ Wp E 21 38 ls (mPush r st) g' μ' Q)) := Wp_cV k21_35 m2_51 (by decide) (as := [.inr (.inr (.inr r))]) rfl rfl rfl ⟨Nat.le_of_ble_eq_true rfl, by decide⟩
theorem k21_38 : mCode 21 38 = some (.ifCond .eq 5, 3) := by decide +kernel
theorem x21_38 {E : ME} {ls : MLs} {st : List MV} {g : MG} {μ : MU} {Q : Option MV → MG → MU → Prop} {a : Int} : Wp E 21 38 ls (.inl a :: st) g μ Q = ((a = 0 → Wp E 21 43 ls st g μ Q) ∧ (¬ a = 0 → Wp E 21 41 ls st g μ Q)) := Wp_if_eq k21_38 (by decide)
theorem k21_41 : mCode 21 41 = some (.iconst 0, 1) := by decide +kernel
theorem x21_41 {E : ME} {ls : MLs} {st : List MV} {g : MG} {μ : MU} {Q : Option MV → MG → MU → Prop} : Wp E 21 41 ls st g μ Q = Wp E 21 42 ls (.inl 0 :: st) g μ Q := Wp_nx k21_41 rfl
theorem k21_42 : mCode 21 42 = some (.ireturn, 1) := by decide +kernel
theorem x21_42 {E : ME} {ls : MLs} {g : MG} {μ : MU} {Q : Option MV → MG → MU → Prop} {v : Int} : Wp E 21 42 ls [.inl v] g μ Q = ((v = 0 ∨ v = 1) ∧ Q (some (.inl v)) g μ) := Wp_retZ k21_42 (by decide)
theorem k21_43 : mCode 21 43 = some (.aload_n 0, 1) := by decide +kernel
theorem x21_43 {E : ME} {ls : MLs} {st : List MV} {g : MG} {μ : MU} {Q : Option MV → MG → MU → Prop} {v : Nat ⊕ Nat} : Wp E 21 43 (some (.inr (.inr v)) :: ls) st g μ Q = Wp E 21 44 (some (.inr (.inr v)) :: ls) (.inr (.inr v) :: st) g μ Q := Wp_nx k21_43 rfl
theorem k21_44 : mCode 21 44 = some (.dup, 1) := by decide +kernel
theorem x21_44 {E : ME} {ls : MLs} {st : List MV} {g : MG} {μ : MU} {Q : Option MV → MG → MU → Prop} {v : MV} : Wp E 21 44 ls (v :: st) g μ Q = (mC1 v = true ∧ Wp E 21 45 ls (v :: v :: st) g μ Q) := Wp_dup k21_44
theorem k21_45 : mCode 21 45 = some (.getfield 23, 3) := by decide +kernel
theorem x21_45 {E : ME} {ls : MLs} {st : List MV} {g : MG} {μ : MU} {Q : Option MV → MG → MU → Prop} {a : Nat} : Wp E 21 45 ls (.inr (.inr (.inl a)) :: st) g μ Q = ((mKd g a).1 = 2 ∧ Wp E 21 48 ls (.inl (μ a 3) :: st) g μ Q) := Wp_getI k21_45 f2_23 (by decide) (by decide)
theorem k21_48 : mCode 21 48 = some (.iconst 1, 1) := by decide +kernel
theorem x21_48 {E : ME} {ls : MLs} {st : List MV} {g : MG} {μ : MU} {Q : Option MV → MG → MU → Prop} : Wp E 21 48 ls st g μ Q = Wp E 21 49 ls (.inl 1 :: st) g μ Q := Wp_nx k21_48 rfl
theorem k21_49 : mCode 21 49 = some (.iadd, 1) := by decide +kernel
theorem x21_49 {E : ME} {ls : MLs} {st : List MV} {g : MG} {μ : MU} {Q : Option MV → MG → MU → Prop} {a b : Int} : Wp E 21 49 ls (.inl b :: .inl a :: st) g μ Q = Wp E 21 50 ls (.inl (mWr (a + b)) :: st) g μ Q := Wp_nx k21_49 rfl
theorem k21_50 : mCode 21 50 = some (.putfield 23, 3) := by decide +kernel
theorem x21_50 {E : ME} {ls : MLs} {st : List MV} {g : MG} {μ : MU} {Q : Option MV → MG → MU → Prop} {a : Nat} {v : Int} : Wp E 21 50 ls (.inl v :: .inr (.inr (.inl a)) :: st) g μ Q = ((mKd g a).1 = 2 ∧ Wp E 21 53 ls st g (mUp μ a 3 v) Q) := Wp_putI0 k21_50 f2_23 (by decide) (by decide)
theorem k21_53 : mCode 21 53 = some (.aload_n 0, 1) := by decide +kernel
theorem x21_53 {E : ME} {ls : MLs} {st : List MV} {g : MG} {μ : MU} {Q : Option MV → MG → MU → Prop} {v : Nat ⊕ Nat} : Wp E 21 53 (some (.inr (.inr v)) :: ls) st g μ Q = Wp E 21 54 (some (.inr (.inr v)) :: ls) (.inr (.inr v) :: st) g μ Q := Wp_nx k21_53 rfl
theorem k21_54 : mCode 21 54 = some (.iconst 0, 1) := by decide +kernel
theorem x21_54 {E : ME} {ls : MLs} {st : List MV} {g : MG} {μ : MU} {Q : Option MV → MG → MU → Prop} : Wp E 21 54 ls st g μ Q = Wp E 21 55 ls (.inl 0 :: st) g μ Q := Wp_nx k21_54 rfl
theorem k21_55 : mCode 21 55 = some (.putfield 30, 3) := by decide +kernel
theorem x21_55 {E : ME} {ls : MLs} {st : List MV} {g : MG} {μ : MU} {Q : Option MV → MG → MU → Prop} {a : Nat} {v : Int} : Wp E 21 55 ls (.inl v :: .inr (.inr (.inl a)) :: st) g μ Q = ((mKd g a).1 = 2 ∧ Wp E 21 58 ls st g (mUp μ a 5 v) Q) := Wp_putI0 k21_55 f2_30 (by decide) (by decide)
theorem k21_58 : mCode 21 58 = some (.iconst 0, 1) := by decide +kernel
theorem x21_58 {E : ME} {ls : MLs} {st : List MV} {g : MG} {μ : MU} {Q : Option MV → MG → MU → Prop} : Wp E 21 58 ls st g μ Q = Wp E 21 59 ls (.inl 0 :: st) g μ Q := Wp_nx k21_58 rfl
theorem k21_59 : mCode 21 59 = some (.istore_n 2, 1) := by decide +kernel
theorem x21_59 {E : ME} {ls : MLs} {st : List MV} {g : MG} {μ : MU} {Q : Option MV → MG → MU → Prop} {l0 l1 : Option MV} {lk : Option MV} {v : Int} : Wp E 21 59 (l0 :: l1 :: lk :: ls) (.inl v :: st) g μ Q = ((mNl (some l1) = true ∧ mNl (some lk) = true) ∧ Wp E 21 60 (l0 :: l1 :: some (.inl v) :: ls) st g μ Q) := Wp_sti k21_59 (fun _ => rfl) rfl rfl rfl
theorem k21_60 : mCode 21 60 = some (.iload_n 2, 1) := by decide +kernel
theorem x21_60 {E : ME} {ls : MLs} {st : List MV} {g : MG} {μ : MU} {Q : Option MV → MG → MU → Prop} {l0 l1 : Option MV} {v : Int} : Wp E 21 60 (l0 :: l1 :: some (.inl v) :: ls) st g μ Q = Wp E 21 61 (l0 :: l1 :: some (.inl v) :: ls) (.inl v :: st) g μ Q := Wp_nx k21_60 rfl
theorem k21_61 : mCode 21 61 = some (.aload_n 1, 1) := by decide +kernel
theorem x21_61 {E : ME} {ls : MLs} {st : List MV} {g : MG} {μ : MU} {Q : Option MV → MG → MU → Prop} {l0 : Option MV} {v : Nat ⊕ Nat} : Wp E 21 61 (l0 :: some (.inr (.inr v)) :: ls) st g μ Q = Wp E 21 62 (l0 :: some (.inr (.inr v)) :: ls) (.inr (.inr v) :: st) g μ Q := Wp_nx k21_61 rfl
theorem k21_62 : mCode 21 62 = some (.invokevirtual 56, 3) := by decide +kernel
theorem x21_62 {E : ME} {ls : MLs} {st : List MV} {g : MG} {μ : MU} {Q : Option MV → MG → MU → Prop} {r : Nat} : Wp E 21 62 ls (.inr (.inr (.inr r)) :: st) g μ Q = ((st.length ≤ 4 ∧ (7 == 7 && mk_isS r) = true) ∧ Wp E 144 0 [some (.inr (.inr (.inr r)))] [] g μ (fun r g' μ' => (g'.1 = g.1 ∧ g'.2.1 = g.2.1) ∧ Wp E 21 65 ls (mPush r st) g' μ' Q)) := Wp_cV k21_62 m2_56 (by decide) (as := [.inr (.inr (.inr r))]) rfl rfl rfl ⟨Nat.le_of_ble_eq_true rfl, by decide⟩
theorem k21_65 : mCode 21 65 = some (.if_icmp .ge 23, 3) := by decide +kernel
theorem x21_65 {E : ME} {ls : MLs} {st : List MV} {g : MG} {μ : MU} {Q : Option MV → MG → MU → Prop} {a b : Int} : Wp E 21 65 ls (.inl b :: .inl a :: st) g μ Q = ((b ≤ a → Wp E 21 88 ls st g μ Q) ∧ (a < b → Wp E 21 68 ls st g μ Q)) := Wp_cmp_ge k21_65 (by decide)
theorem k21_68 : mCode 21 68 = some (.aload_n 0, 1) := by decide +kernel
theorem x21_68 {E : ME} {ls : MLs} {st : List MV} {g : MG} {μ : MU} {Q : Option MV → MG → MU → Prop} {v : Nat ⊕ Nat} : Wp E 21 68 (some (.inr (.inr v)) :: ls) st g μ Q = Wp E 21 69 (some (.inr (.inr v)) :: ls) (.inr (.inr v) :: st) g μ Q := Wp_nx k21_68 rfl
theorem k21_69 : mCode 21 69 = some (.aload_n 1, 1) := by decide +kernel
theorem x21_69 {E : ME} {ls : MLs} {st : List MV} {g : MG} {μ : MU} {Q : Option MV → MG → MU → Prop} {l0 : Option MV} {v : Nat ⊕ Nat} : Wp E 21 69 (l0 :: some (.inr (.inr v)) :: ls) st g μ Q = Wp E 21 70 (l0 :: some (.inr (.inr v)) :: ls) (.inr (.inr v) :: st) g μ Q := Wp_nx k21_69 rfl
theorem k21_70 : mCode 21 70 = some (.iload_n 2, 1) := by decide +kernel
theorem x21_70 {E : ME} {ls : MLs} {st : List MV} {g : MG} {μ : MU} {Q : Option MV → MG → MU → Prop} {l0 l1 : Option MV} {v : Int} : Wp E 21 70 (l0 :: l1 :: some (.inl v) :: ls) st g μ Q = Wp E 21 71 (l0 :: l1 :: some (.inl v) :: ls) (.inl v :: st) g μ Q := Wp_nx k21_70 rfl
theorem k21_71 : mCode 21 71 = some (.invokevirtual 59, 3) := by decide +kernel
theorem x21_71 {E : ME} {ls : MLs} {st : List MV} {g : MG} {μ : MU} {Q : Option MV → MG → MU → Prop} {r : Nat} {a0 : Int} : Wp E 21 71 ls (.inl a0 :: .inr (.inr (.inr r)) :: st) g μ Q = ((st.length ≤ 4 ∧ (7 == 7 && mk_isS r) = true) ∧ Wp E 146 0 [some (.inr (.inr (.inr r))), some (.inl a0)] [] g μ (fun r g' μ' => (g'.1 = g.1 ∧ g'.2.1 = g.2.1) ∧ Wp E 21 74 ls (mPush r st) g' μ' Q)) := Wp_cV k21_71 m2_59 (by decide) (as := [.inr (.inr (.inr r)), .inl a0]) rfl rfl rfl ⟨Nat.le_of_ble_eq_true rfl, by decide⟩
theorem k21_74 : mCode 21 74 = some (.invokevirtual 63, 3) := by decide +kernel
theorem x21_74 {E : ME} {ls : MLs} {st : List MV} {g : MG} {μ : MU} {Q : Option MV → MG → MU → Prop} {r : Nat} {a0 : Int} : Wp E 21 74 ls (.inl a0 :: .inr (.inr (.inl r)) :: st) g μ Q = ((st.length ≤ 4 ∧ ((mKd g r).1 == 2) = true) ∧ Wp E 23 0 [some (.inr (.inr (.inl r))), some (.inl a0)] [] g μ (fun r g' μ' => (g'.1 = g.1 ∧ g'.2.1 = g.2.1) ∧ Wp E 21 77 ls (mPush r st) g' μ' Q)) := Wp_cV k21_74 m2_63 (by decide) (as := [.inr (.inr (.inl r)), .inl a0]) rfl rfl rfl ⟨Nat.le_of_ble_eq_true rfl, by decide⟩
theorem k21_77 : mCode 21 77 = some (.ifCond .ne 5, 3) := by decide +kernel
theorem x21_77 {E : ME} {ls : MLs} {st : List MV} {g : MG} {μ : MU} {Q : Option MV → MG → MU → Prop} {a : Int} : Wp E 21 77 ls (.inl a :: st) g μ Q = ((¬ a = 0 → Wp E 21 82 ls st g μ Q) ∧ (a = 0 → Wp E 21 80 ls st g μ Q)) := Wp_if_ne k21_77 (by decide)
theorem k21_80 : mCode 21 80 = some (.iconst 0, 1) := by decide +kernel
theorem x21_80 {E : ME} {ls : MLs} {st : List MV} {g : MG} {μ : MU} {Q : Option MV → MG → MU → Prop} : Wp E 21 80 ls st g μ Q = Wp E 21 81 ls (.inl 0 :: st) g μ Q := Wp_nx k21_80 rfl
theorem k21_81 : mCode 21 81 = some (.ireturn, 1) := by decide +kernel
theorem x21_81 {E : ME} {ls : MLs} {g : MG} {μ : MU} {Q : Option MV → MG → MU → Prop} {v : Int} : Wp E 21 81 ls [.inl v] g μ Q = ((v = 0 ∨ v = 1) ∧ Q (some (.inl v)) g μ) := Wp_retZ k21_81 (by decide)
theorem k21_82 : mCode 21 82 = some (.iinc 2 1, 3) := by decide +kernel
theorem x21_82 {E : ME} {ls : MLs} {st : List MV} {g : MG} {μ : MU} {Q : Option MV → MG → MU → Prop} {l0 l1 : Option MV} {v : Int} : Wp E 21 82 (l0 :: l1 :: some (.inl v) :: ls) st g μ Q = (mNl (some l1) = true ∧ Wp E 21 85 (l0 :: l1 :: some (.inl (mWr (v + 1))) :: ls) st g μ Q) := Wp_inc k21_82 rfl rfl rfl
theorem k21_85 : mCode 21 85 = some (.goto (-25), 3) := by decide +kernel
theorem x21_85 {E : ME} {ls : MLs} {st : List MV} {g : MG} {μ : MU} {Q : Option MV → MG → MU → Prop} : Wp E 21 85 ls st g μ Q = Wp E 21 60 ls st g μ Q := Wp_goto k21_85 (by decide)
theorem k21_88 : mCode 21 88 = some (.iconst 1, 1) := by decide +kernel
theorem x21_88 {E : ME} {ls : MLs} {st : List MV} {g : MG} {μ : MU} {Q : Option MV → MG → MU → Prop} : Wp E 21 88 ls st g μ Q = Wp E 21 89 ls (.inl 1 :: st) g μ Q := Wp_nx k21_88 rfl
theorem k21_89 : mCode 21 89 = some (.ireturn, 1) := by decide +kernel
theorem x21_89 {E : ME} {ls : MLs} {g : MG} {μ : MU} {Q : Option MV → MG → MU → Prop} {v : Int} : Wp E 21 89 ls [.inl v] g μ Q = ((v = 0 ∨ v = 1) ∧ Q (some (.inl v)) g μ) := Wp_retZ k21_89 (by decide)
theorem k22_0 : mCode 22 0 = some (.iload_n 0, 1) := by decide +kernel
theorem x22_0 {E : ME} {ls : MLs} {st : List MV} {g : MG} {μ : MU} {Q : Option MV → MG → MU → Prop} {v : Int} : Wp E 22 0 (some (.inl v) :: ls) st g μ Q = Wp E 22 1 (some (.inl v) :: ls) (.inl v :: st) g μ Q := Wp_nx k22_0 rfl
theorem k22_1 : mCode 22 1 = some (.lookupswitch 66 #[(45, 63), (102, 51), (115, 54), (116, 60), (119, 57)], 51) := by decide +kernel
theorem x22_1_45 {E : ME} {ls : MLs} {st : List MV} {g : MG} {μ : MU} {Q : Option MV → MG → MU → Prop} : Wp E 22 1 ls (.inl 45 :: st) g μ Q = Wp E 22 64 ls st g μ Q := Wp_nx k22_1 rfl
theorem x22_1_102 {E : ME} {ls : MLs} {st : List MV} {g : MG} {μ : MU} {Q : Option MV → MG → MU → Prop} : Wp E 22 1 ls (.inl 102 :: st) g μ Q = Wp E 22 52 ls st g μ Q := Wp_nx k22_1 rfl
theorem x22_1_115 {E : ME} {ls : MLs} {st : List MV} {g : MG} {μ : MU} {Q : Option MV → MG → MU → Prop} : Wp E 22 1 ls (.inl 115 :: st) g μ Q = Wp E 22 55 ls st g μ Q := Wp_nx k22_1 rfl
theorem x22_1_116 {E : ME} {ls : MLs} {st : List MV} {g : MG} {μ : MU} {Q : Option MV → MG → MU → Prop} : Wp E 22 1 ls (.inl 116 :: st) g μ Q = Wp E 22 61 ls st g μ Q := Wp_nx k22_1 rfl
theorem x22_1_119 {E : ME} {ls : MLs} {st : List MV} {g : MG} {μ : MU} {Q : Option MV → MG → MU → Prop} : Wp E 22 1 ls (.inl 119 :: st) g μ Q = Wp E 22 58 ls st g μ Q := Wp_nx k22_1 rfl
theorem x22_1_d {E : ME} {ls : MLs} {st : List MV} {g : MG} {μ : MU} {Q : Option MV → MG → MU → Prop} {a : Int} (h : ¬ a = 45 ∧ ¬ a = 102 ∧ ¬ a = 115 ∧ ¬ a = 116 ∧ ¬ a = 119) : Wp E 22 1 ls (.inl a :: st) g μ Q = Wp E 22 67 ls st g μ Q := Wp_lsw (off := 66) k22_1 (by decide) (by simp [Op.lookupswitch.offset]; omega) (by decide)
theorem k22_52 : mCode 22 52 = some (.ldc 66, 2) := by decide +kernel
theorem x22_52 {E : ME} {ls : MLs} {st : List MV} {g : MG} {μ : MU} {Q : Option MV → MG → MU → Prop} : Wp E 22 52 ls st g μ Q = Wp E 22 54 ls (mK 10 :: st) g μ Q := Wp_ldc k22_52 (by decide +kernel)
theorem k22_54 : mCode 22 54 = some (.areturn, 1) := by decide +kernel
theorem x22_54 {E : ME} {ls : MLs} {g : MG} {μ : MU} {Q : Option MV → MG → MU → Prop} {v : Nat ⊕ Nat} : Wp E 22 54 ls [.inr (.inr v)] g μ Q = Q (some (.inr (.inr v))) g μ := Wp_retA k22_54 (by decide)
theorem k22_55 : mCode 22 55 = some (.ldc 68, 2) := by decide +kernel
theorem x22_55 {E : ME} {ls : MLs} {st : List MV} {g : MG} {μ : MU} {Q : Option MV → MG → MU → Prop} : Wp E 22 55 ls st g μ Q = Wp E 22 57 ls (mK 11 :: st) g μ Q := Wp_ldc k22_55 (by decide +kernel)
theorem k22_57 : mCode 22 57 = some (.areturn, 1) := by decide +kernel
theorem x22_57 {E : ME} {ls : MLs} {g : MG} {μ : MU} {Q : Option MV → MG → MU → Prop} {v : Nat ⊕ Nat} : Wp E 22 57 ls [.inr (.inr v)] g μ Q = Q (some (.inr (.inr v))) g μ := Wp_retA k22_57 (by decide)
theorem k22_58 : mCode 22 58 = some (.ldc 70, 2) := by decide +kernel
theorem x22_58 {E : ME} {ls : MLs} {st : List MV} {g : MG} {μ : MU} {Q : Option MV → MG → MU → Prop} : Wp E 22 58 ls st g μ Q = Wp E 22 60 ls (mK 12 :: st) g μ Q := Wp_ldc k22_58 (by decide +kernel)
theorem k22_60 : mCode 22 60 = some (.areturn, 1) := by decide +kernel
theorem x22_60 {E : ME} {ls : MLs} {g : MG} {μ : MU} {Q : Option MV → MG → MU → Prop} {v : Nat ⊕ Nat} : Wp E 22 60 ls [.inr (.inr v)] g μ Q = Q (some (.inr (.inr v))) g μ := Wp_retA k22_60 (by decide)
theorem k22_61 : mCode 22 61 = some (.ldc 72, 2) := by decide +kernel
theorem x22_61 {E : ME} {ls : MLs} {st : List MV} {g : MG} {μ : MU} {Q : Option MV → MG → MU → Prop} : Wp E 22 61 ls st g μ Q = Wp E 22 63 ls (mK 13 :: st) g μ Q := Wp_ldc k22_61 (by decide +kernel)
theorem k22_63 : mCode 22 63 = some (.areturn, 1) := by decide +kernel
theorem x22_63 {E : ME} {ls : MLs} {g : MG} {μ : MU} {Q : Option MV → MG → MU → Prop} {v : Nat ⊕ Nat} : Wp E 22 63 ls [.inr (.inr v)] g μ Q = Q (some (.inr (.inr v))) g μ := Wp_retA k22_63 (by decide)
theorem k22_64 : mCode 22 64 = some (.ldc 74, 2) := by decide +kernel
theorem x22_64 {E : ME} {ls : MLs} {st : List MV} {g : MG} {μ : MU} {Q : Option MV → MG → MU → Prop} : Wp E 22 64 ls st g μ Q = Wp E 22 66 ls (mK 14 :: st) g μ Q := Wp_ldc k22_64 (by decide +kernel)
theorem k22_66 : mCode 22 66 = some (.areturn, 1) := by decide +kernel
theorem x22_66 {E : ME} {ls : MLs} {g : MG} {μ : MU} {Q : Option MV → MG → MU → Prop} {v : Nat ⊕ Nat} : Wp E 22 66 ls [.inr (.inr v)] g μ Q = Q (some (.inr (.inr v))) g μ := Wp_retA k22_66 (by decide)
theorem k22_67 : mCode 22 67 = some (.ldc 76, 2) := by decide +kernel
theorem x22_67 {E : ME} {ls : MLs} {st : List MV} {g : MG} {μ : MU} {Q : Option MV → MG → MU → Prop} : Wp E 22 67 ls st g μ Q = Wp E 22 69 ls (mK 15 :: st) g μ Q := Wp_ldc k22_67 (by decide +kernel)
theorem k22_69 : mCode 22 69 = some (.areturn, 1) := by decide +kernel
theorem x22_69 {E : ME} {ls : MLs} {g : MG} {μ : MU} {Q : Option MV → MG → MU → Prop} {v : Nat ⊕ Nat} : Wp E 22 69 ls [.inr (.inr v)] g μ Q = Q (some (.inr (.inr v))) g μ := Wp_retA k22_69 (by decide)
theorem k23_0 : mCode 23 0 = some (.iload_n 1, 1) := by decide +kernel
theorem x23_0 {E : ME} {ls : MLs} {st : List MV} {g : MG} {μ : MU} {Q : Option MV → MG → MU → Prop} {l0 : Option MV} {v : Int} : Wp E 23 0 (l0 :: some (.inl v) :: ls) st g μ Q = Wp E 23 1 (l0 :: some (.inl v) :: ls) (.inl v :: st) g μ Q := Wp_nx k23_0 rfl
theorem k23_1 : mCode 23 1 = some (.lookupswitch 39 #[(100, 27), (110, 33)], 27) := by decide +kernel
theorem x23_1_100 {E : ME} {ls : MLs} {st : List MV} {g : MG} {μ : MU} {Q : Option MV → MG → MU → Prop} : Wp E 23 1 ls (.inl 100 :: st) g μ Q = Wp E 23 28 ls st g μ Q := Wp_nx k23_1 rfl
theorem x23_1_110 {E : ME} {ls : MLs} {st : List MV} {g : MG} {μ : MU} {Q : Option MV → MG → MU → Prop} : Wp E 23 1 ls (.inl 110 :: st) g μ Q = Wp E 23 34 ls st g μ Q := Wp_nx k23_1 rfl
theorem x23_1_d {E : ME} {ls : MLs} {st : List MV} {g : MG} {μ : MU} {Q : Option MV → MG → MU → Prop} {a : Int} (h : ¬ a = 100 ∧ ¬ a = 110) : Wp E 23 1 ls (.inl a :: st) g μ Q = Wp E 23 40 ls st g μ Q := Wp_lsw (off := 39) k23_1 (by decide) (by simp [Op.lookupswitch.offset]; omega) (by decide)
theorem k23_28 : mCode 23 28 = some (.aload_n 0, 1) := by decide +kernel
theorem x23_28 {E : ME} {ls : MLs} {st : List MV} {g : MG} {μ : MU} {Q : Option MV → MG → MU → Prop} {v : Nat ⊕ Nat} : Wp E 23 28 (some (.inr (.inr v)) :: ls) st g μ Q = Wp E 23 29 (some (.inr (.inr v)) :: ls) (.inr (.inr v) :: st) g μ Q := Wp_nx k23_28 rfl
theorem k23_29 : mCode 23 29 = some (.iconst 1, 1) := by decide +kernel
theorem x23_29 {E : ME} {ls : MLs} {st : List MV} {g : MG} {μ : MU} {Q : Option MV → MG → MU → Prop} : Wp E 23 29 ls st g μ Q = Wp E 23 30 ls (.inl 1 :: st) g μ Q := Wp_nx k23_29 rfl
theorem k23_30 : mCode 23 30 = some (.invokevirtual 78, 3) := by decide +kernel
theorem x23_30 {E : ME} {ls : MLs} {st : List MV} {g : MG} {μ : MU} {Q : Option MV → MG → MU → Prop} {r : Nat} {a0 : Int} : Wp E 23 30 ls (.inl a0 :: .inr (.inr (.inl r)) :: st) g μ Q = ((st.length ≤ 4 ∧ ((mKd g r).1 == 2) = true) ∧ Wp E 24 0 [some (.inr (.inr (.inl r))), some (.inl a0), none, none] [] g μ (fun r g' μ' => (g'.1 = g.1 ∧ g'.2.1 = g.2.1) ∧ Wp E 23 33 ls (mPush r st) g' μ' Q)) := Wp_cV k23_30 m2_78 (by decide) (as := [.inr (.inr (.inl r)), .inl a0]) rfl rfl rfl ⟨Nat.le_of_ble_eq_true rfl, by decide⟩
theorem k23_33 : mCode 23 33 = some (.ireturn, 1) := by decide +kernel
theorem x23_33 {E : ME} {ls : MLs} {g : MG} {μ : MU} {Q : Option MV → MG → MU → Prop} {v : Int} : Wp E 23 33 ls [.inl v] g μ Q = ((v = 0 ∨ v = 1) ∧ Q (some (.inl v)) g μ) := Wp_retZ k23_33 (by decide)
theorem k23_34 : mCode 23 34 = some (.aload_n 0, 1) := by decide +kernel
theorem x23_34 {E : ME} {ls : MLs} {st : List MV} {g : MG} {μ : MU} {Q : Option MV → MG → MU → Prop} {v : Nat ⊕ Nat} : Wp E 23 34 (some (.inr (.inr v)) :: ls) st g μ Q = Wp E 23 35 (some (.inr (.inr v)) :: ls) (.inr (.inr v) :: st) g μ Q := Wp_nx k23_34 rfl
theorem k23_35 : mCode 23 35 = some (.iconst 4, 1) := by decide +kernel
theorem x23_35 {E : ME} {ls : MLs} {st : List MV} {g : MG} {μ : MU} {Q : Option MV → MG → MU → Prop} : Wp E 23 35 ls st g μ Q = Wp E 23 36 ls (.inl 4 :: st) g μ Q := Wp_nx k23_35 rfl
theorem k23_36 : mCode 23 36 = some (.invokevirtual 78, 3) := by decide +kernel
theorem x23_36 {E : ME} {ls : MLs} {st : List MV} {g : MG} {μ : MU} {Q : Option MV → MG → MU → Prop} {r : Nat} {a0 : Int} : Wp E 23 36 ls (.inl a0 :: .inr (.inr (.inl r)) :: st) g μ Q = ((st.length ≤ 4 ∧ ((mKd g r).1 == 2) = true) ∧ Wp E 24 0 [some (.inr (.inr (.inl r))), some (.inl a0), none, none] [] g μ (fun r g' μ' => (g'.1 = g.1 ∧ g'.2.1 = g.2.1) ∧ Wp E 23 39 ls (mPush r st) g' μ' Q)) := Wp_cV k23_36 m2_78 (by decide) (as := [.inr (.inr (.inl r)), .inl a0]) rfl rfl rfl ⟨Nat.le_of_ble_eq_true rfl, by decide⟩
theorem k23_39 : mCode 23 39 = some (.ireturn, 1) := by decide +kernel
theorem x23_39 {E : ME} {ls : MLs} {g : MG} {μ : MU} {Q : Option MV → MG → MU → Prop} {v : Int} : Wp E 23 39 ls [.inl v] g μ Q = ((v = 0 ∨ v = 1) ∧ Q (some (.inl v)) g μ) := Wp_retZ k23_39 (by decide)
theorem k23_40 : mCode 23 40 = some (.aload_n 0, 1) := by decide +kernel
theorem x23_40 {E : ME} {ls : MLs} {st : List MV} {g : MG} {μ : MU} {Q : Option MV → MG → MU → Prop} {v : Nat ⊕ Nat} : Wp E 23 40 (some (.inr (.inr v)) :: ls) st g μ Q = Wp E 23 41 (some (.inr (.inr v)) :: ls) (.inr (.inr v) :: st) g μ Q := Wp_nx k23_40 rfl
theorem k23_41 : mCode 23 41 = some (.iload_n 1, 1) := by decide +kernel
theorem x23_41 {E : ME} {ls : MLs} {st : List MV} {g : MG} {μ : MU} {Q : Option MV → MG → MU → Prop} {l0 : Option MV} {v : Int} : Wp E 23 41 (l0 :: some (.inl v) :: ls) st g μ Q = Wp E 23 42 (l0 :: some (.inl v) :: ls) (.inl v :: st) g μ Q := Wp_nx k23_41 rfl
theorem k23_42 : mCode 23 42 = some (.invokevirtual 43, 3) := by decide +kernel
theorem x23_42 {E : ME} {ls : MLs} {st : List MV} {g : MG} {μ : MU} {Q : Option MV → MG → MU → Prop} {r : Nat} {a0 : Int} : Wp E 23 42 ls (.inl a0 :: .inr (.inr (.inl r)) :: st) g μ Q = ((st.length ≤ 4 ∧ ((mKd g r).1 == 2) = true) ∧ Wp E 25 0 [some (.inr (.inr (.inl r))), some (.inl a0)] [] g μ (fun r g' μ' => (g'.1 = g.1 ∧ g'.2.1 = g.2.1) ∧ Wp E 23 45 ls (mPush r st) g' μ' Q)) := Wp_cV k23_42 m2_43 (by decide) (as := [.inr (.inr (.inl r)), .inl a0]) rfl rfl rfl ⟨Nat.le_of_ble_eq_true rfl, by decide⟩
theorem k23_45 : mCode 23 45 = some (.ireturn, 1) := by decide +kernel
theorem x23_45 {E : ME} {ls : MLs} {g : MG} {μ : MU} {Q : Option MV → MG → MU → Prop} {v : Int} : Wp E 23 45 ls [.inl v] g μ Q = ((v = 0 ∨ v = 1) ∧ Q (some (.inl v)) g μ) := Wp_retZ k23_45 (by decide)
theorem k24_0 : mCode 24 0 = some (.aload_n 0, 1) := by decide +kernel
theorem x24_0 {E : ME} {ls : MLs} {st : List MV} {g : MG} {μ : MU} {Q : Option MV → MG → MU → Prop} {v : Nat ⊕ Nat} : Wp E 24 0 (some (.inr (.inr v)) :: ls) st g μ Q = Wp E 24 1 (some (.inr (.inr v)) :: ls) (.inr (.inr v) :: st) g μ Q := Wp_nx k24_0 rfl
theorem k24_1 : mCode 24 1 = some (.invokevirtual 82, 3) := by decide +kernel
theorem x24_1 {E : ME} {ls : MLs} {st : List MV} {g : MG} {μ : MU} {Q : Option MV → MG → MU → Prop} {r : Nat} : Wp E 24 1 ls (.inr (.inr (.inl r)) :: st) g μ Q = ((st.length ≤ 4 ∧ ((mKd g r).1 == 2) = true) ∧ Wp E 26 0 [some (.inr (.inr (.inl r)))] [] g μ (fun r g' μ' => (g'.1 = g.1 ∧ g'.2.1 = g.2.1) ∧ Wp E 24 4 ls (mPush r st) g' μ' Q)) := Wp_cV k24_1 m2_82 (by decide) (as := [.inr (.inr (.inl r))]) rfl rfl rfl ⟨Nat.le_of_ble_eq_true rfl, by decide⟩
theorem k24_4 : mCode 24 4 = some (.ifCond .eq 11, 3) := by decide +kernel
theorem x24_4 {E : ME} {ls : MLs} {st : List MV} {g : MG} {μ : MU} {Q : Option MV → MG → MU → Prop} {a : Int} : Wp E 24 4 ls (.inl a :: st) g μ Q = ((a = 0 → Wp E 24 15 ls st g μ Q) ∧ (¬ a = 0 → Wp E 24 7 ls st g μ Q)) := Wp_if_eq k24_4 (by decide)
theorem k24_7 : mCode 24 7 = some (.aload_n 0, 1) := by decide +kernel
theorem x24_7 {E : ME} {ls : MLs} {st : List MV} {g : MG} {μ : MU} {Q : Option MV → MG → MU → Prop} {v : Nat ⊕ Nat} : Wp E 24 7 (some (.inr (.inr v)) :: ls) st g μ Q = Wp E 24 8 (some (.inr (.inr v)) :: ls) (.inr (.inr v) :: st) g μ Q := Wp_nx k24_7 rfl
theorem k24_8 : mCode 24 8 = some (.getfield 30, 3) := by decide +kernel
theorem x24_8 {E : ME} {ls : MLs} {st : List MV} {g : MG} {μ : MU} {Q : Option MV → MG → MU → Prop} {a : Nat} : Wp E 24 8 ls (.inr (.inr (.inl a)) :: st) g μ Q = ((mKd g a).1 = 2 ∧ Wp E 24 11 ls (.inl (μ a 5) :: st) g μ Q) := Wp_getI k24_8 f2_30 (by decide) (by decide)
theorem k24_11 : mCode 24 11 = some (.iconst 4, 1) := by decide +kernel
theorem x24_11 {E : ME} {ls : MLs} {st : List MV} {g : MG} {μ : MU} {Q : Option MV → MG → MU → Prop} : Wp E 24 11 ls st g μ Q = Wp E 24 12 ls (.inl 4 :: st) g μ Q := Wp_nx k24_11 rfl
theorem k24_12 : mCode 24 12 = some (.if_icmp .lt 5, 3) := by decide +kernel
theorem x24_12 {E : ME} {ls : MLs} {st : List MV} {g : MG} {μ : MU} {Q : Option MV → MG → MU → Prop} {a b : Int} : Wp E 24 12 ls (.inl b :: .inl a :: st) g μ Q = ((a < b → Wp E 24 17 ls st g μ Q) ∧ (b ≤ a → Wp E 24 15 ls st g μ Q)) := Wp_cmp_lt k24_12 (by decide)
theorem k24_15 : mCode 24 15 = some (.iconst 0, 1) := by decide +kernel
theorem x24_15 {E : ME} {ls : MLs} {st : List MV} {g : MG} {μ : MU} {Q : Option MV → MG → MU → Prop} : Wp E 24 15 ls st g μ Q = Wp E 24 16 ls (.inl 0 :: st) g μ Q := Wp_nx k24_15 rfl
theorem k24_16 : mCode 24 16 = some (.ireturn, 1) := by decide +kernel
theorem x24_16 {E : ME} {ls : MLs} {g : MG} {μ : MU} {Q : Option MV → MG → MU → Prop} {v : Int} : Wp E 24 16 ls [.inl v] g μ Q = ((v = 0 ∨ v = 1) ∧ Q (some (.inl v)) g μ) := Wp_retZ k24_16 (by decide)
theorem k24_17 : mCode 24 17 = some (.aload_n 0, 1) := by decide +kernel
theorem x24_17 {E : ME} {ls : MLs} {st : List MV} {g : MG} {μ : MU} {Q : Option MV → MG → MU → Prop} {v : Nat ⊕ Nat} : Wp E 24 17 (some (.inr (.inr v)) :: ls) st g μ Q = Wp E 24 18 (some (.inr (.inr v)) :: ls) (.inr (.inr v) :: st) g μ Q := Wp_nx k24_17 rfl
theorem k24_18 : mCode 24 18 = some (.getfield 9, 3) := by decide +kernel
theorem x24_18 {E : ME} {ls : MLs} {st : List MV} {g : MG} {μ : MU} {Q : Option MV → MG → MU → Prop} {a : Nat} : Wp E 24 18 ls (.inr (.inr (.inl a)) :: st) g μ Q = ((mKd g a).1 = 2 ∧ Wp E 24 21 ls (mRv (mRf g a 0) :: st) g μ Q) := Wp_getR k24_18 f2_9 (by decide) (by decide)
theorem k24_21 : mCode 24 21 = some (.aload_n 0, 1) := by decide +kernel
theorem x24_21 {E : ME} {ls : MLs} {st : List MV} {g : MG} {μ : MU} {Q : Option MV → MG → MU → Prop} {v : Nat ⊕ Nat} : Wp E 24 21 (some (.inr (.inr v)) :: ls) st g μ Q = Wp E 24 22 (some (.inr (.inr v)) :: ls) (.inr (.inr v) :: st) g μ Q := Wp_nx k24_21 rfl
theorem k24_22 : mCode 24 22 = some (.getfield 23, 3) := by decide +kernel
theorem x24_22 {E : ME} {ls : MLs} {st : List MV} {g : MG} {μ : MU} {Q : Option MV → MG → MU → Prop} {a : Nat} : Wp E 24 22 ls (.inr (.inr (.inl a)) :: st) g μ Q = ((mKd g a).1 = 2 ∧ Wp E 24 25 ls (.inl (μ a 3) :: st) g μ Q) := Wp_getI k24_22 f2_23 (by decide) (by decide)
theorem k24_25 : mCode 24 25 = some (.caload, 1) := by decide +kernel
theorem x24_25 {E : ME} {ls : MLs} {st : List MV} {g : MG} {μ : MU} {Q : Option MV → MG → MU → Prop} {a : Nat} {j : Int} : Wp E 24 25 ls (.inl j :: .inr (.inr (.inl a)) :: st) g μ Q = (((mKd g a).1 = 11 ∧ 0 ≤ j ∧ j < (mKd g a).2) ∧ Wp E 24 26 ls (.inl (μ a j.toNat) :: st) g μ Q) := Wp_ald k24_25 (fun _ => rfl)
theorem k24_26 : mCode 24 26 = some (.bipush 48, 2) := by decide +kernel
theorem x24_26 {E : ME} {ls : MLs} {st : List MV} {g : MG} {μ : MU} {Q : Option MV → MG → MU → Prop} : Wp E 24 26 ls st g μ Q = Wp E 24 28 ls (.inl 48 :: st) g μ Q := Wp_nx k24_26 rfl
theorem k24_28 : mCode 24 28 = some (.isub, 1) := by decide +kernel
theorem x24_28 {E : ME} {ls : MLs} {st : List MV} {g : MG} {μ : MU} {Q : Option MV → MG → MU → Prop} {a b : Int} : Wp E 24 28 ls (.inl b :: .inl a :: st) g μ Q = Wp E 24 29 ls (.inl (mWr (a - b)) :: st) g μ Q := Wp_nx k24_28 rfl
theorem k24_29 : mCode 24 29 = some (.istore_n 2, 1) := by decide +kernel
theorem x24_29 {E : ME} {ls : MLs} {st : List MV} {g : MG} {μ : MU} {Q : Option MV → MG → MU → Prop} {l0 l1 : Option MV} {lk : Option MV} {v : Int} : Wp E 24 29 (l0 :: l1 :: lk :: ls) (.inl v :: st) g μ Q = ((mNl (some l1) = true ∧ mNl (some lk) = true) ∧ Wp E 24 30 (l0 :: l1 :: some (.inl v) :: ls) st g μ Q) := Wp_sti k24_29 (fun _ => rfl) rfl rfl rfl
theorem k24_30 : mCode 24 30 = some (.aload_n 0, 1) := by decide +kernel
theorem x24_30 {E : ME} {ls : MLs} {st : List MV} {g : MG} {μ : MU} {Q : Option MV → MG → MU → Prop} {v : Nat ⊕ Nat} : Wp E 24 30 (some (.inr (.inr v)) :: ls) st g μ Q = Wp E 24 31 (some (.inr (.inr v)) :: ls) (.inr (.inr v) :: st) g μ Q := Wp_nx k24_30 rfl
theorem k24_31 : mCode 24 31 = some (.dup, 1) := by decide +kernel
theorem x24_31 {E : ME} {ls : MLs} {st : List MV} {g : MG} {μ : MU} {Q : Option MV → MG → MU → Prop} {v : MV} : Wp E 24 31 ls (v :: st) g μ Q = (mC1 v = true ∧ Wp E 24 32 ls (v :: v :: st) g μ Q) := Wp_dup k24_31
theorem k24_32 : mCode 24 32 = some (.getfield 23, 3) := by decide +kernel
theorem x24_32 {E : ME} {ls : MLs} {st : List MV} {g : MG} {μ : MU} {Q : Option MV → MG → MU → Prop} {a : Nat} : Wp E 24 32 ls (.inr (.inr (.inl a)) :: st) g μ Q = ((mKd g a).1 = 2 ∧ Wp E 24 35 ls (.inl (μ a 3) :: st) g μ Q) := Wp_getI k24_32 f2_23 (by decide) (by decide)
theorem k24_35 : mCode 24 35 = some (.iconst 1, 1) := by decide +kernel
theorem x24_35 {E : ME} {ls : MLs} {st : List MV} {g : MG} {μ : MU} {Q : Option MV → MG → MU → Prop} : Wp E 24 35 ls st g μ Q = Wp E 24 36 ls (.inl 1 :: st) g μ Q := Wp_nx k24_35 rfl
theorem k24_36 : mCode 24 36 = some (.iadd, 1) := by decide +kernel
theorem x24_36 {E : ME} {ls : MLs} {st : List MV} {g : MG} {μ : MU} {Q : Option MV → MG → MU → Prop} {a b : Int} : Wp E 24 36 ls (.inl b :: .inl a :: st) g μ Q = Wp E 24 37 ls (.inl (mWr (a + b)) :: st) g μ Q := Wp_nx k24_36 rfl
theorem k24_37 : mCode 24 37 = some (.putfield 23, 3) := by decide +kernel
theorem x24_37 {E : ME} {ls : MLs} {st : List MV} {g : MG} {μ : MU} {Q : Option MV → MG → MU → Prop} {a : Nat} {v : Int} : Wp E 24 37 ls (.inl v :: .inr (.inr (.inl a)) :: st) g μ Q = ((mKd g a).1 = 2 ∧ Wp E 24 40 ls st g (mUp μ a 3 v) Q) := Wp_putI0 k24_37 f2_23 (by decide) (by decide)
theorem k24_40 : mCode 24 40 = some (.iconst 1, 1) := by decide +kernel
theorem x24_40 {E : ME} {ls : MLs} {st : List MV} {g : MG} {μ : MU} {Q : Option MV → MG → MU → Prop} : Wp E 24 40 ls st g μ Q = Wp E 24 41 ls (.inl 1 :: st) g μ Q := Wp_nx k24_40 rfl
theorem k24_41 : mCode 24 41 = some (.istore_n 3, 1) := by decide +kernel
theorem x24_41 {E : ME} {ls : MLs} {st : List MV} {g : MG} {μ : MU} {Q : Option MV → MG → MU → Prop} {l0 l1 l2 : Option MV} {lk : Option MV} {v : Int} : Wp E 24 41 (l0 :: l1 :: l2 :: lk :: ls) (.inl v :: st) g μ Q = ((mNl (some l2) = true ∧ mNl (some lk) = true) ∧ Wp E 24 42 (l0 :: l1 :: l2 :: some (.inl v) :: ls) st g μ Q) := Wp_sti k24_41 (fun _ => rfl) rfl rfl rfl
theorem k24_42 : mCode 24 42 = some (.iload_n 3, 1) := by decide +kernel
theorem x24_42 {E : ME} {ls : MLs} {st : List MV} {g : MG} {μ : MU} {Q : Option MV → MG → MU → Prop} {l0 l1 l2 : Option MV} {v : Int} : Wp E 24 42 (l0 :: l1 :: l2 :: some (.inl v) :: ls) st g μ Q = Wp E 24 43 (l0 :: l1 :: l2 :: some (.inl v) :: ls) (.inl v :: st) g μ Q := Wp_nx k24_42 rfl
theorem k24_43 : mCode 24 43 = some (.iload_n 1, 1) := by decide +kernel
theorem x24_43 {E : ME} {ls : MLs} {st : List MV} {g : MG} {μ : MU} {Q : Option MV → MG → MU → Prop} {l0 : Option MV} {v : Int} : Wp E 24 43 (l0 :: some (.inl v) :: ls) st g μ Q = Wp E 24 44 (l0 :: some (.inl v) :: ls) (.inl v :: st) g μ Q := Wp_nx k24_43 rfl
theorem k24_44 : mCode 24 44 = some (.if_icmp .ge 48, 3) := by decide +kernel
theorem x24_44 {E : ME} {ls : MLs} {st : List MV} {g : MG} {μ : MU} {Q : Option MV → MG → MU → Prop} {a b : Int} : Wp E 24 44 ls (.inl b :: .inl a :: st) g μ Q = ((b ≤ a → Wp E 24 92 ls st g μ Q) ∧ (a < b → Wp E 24 47 ls st g μ Q)) := Wp_cmp_ge k24_44 (by decide)
theorem k24_47 : mCode 24 47 = some (.iload_n 2, 1) := by decide +kernel
theorem x24_47 {E : ME} {ls : MLs} {st : List MV} {g : MG} {μ : MU} {Q : Option MV → MG → MU → Prop} {l0 l1 : Option MV} {v : Int} : Wp E 24 47 (l0 :: l1 :: some (.inl v) :: ls) st g μ Q = Wp E 24 48 (l0 :: l1 :: some (.inl v) :: ls) (.inl v :: st) g μ Q := Wp_nx k24_47 rfl
theorem k24_48 : mCode 24 48 = some (.ifCond .eq 44, 3) := by decide +kernel
theorem x24_48 {E : ME} {ls : MLs} {st : List MV} {g : MG} {μ : MU} {Q : Option MV → MG → MU → Prop} {a : Int} : Wp E 24 48 ls (.inl a :: st) g μ Q = ((a = 0 → Wp E 24 92 ls st g μ Q) ∧ (¬ a = 0 → Wp E 24 51 ls st g μ Q)) := Wp_if_eq k24_48 (by decide)
theorem k24_51 : mCode 24 51 = some (.aload_n 0, 1) := by decide +kernel
theorem x24_51 {E : ME} {ls : MLs} {st : List MV} {g : MG} {μ : MU} {Q : Option MV → MG → MU → Prop} {v : Nat ⊕ Nat} : Wp E 24 51 (some (.inr (.inr v)) :: ls) st g μ Q = Wp E 24 52 (some (.inr (.inr v)) :: ls) (.inr (.inr v) :: st) g μ Q := Wp_nx k24_51 rfl
theorem k24_52 : mCode 24 52 = some (.invokevirtual 82, 3) := by decide +kernel
theorem x24_52 {E : ME} {ls : MLs} {st : List MV} {g : MG} {μ : MU} {Q : Option MV → MG → MU → Prop} {r : Nat} : Wp E 24 52 ls (.inr (.inr (.inl r)) :: st) g μ Q = ((st.length ≤ 4 ∧ ((mKd g r).1 == 2) = true) ∧ Wp E 26 0 [some (.inr (.inr (.inl r)))] [] g μ (fun r g' μ' => (g'.1 = g.1 ∧ g'.2.1 = g.2.1) ∧ Wp E 24 55 ls (mPush r st) g' μ' Q)) := Wp_cV k24_52 m2_82 (by decide) (as := [.inr (.inr (.inl r))]) rfl rfl rfl ⟨Nat.le_of_ble_eq_true rfl, by decide⟩
theorem k24_55 : mCode 24 55 = some (.ifCond .eq 37, 3) := by decide +kernel
theorem x24_55 {E : ME} {ls : MLs} {st : List MV} {g : MG} {μ : MU} {Q : Option MV → MG → MU → Prop} {a : Int} : Wp E 24 55 ls (.inl a :: st) g μ Q = ((a = 0 → Wp E 24 92 ls st g μ Q) ∧ (¬ a = 0 → Wp E 24 58 ls st g μ Q)) := Wp_if_eq k24_55 (by decide)
theorem k24_58 : mCode 24 58 = some (.iload_n 2, 1) := by decide +kernel
theorem x24_58 {E : ME} {ls : MLs} {st : List MV} {g : MG} {μ : MU} {Q : Option MV → MG → MU → Prop} {l0 l1 : Option MV} {v : Int} : Wp E 24 58 (l0 :: l1 :: some (.inl v) :: ls) st g μ Q = Wp E 24 59 (l0 :: l1 :: some (.inl v) :: ls) (.inl v :: st) g μ Q := Wp_nx k24_58 rfl
theorem k24_59 : mCode 24 59 = some (.bipush 10, 2) := by decide +kernel
theorem x24_59 {E : ME} {ls : MLs} {st : List MV} {g : MG} {μ : MU} {Q : Option MV → MG → MU → Prop} : Wp E 24 59 ls st g μ Q = Wp E 24 61 ls (.inl 10 :: st) g μ Q := Wp_nx k24_59 rfl
theorem k24_61 : mCode 24 61 = some (.imul, 1) := by decide +kernel
theorem x24_61 {E : ME} {ls : MLs} {st : List MV} {g : MG} {μ : MU} {Q : Option MV → MG → MU → Prop} {a b : Int} : Wp E 24 61 ls (.inl b :: .inl a :: st) g μ Q = Wp E 24 62 ls (.inl (mWr (a * b)) :: st) g μ Q := Wp_nx k24_61 rfl
theorem k24_62 : mCode 24 62 = some (.aload_n 0, 1) := by decide +kernel
theorem x24_62 {E : ME} {ls : MLs} {st : List MV} {g : MG} {μ : MU} {Q : Option MV → MG → MU → Prop} {v : Nat ⊕ Nat} : Wp E 24 62 (some (.inr (.inr v)) :: ls) st g μ Q = Wp E 24 63 (some (.inr (.inr v)) :: ls) (.inr (.inr v) :: st) g μ Q := Wp_nx k24_62 rfl
theorem k24_63 : mCode 24 63 = some (.getfield 9, 3) := by decide +kernel
theorem x24_63 {E : ME} {ls : MLs} {st : List MV} {g : MG} {μ : MU} {Q : Option MV → MG → MU → Prop} {a : Nat} : Wp E 24 63 ls (.inr (.inr (.inl a)) :: st) g μ Q = ((mKd g a).1 = 2 ∧ Wp E 24 66 ls (mRv (mRf g a 0) :: st) g μ Q) := Wp_getR k24_63 f2_9 (by decide) (by decide)
theorem k24_66 : mCode 24 66 = some (.aload_n 0, 1) := by decide +kernel
theorem x24_66 {E : ME} {ls : MLs} {st : List MV} {g : MG} {μ : MU} {Q : Option MV → MG → MU → Prop} {v : Nat ⊕ Nat} : Wp E 24 66 (some (.inr (.inr v)) :: ls) st g μ Q = Wp E 24 67 (some (.inr (.inr v)) :: ls) (.inr (.inr v) :: st) g μ Q := Wp_nx k24_66 rfl
theorem k24_67 : mCode 24 67 = some (.getfield 23, 3) := by decide +kernel
theorem x24_67 {E : ME} {ls : MLs} {st : List MV} {g : MG} {μ : MU} {Q : Option MV → MG → MU → Prop} {a : Nat} : Wp E 24 67 ls (.inr (.inr (.inl a)) :: st) g μ Q = ((mKd g a).1 = 2 ∧ Wp E 24 70 ls (.inl (μ a 3) :: st) g μ Q) := Wp_getI k24_67 f2_23 (by decide) (by decide)
theorem k24_70 : mCode 24 70 = some (.caload, 1) := by decide +kernel
theorem x24_70 {E : ME} {ls : MLs} {st : List MV} {g : MG} {μ : MU} {Q : Option MV → MG → MU → Prop} {a : Nat} {j : Int} : Wp E 24 70 ls (.inl j :: .inr (.inr (.inl a)) :: st) g μ Q = (((mKd g a).1 = 11 ∧ 0 ≤ j ∧ j < (mKd g a).2) ∧ Wp E 24 71 ls (.inl (μ a j.toNat) :: st) g μ Q) := Wp_ald k24_70 (fun _ => rfl)
theorem k24_71 : mCode 24 71 = some (.iadd, 1) := by decide +kernel
theorem x24_71 {E : ME} {ls : MLs} {st : List MV} {g : MG} {μ : MU} {Q : Option MV → MG → MU → Prop} {a b : Int} : Wp E 24 71 ls (.inl b :: .inl a :: st) g μ Q = Wp E 24 72 ls (.inl (mWr (a + b)) :: st) g μ Q := Wp_nx k24_71 rfl
theorem k24_72 : mCode 24 72 = some (.bipush 48, 2) := by decide +kernel
theorem x24_72 {E : ME} {ls : MLs} {st : List MV} {g : MG} {μ : MU} {Q : Option MV → MG → MU → Prop} : Wp E 24 72 ls st g μ Q = Wp E 24 74 ls (.inl 48 :: st) g μ Q := Wp_nx k24_72 rfl
theorem k24_74 : mCode 24 74 = some (.isub, 1) := by decide +kernel
theorem x24_74 {E : ME} {ls : MLs} {st : List MV} {g : MG} {μ : MU} {Q : Option MV → MG → MU → Prop} {a b : Int} : Wp E 24 74 ls (.inl b :: .inl a :: st) g μ Q = Wp E 24 75 ls (.inl (mWr (a - b)) :: st) g μ Q := Wp_nx k24_74 rfl
theorem k24_75 : mCode 24 75 = some (.istore_n 2, 1) := by decide +kernel
theorem x24_75 {E : ME} {ls : MLs} {st : List MV} {g : MG} {μ : MU} {Q : Option MV → MG → MU → Prop} {l0 l1 : Option MV} {lk : Option MV} {v : Int} : Wp E 24 75 (l0 :: l1 :: lk :: ls) (.inl v :: st) g μ Q = ((mNl (some l1) = true ∧ mNl (some lk) = true) ∧ Wp E 24 76 (l0 :: l1 :: some (.inl v) :: ls) st g μ Q) := Wp_sti k24_75 (fun _ => rfl) rfl rfl rfl
theorem k24_76 : mCode 24 76 = some (.aload_n 0, 1) := by decide +kernel
theorem x24_76 {E : ME} {ls : MLs} {st : List MV} {g : MG} {μ : MU} {Q : Option MV → MG → MU → Prop} {v : Nat ⊕ Nat} : Wp E 24 76 (some (.inr (.inr v)) :: ls) st g μ Q = Wp E 24 77 (some (.inr (.inr v)) :: ls) (.inr (.inr v) :: st) g μ Q := Wp_nx k24_76 rfl
theorem k24_77 : mCode 24 77 = some (.dup, 1) := by decide +kernel
theorem x24_77 {E : ME} {ls : MLs} {st : List MV} {g : MG} {μ : MU} {Q : Option MV → MG → MU → Prop} {v : MV} : Wp E 24 77 ls (v :: st) g μ Q = (mC1 v = true ∧ Wp E 24 78 ls (v :: v :: st) g μ Q) := Wp_dup k24_77
theorem k24_78 : mCode 24 78 = some (.getfield 23, 3) := by decide +kernel
theorem x24_78 {E : ME} {ls : MLs} {st : List MV} {g : MG} {μ : MU} {Q : Option MV → MG → MU → Prop} {a : Nat} : Wp E 24 78 ls (.inr (.inr (.inl a)) :: st) g μ Q = ((mKd g a).1 = 2 ∧ Wp E 24 81 ls (.inl (μ a 3) :: st) g μ Q) := Wp_getI k24_78 f2_23 (by decide) (by decide)
theorem k24_81 : mCode 24 81 = some (.iconst 1, 1) := by decide +kernel
theorem x24_81 {E : ME} {ls : MLs} {st : List MV} {g : MG} {μ : MU} {Q : Option MV → MG → MU → Prop} : Wp E 24 81 ls st g μ Q = Wp E 24 82 ls (.inl 1 :: st) g μ Q := Wp_nx k24_81 rfl
theorem k24_82 : mCode 24 82 = some (.iadd, 1) := by decide +kernel
theorem x24_82 {E : ME} {ls : MLs} {st : List MV} {g : MG} {μ : MU} {Q : Option MV → MG → MU → Prop} {a b : Int} : Wp E 24 82 ls (.inl b :: .inl a :: st) g μ Q = Wp E 24 83 ls (.inl (mWr (a + b)) :: st) g μ Q := Wp_nx k24_82 rfl
theorem k24_83 : mCode 24 83 = some (.putfield 23, 3) := by decide +kernel
theorem x24_83 {E : ME} {ls : MLs} {st : List MV} {g : MG} {μ : MU} {Q : Option MV → MG → MU → Prop} {a : Nat} {v : Int} : Wp E 24 83 ls (.inl v :: .inr (.inr (.inl a)) :: st) g μ Q = ((mKd g a).1 = 2 ∧ Wp E 24 86 ls st g (mUp μ a 3 v) Q) := Wp_putI0 k24_83 f2_23 (by decide) (by decide)
theorem k24_86 : mCode 24 86 = some (.iinc 3 1, 3) := by decide +kernel
theorem x24_86 {E : ME} {ls : MLs} {st : List MV} {g : MG} {μ : MU} {Q : Option MV → MG → MU → Prop} {l0 l1 l2 : Option MV} {v : Int} : Wp E 24 86 (l0 :: l1 :: l2 :: some (.inl v) :: ls) st g μ Q = (mNl (some l2) = true ∧ Wp E 24 89 (l0 :: l1 :: l2 :: some (.inl (mWr (v + 1))) :: ls) st g μ Q) := Wp_inc k24_86 rfl rfl rfl
theorem k24_89 : mCode 24 89 = some (.goto (-47), 3) := by decide +kernel
theorem x24_89 {E : ME} {ls : MLs} {st : List MV} {g : MG} {μ : MU} {Q : Option MV → MG → MU → Prop} : Wp E 24 89 ls st g μ Q = Wp E 24 42 ls st g μ Q := Wp_goto k24_89 (by decide)
theorem k24_92 : mCode 24 92 = some (.aload_n 0, 1) := by decide +kernel
theorem x24_92 {E : ME} {ls : MLs} {st : List MV} {g : MG} {μ : MU} {Q : Option MV → MG → MU → Prop} {v : Nat ⊕ Nat} : Wp E 24 92 (some (.inr (.inr v)) :: ls) st g μ Q = Wp E 24 93 (some (.inr (.inr v)) :: ls) (.inr (.inr v) :: st) g μ Q := Wp_nx k24_92 rfl
theorem k24_93 : mCode 24 93 = some (.getfield 15, 3) := by decide +kernel
theorem x24_93 {E : ME} {ls : MLs} {st : List MV} {g : MG} {μ : MU} {Q : Option MV → MG → MU → Prop} {a : Nat} : Wp E 24 93 ls (.inr (.inr (.inl a)) :: st) g μ Q = ((mKd g a).1 = 2 ∧ Wp E 24 96 ls (mRv (mRf g a 1) :: st) g μ Q) := Wp_getR k24_93 f2_15 (by decide) (by decide)
theorem k24_96 : mCode 24 96 = some (.aload_n 0, 1) := by decide +kernel
theorem x24_96 {E : ME} {ls : MLs} {st : List MV} {g : MG} {μ : MU} {Q : Option MV → MG → MU → Prop} {v : Nat ⊕ Nat} : Wp E 24 96 (some (.inr (.inr v)) :: ls) st g μ Q = Wp E 24 97 (some (.inr (.inr v)) :: ls) (.inr (.inr v) :: st) g μ Q := Wp_nx k24_96 rfl
theorem k24_97 : mCode 24 97 = some (.getfield 30, 3) := by decide +kernel
theorem x24_97 {E : ME} {ls : MLs} {st : List MV} {g : MG} {μ : MU} {Q : Option MV → MG → MU → Prop} {a : Nat} : Wp E 24 97 ls (.inr (.inr (.inl a)) :: st) g μ Q = ((mKd g a).1 = 2 ∧ Wp E 24 100 ls (.inl (μ a 5) :: st) g μ Q) := Wp_getI k24_97 f2_30 (by decide) (by decide)
theorem k24_100 : mCode 24 100 = some (.iload_n 2, 1) := by decide +kernel
theorem x24_100 {E : ME} {ls : MLs} {st : List MV} {g : MG} {μ : MU} {Q : Option MV → MG → MU → Prop} {l0 l1 : Option MV} {v : Int} : Wp E 24 100 (l0 :: l1 :: some (.inl v) :: ls) st g μ Q = Wp E 24 101 (l0 :: l1 :: some (.inl v) :: ls) (.inl v :: st) g μ Q := Wp_nx k24_100 rfl
theorem k24_101 : mCode 24 101 = some (.iastore, 1) := by decide +kernel
theorem x24_101 {E : ME} {ls : MLs} {st : List MV} {g : MG} {μ : MU} {Q : Option MV → MG → MU → Prop} {a : Nat} {j v : Int} : Wp E 24 101 ls (.inl v :: .inl j :: .inr (.inr (.inl a)) :: st) g μ Q = (((mKd g a).1 = 10 ∧ 0 ≤ j ∧ j < (mKd g a).2) ∧ Wp E 24 102 ls st g (mUp μ a j.toNat v) Q) := Wp_iast k24_101
theorem k24_102 : mCode 24 102 = some (.aload_n 0, 1) := by decide +kernel
theorem x24_102 {E : ME} {ls : MLs} {st : List MV} {g : MG} {μ : MU} {Q : Option MV → MG → MU → Prop} {v : Nat ⊕ Nat} : Wp E 24 102 (some (.inr (.inr v)) :: ls) st g μ Q = Wp E 24 103 (some (.inr (.inr v)) :: ls) (.inr (.inr v) :: st) g μ Q := Wp_nx k24_102 rfl
theorem k24_103 : mCode 24 103 = some (.dup, 1) := by decide +kernel
theorem x24_103 {E : ME} {ls : MLs} {st : List MV} {g : MG} {μ : MU} {Q : Option MV → MG → MU → Prop} {v : MV} : Wp E 24 103 ls (v :: st) g μ Q = (mC1 v = true ∧ Wp E 24 104 ls (v :: v :: st) g μ Q) := Wp_dup k24_103
theorem k24_104 : mCode 24 104 = some (.getfield 30, 3) := by decide +kernel
theorem x24_104 {E : ME} {ls : MLs} {st : List MV} {g : MG} {μ : MU} {Q : Option MV → MG → MU → Prop} {a : Nat} : Wp E 24 104 ls (.inr (.inr (.inl a)) :: st) g μ Q = ((mKd g a).1 = 2 ∧ Wp E 24 107 ls (.inl (μ a 5) :: st) g μ Q) := Wp_getI k24_104 f2_30 (by decide) (by decide)
theorem k24_107 : mCode 24 107 = some (.iconst 1, 1) := by decide +kernel
theorem x24_107 {E : ME} {ls : MLs} {st : List MV} {g : MG} {μ : MU} {Q : Option MV → MG → MU → Prop} : Wp E 24 107 ls st g μ Q = Wp E 24 108 ls (.inl 1 :: st) g μ Q := Wp_nx k24_107 rfl
theorem k24_108 : mCode 24 108 = some (.iadd, 1) := by decide +kernel
theorem x24_108 {E : ME} {ls : MLs} {st : List MV} {g : MG} {μ : MU} {Q : Option MV → MG → MU → Prop} {a b : Int} : Wp E 24 108 ls (.inl b :: .inl a :: st) g μ Q = Wp E 24 109 ls (.inl (mWr (a + b)) :: st) g μ Q := Wp_nx k24_108 rfl
theorem k24_109 : mCode 24 109 = some (.putfield 30, 3) := by decide +kernel
theorem x24_109 {E : ME} {ls : MLs} {st : List MV} {g : MG} {μ : MU} {Q : Option MV → MG → MU → Prop} {a : Nat} {v : Int} : Wp E 24 109 ls (.inl v :: .inr (.inr (.inl a)) :: st) g μ Q = ((mKd g a).1 = 2 ∧ Wp E 24 112 ls st g (mUp μ a 5 v) Q) := Wp_putI0 k24_109 f2_30 (by decide) (by decide)
theorem k24_112 : mCode 24 112 = some (.iconst 1, 1) := by decide +kernel
theorem x24_112 {E : ME} {ls : MLs} {st : List MV} {g : MG} {μ : MU} {Q : Option MV → MG → MU → Prop} : Wp E 24 112 ls st g μ Q = Wp E 24 113 ls (.inl 1 :: st) g μ Q := Wp_nx k24_112 rfl
theorem k24_113 : mCode 24 113 = some (.ireturn, 1) := by decide +kernel
theorem x24_113 {E : ME} {ls : MLs} {g : MG} {μ : MU} {Q : Option MV → MG → MU → Prop} {v : Int} : Wp E 24 113 ls [.inl v] g μ Q = ((v = 0 ∨ v = 1) ∧ Q (some (.inl v)) g μ) := Wp_retZ k24_113 (by decide)
theorem k25_0 : mCode 25 0 = some (.aload_n 0, 1) := by decide +kernel
theorem x25_0 {E : ME} {ls : MLs} {st : List MV} {g : MG} {μ : MU} {Q : Option MV → MG → MU → Prop} {v : Nat ⊕ Nat} : Wp E 25 0 (some (.inr (.inr v)) :: ls) st g μ Q = Wp E 25 1 (some (.inr (.inr v)) :: ls) (.inr (.inr v) :: st) g μ Q := Wp_nx k25_0 rfl
theorem k25_1 : mCode 25 1 = some (.getfield 23, 3) := by decide +kernel
theorem x25_1 {E : ME} {ls : MLs} {st : List MV} {g : MG} {μ : MU} {Q : Option MV → MG → MU → Prop} {a : Nat} : Wp E 25 1 ls (.inr (.inr (.inl a)) :: st) g μ Q = ((mKd g a).1 = 2 ∧ Wp E 25 4 ls (.inl (μ a 3) :: st) g μ Q) := Wp_getI k25_1 f2_23 (by decide) (by decide)
theorem k25_4 : mCode 25 4 = some (.aload_n 0, 1) := by decide +kernel
theorem x25_4 {E : ME} {ls : MLs} {st : List MV} {g : MG} {μ : MU} {Q : Option MV → MG → MU → Prop} {v : Nat ⊕ Nat} : Wp E 25 4 (some (.inr (.inr v)) :: ls) st g μ Q = Wp E 25 5 (some (.inr (.inr v)) :: ls) (.inr (.inr v) :: st) g μ Q := Wp_nx k25_4 rfl
theorem k25_5 : mCode 25 5 = some (.getfield 19, 3) := by decide +kernel
theorem x25_5 {E : ME} {ls : MLs} {st : List MV} {g : MG} {μ : MU} {Q : Option MV → MG → MU → Prop} {a : Nat} : Wp E 25 5 ls (.inr (.inr (.inl a)) :: st) g μ Q = ((mKd g a).1 = 2 ∧ Wp E 25 8 ls (.inl (μ a 2) :: st) g μ Q) := Wp_getI k25_5 f2_19 (by decide) (by decide)
theorem k25_8 : mCode 25 8 = some (.if_icmp .ge 16, 3) := by decide +kernel
theorem x25_8 {E : ME} {ls : MLs} {st : List MV} {g : MG} {μ : MU} {Q : Option MV → MG → MU → Prop} {a b : Int} : Wp E 25 8 ls (.inl b :: .inl a :: st) g μ Q = ((b ≤ a → Wp E 25 24 ls st g μ Q) ∧ (a < b → Wp E 25 11 ls st g μ Q)) := Wp_cmp_ge k25_8 (by decide)
theorem k25_11 : mCode 25 11 = some (.aload_n 0, 1) := by decide +kernel
theorem x25_11 {E : ME} {ls : MLs} {st : List MV} {g : MG} {μ : MU} {Q : Option MV → MG → MU → Prop} {v : Nat ⊕ Nat} : Wp E 25 11 (some (.inr (.inr v)) :: ls) st g μ Q = Wp E 25 12 (some (.inr (.inr v)) :: ls) (.inr (.inr v) :: st) g μ Q := Wp_nx k25_11 rfl
theorem k25_12 : mCode 25 12 = some (.getfield 9, 3) := by decide +kernel
theorem x25_12 {E : ME} {ls : MLs} {st : List MV} {g : MG} {μ : MU} {Q : Option MV → MG → MU → Prop} {a : Nat} : Wp E 25 12 ls (.inr (.inr (.inl a)) :: st) g μ Q = ((mKd g a).1 = 2 ∧ Wp E 25 15 ls (mRv (mRf g a 0) :: st) g μ Q) := Wp_getR k25_12 f2_9 (by decide) (by decide)
theorem k25_15 : mCode 25 15 = some (.aload_n 0, 1) := by decide +kernel
theorem x25_15 {E : ME} {ls : MLs} {st : List MV} {g : MG} {μ : MU} {Q : Option MV → MG → MU → Prop} {v : Nat ⊕ Nat} : Wp E 25 15 (some (.inr (.inr v)) :: ls) st g μ Q = Wp E 25 16 (some (.inr (.inr v)) :: ls) (.inr (.inr v) :: st) g μ Q := Wp_nx k25_15 rfl
theorem k25_16 : mCode 25 16 = some (.getfield 23, 3) := by decide +kernel
theorem x25_16 {E : ME} {ls : MLs} {st : List MV} {g : MG} {μ : MU} {Q : Option MV → MG → MU → Prop} {a : Nat} : Wp E 25 16 ls (.inr (.inr (.inl a)) :: st) g μ Q = ((mKd g a).1 = 2 ∧ Wp E 25 19 ls (.inl (μ a 3) :: st) g μ Q) := Wp_getI k25_16 f2_23 (by decide) (by decide)
theorem k25_19 : mCode 25 19 = some (.caload, 1) := by decide +kernel
theorem x25_19 {E : ME} {ls : MLs} {st : List MV} {g : MG} {μ : MU} {Q : Option MV → MG → MU → Prop} {a : Nat} {j : Int} : Wp E 25 19 ls (.inl j :: .inr (.inr (.inl a)) :: st) g μ Q = (((mKd g a).1 = 11 ∧ 0 ≤ j ∧ j < (mKd g a).2) ∧ Wp E 25 20 ls (.inl (μ a j.toNat) :: st) g μ Q) := Wp_ald k25_19 (fun _ => rfl)
theorem k25_20 : mCode 25 20 = some (.iload_n 1, 1) := by decide +kernel
theorem x25_20 {E : ME} {ls : MLs} {st : List MV} {g : MG} {μ : MU} {Q : Option MV → MG → MU → Prop} {l0 : Option MV} {v : Int} : Wp E 25 20 (l0 :: some (.inl v) :: ls) st g μ Q = Wp E 25 21 (l0 :: some (.inl v) :: ls) (.inl v :: st) g μ Q := Wp_nx k25_20 rfl
theorem k25_21 : mCode 25 21 = some (.if_icmp .eq 5, 3) := by decide +kernel
theorem x25_21 {E : ME} {ls : MLs} {st : List MV} {g : MG} {μ : MU} {Q : Option MV → MG → MU → Prop} {a b : Int} : Wp E 25 21 ls (.inl b :: .inl a :: st) g μ Q = ((a = b → Wp E 25 26 ls st g μ Q) ∧ (¬ a = b → Wp E 25 24 ls st g μ Q)) := Wp_cmp_eq k25_21 (by decide)
theorem k25_24 : mCode 25 24 = some (.iconst 0, 1) := by decide +kernel
theorem x25_24 {E : ME} {ls : MLs} {st : List MV} {g : MG} {μ : MU} {Q : Option MV → MG → MU → Prop} : Wp E 25 24 ls st g μ Q = Wp E 25 25 ls (.inl 0 :: st) g μ Q := Wp_nx k25_24 rfl
theorem k25_25 : mCode 25 25 = some (.ireturn, 1) := by decide +kernel
theorem x25_25 {E : ME} {ls : MLs} {g : MG} {μ : MU} {Q : Option MV → MG → MU → Prop} {v : Int} : Wp E 25 25 ls [.inl v] g μ Q = ((v = 0 ∨ v = 1) ∧ Q (some (.inl v)) g μ) := Wp_retZ k25_25 (by decide)
theorem k25_26 : mCode 25 26 = some (.aload_n 0, 1) := by decide +kernel
theorem x25_26 {E : ME} {ls : MLs} {st : List MV} {g : MG} {μ : MU} {Q : Option MV → MG → MU → Prop} {v : Nat ⊕ Nat} : Wp E 25 26 (some (.inr (.inr v)) :: ls) st g μ Q = Wp E 25 27 (some (.inr (.inr v)) :: ls) (.inr (.inr v) :: st) g μ Q := Wp_nx k25_26 rfl
theorem k25_27 : mCode 25 27 = some (.dup, 1) := by decide +kernel
theorem x25_27 {E : ME} {ls : MLs} {st : List MV} {g : MG} {μ : MU} {Q : Option MV → MG → MU → Prop} {v : MV} : Wp E 25 27 ls (v :: st) g μ Q = (mC1 v = true ∧ Wp E 25 28 ls (v :: v :: st) g μ Q) := Wp_dup k25_27
theorem k25_28 : mCode 25 28 = some (.getfield 23, 3) := by decide +kernel
theorem x25_28 {E : ME} {ls : MLs} {st : List MV} {g : MG} {μ : MU} {Q : Option MV → MG → MU → Prop} {a : Nat} : Wp E 25 28 ls (.inr (.inr (.inl a)) :: st) g μ Q = ((mKd g a).1 = 2 ∧ Wp E 25 31 ls (.inl (μ a 3) :: st) g μ Q) := Wp_getI k25_28 f2_23 (by decide) (by decide)
theorem k25_31 : mCode 25 31 = some (.iconst 1, 1) := by decide +kernel
theorem x25_31 {E : ME} {ls : MLs} {st : List MV} {g : MG} {μ : MU} {Q : Option MV → MG → MU → Prop} : Wp E 25 31 ls st g μ Q = Wp E 25 32 ls (.inl 1 :: st) g μ Q := Wp_nx k25_31 rfl
theorem k25_32 : mCode 25 32 = some (.iadd, 1) := by decide +kernel
theorem x25_32 {E : ME} {ls : MLs} {st : List MV} {g : MG} {μ : MU} {Q : Option MV → MG → MU → Prop} {a b : Int} : Wp E 25 32 ls (.inl b :: .inl a :: st) g μ Q = Wp E 25 33 ls (.inl (mWr (a + b)) :: st) g μ Q := Wp_nx k25_32 rfl
theorem k25_33 : mCode 25 33 = some (.putfield 23, 3) := by decide +kernel
theorem x25_33 {E : ME} {ls : MLs} {st : List MV} {g : MG} {μ : MU} {Q : Option MV → MG → MU → Prop} {a : Nat} {v : Int} : Wp E 25 33 ls (.inl v :: .inr (.inr (.inl a)) :: st) g μ Q = ((mKd g a).1 = 2 ∧ Wp E 25 36 ls st g (mUp μ a 3 v) Q) := Wp_putI0 k25_33 f2_23 (by decide) (by decide)
theorem k25_36 : mCode 25 36 = some (.iconst 1, 1) := by decide +kernel
theorem x25_36 {E : ME} {ls : MLs} {st : List MV} {g : MG} {μ : MU} {Q : Option MV → MG → MU → Prop} : Wp E 25 36 ls st g μ Q = Wp E 25 37 ls (.inl 1 :: st) g μ Q := Wp_nx k25_36 rfl
theorem k25_37 : mCode 25 37 = some (.ireturn, 1) := by decide +kernel
theorem x25_37 {E : ME} {ls : MLs} {g : MG} {μ : MU} {Q : Option MV → MG → MU → Prop} {v : Int} : Wp E 25 37 ls [.inl v] g μ Q = ((v = 0 ∨ v = 1) ∧ Q (some (.inl v)) g μ) := Wp_retZ k25_37 (by decide)
theorem k26_0 : mCode 26 0 = some (.aload_n 0, 1) := by decide +kernel
theorem x26_0 {E : ME} {ls : MLs} {st : List MV} {g : MG} {μ : MU} {Q : Option MV → MG → MU → Prop} {v : Nat ⊕ Nat} : Wp E 26 0 (some (.inr (.inr v)) :: ls) st g μ Q = Wp E 26 1 (some (.inr (.inr v)) :: ls) (.inr (.inr v) :: st) g μ Q := Wp_nx k26_0 rfl
theorem k26_1 : mCode 26 1 = some (.getfield 23, 3) := by decide +kernel
theorem x26_1 {E : ME} {ls : MLs} {st : List MV} {g : MG} {μ : MU} {Q : Option MV → MG → MU → Prop} {a : Nat} : Wp E 26 1 ls (.inr (.inr (.inl a)) :: st) g μ Q = ((mKd g a).1 = 2 ∧ Wp E 26 4 ls (.inl (μ a 3) :: st) g μ Q) := Wp_getI k26_1 f2_23 (by decide) (by decide)
theorem k26_4 : mCode 26 4 = some (.aload_n 0, 1) := by decide +kernel
theorem x26_4 {E : ME} {ls : MLs} {st : List MV} {g : MG} {μ : MU} {Q : Option MV → MG → MU → Prop} {v : Nat ⊕ Nat} : Wp E 26 4 (some (.inr (.inr v)) :: ls) st g μ Q = Wp E 26 5 (some (.inr (.inr v)) :: ls) (.inr (.inr v) :: st) g μ Q := Wp_nx k26_4 rfl
theorem k26_5 : mCode 26 5 = some (.getfield 19, 3) := by decide +kernel
theorem x26_5 {E : ME} {ls : MLs} {st : List MV} {g : MG} {μ : MU} {Q : Option MV → MG → MU → Prop} {a : Nat} : Wp E 26 5 ls (.inr (.inr (.inl a)) :: st) g μ Q = ((mKd g a).1 = 2 ∧ Wp E 26 8 ls (.inl (μ a 2) :: st) g μ Q) := Wp_getI k26_5 f2_19 (by decide) (by decide)
theorem k26_8 : mCode 26 8 = some (.if_icmp .ge 35, 3) := by decide +kernel
theorem x26_8 {E : ME} {ls : MLs} {st : List MV} {g : MG} {μ : MU} {Q : Option MV → MG → MU → Prop} {a b : Int} : Wp E 26 8 ls (.inl b :: .inl a :: st) g μ Q = ((b ≤ a → Wp E 26 43 ls st g μ Q) ∧ (a < b → Wp E 26 11 ls st g μ Q)) := Wp_cmp_ge k26_8 (by decide)
theorem k26_11 : mCode 26 11 = some (.aload_n 0, 1) := by decide +kernel
theorem x26_11 {E : ME} {ls : MLs} {st : List MV} {g : MG} {μ : MU} {Q : Option MV → MG → MU → Prop} {v : Nat ⊕ Nat} : Wp E 26 11 (some (.inr (.inr v)) :: ls) st g μ Q = Wp E 26 12 (some (.inr (.inr v)) :: ls) (.inr (.inr v) :: st) g μ Q := Wp_nx k26_11 rfl
theorem k26_12 : mCode 26 12 = some (.getfield 9, 3) := by decide +kernel
theorem x26_12 {E : ME} {ls : MLs} {st : List MV} {g : MG} {μ : MU} {Q : Option MV → MG → MU → Prop} {a : Nat} : Wp E 26 12 ls (.inr (.inr (.inl a)) :: st) g μ Q = ((mKd g a).1 = 2 ∧ Wp E 26 15 ls (mRv (mRf g a 0) :: st) g μ Q) := Wp_getR k26_12 f2_9 (by decide) (by decide)
theorem k26_15 : mCode 26 15 = some (.aload_n 0, 1) := by decide +kernel
theorem x26_15 {E : ME} {ls : MLs} {st : List MV} {g : MG} {μ : MU} {Q : Option MV → MG → MU → Prop} {v : Nat ⊕ Nat} : Wp E 26 15 (some (.inr (.inr v)) :: ls) st g μ Q = Wp E 26 16 (some (.inr (.inr v)) :: ls) (.inr (.inr v) :: st) g μ Q := Wp_nx k26_15 rfl
theorem k26_16 : mCode 26 16 = some (.getfield 23, 3) := by decide +kernel
theorem x26_16 {E : ME} {ls : MLs} {st : List MV} {g : MG} {μ : MU} {Q : Option MV → MG → MU → Prop} {a : Nat} : Wp E 26 16 ls (.inr (.inr (.inl a)) :: st) g μ Q = ((mKd g a).1 = 2 ∧ Wp E 26 19 ls (.inl (μ a 3) :: st) g μ Q) := Wp_getI k26_16 f2_23 (by decide) (by decide)
theorem k26_19 : mCode 26 19 = some (.caload, 1) := by decide +kernel
theorem x26_19 {E : ME} {ls : MLs} {st : List MV} {g : MG} {μ : MU} {Q : Option MV → MG → MU → Prop} {a : Nat} {j : Int} : Wp E 26 19 ls (.inl j :: .inr (.inr (.inl a)) :: st) g μ Q = (((mKd g a).1 = 11 ∧ 0 ≤ j ∧ j < (mKd g a).2) ∧ Wp E 26 20 ls (.inl (μ a j.toNat) :: st) g μ Q) := Wp_ald k26_19 (fun _ => rfl)
theorem k26_20 : mCode 26 20 = some (.bipush 48, 2) := by decide +kernel
theorem x26_20 {E : ME} {ls : MLs} {st : List MV} {g : MG} {μ : MU} {Q : Option MV → MG → MU → Prop} : Wp E 26 20 ls st g μ Q = Wp E 26 22 ls (.inl 48 :: st) g μ Q := Wp_nx k26_20 rfl
theorem k26_22 : mCode 26 22 = some (.if_icmp .lt 21, 3) := by decide +kernel
theorem x26_22 {E : ME} {ls : MLs} {st : List MV} {g : MG} {μ : MU} {Q : Option MV → MG → MU → Prop} {a b : Int} : Wp E 26 22 ls (.inl b :: .inl a :: st) g μ Q = ((a < b → Wp E 26 43 ls st g μ Q) ∧ (b ≤ a → Wp E 26 25 ls st g μ Q)) := Wp_cmp_lt k26_22 (by decide)
theorem k26_25 : mCode 26 25 = some (.aload_n 0, 1) := by decide +kernel
theorem x26_25 {E : ME} {ls : MLs} {st : List MV} {g : MG} {μ : MU} {Q : Option MV → MG → MU → Prop} {v : Nat ⊕ Nat} : Wp E 26 25 (some (.inr (.inr v)) :: ls) st g μ Q = Wp E 26 26 (some (.inr (.inr v)) :: ls) (.inr (.inr v) :: st) g μ Q := Wp_nx k26_25 rfl
theorem k26_26 : mCode 26 26 = some (.getfield 9, 3) := by decide +kernel
theorem x26_26 {E : ME} {ls : MLs} {st : List MV} {g : MG} {μ : MU} {Q : Option MV → MG → MU → Prop} {a : Nat} : Wp E 26 26 ls (.inr (.inr (.inl a)) :: st) g μ Q = ((mKd g a).1 = 2 ∧ Wp E 26 29 ls (mRv (mRf g a 0) :: st) g μ Q) := Wp_getR k26_26 f2_9 (by decide) (by decide)
theorem k26_29 : mCode 26 29 = some (.aload_n 0, 1) := by decide +kernel
theorem x26_29 {E : ME} {ls : MLs} {st : List MV} {g : MG} {μ : MU} {Q : Option MV → MG → MU → Prop} {v : Nat ⊕ Nat} : Wp E 26 29 (some (.inr (.inr v)) :: ls) st g μ Q = Wp E 26 30 (some (.inr (.inr v)) :: ls) (.inr (.inr v) :: st) g μ Q := Wp_nx k26_29 rfl
theorem k26_30 : mCode 26 30 = some (.getfield 23, 3) := by decide +kernel
theorem x26_30 {E : ME} {ls : MLs} {st : List MV} {g : MG} {μ : MU} {Q : Option MV → MG → MU → Prop} {a : Nat} : Wp E 26 30 ls (.inr (.inr (.inl a)) :: st) g μ Q = ((mKd g a).1 = 2 ∧ Wp E 26 33 ls (.inl (μ a 3) :: st) g μ Q) := Wp_getI k26_30 f2_23 (by decide) (by decide)
theorem k26_33 : mCode 26 33 = some (.caload, 1) := by decide +kernel
theorem x26_33 {E : ME} {ls : MLs} {st : List MV} {g : MG} {μ : MU} {Q : Option MV → MG → MU → Prop} {a : Nat} {j : Int} : Wp E 26 33 ls (.inl j :: .inr (.inr (.inl a)) :: st) g μ Q = (((mKd g a).1 = 11 ∧ 0 ≤ j ∧ j < (mKd g a).2) ∧ Wp E 26 34 ls (.inl (μ a j.toNat) :: st) g μ Q) := Wp_ald k26_33 (fun _ => rfl)
theorem k26_34 : mCode 26 34 = some (.bipush 57, 2) := by decide +kernel
theorem x26_34 {E : ME} {ls : MLs} {st : List MV} {g : MG} {μ : MU} {Q : Option MV → MG → MU → Prop} : Wp E 26 34 ls st g μ Q = Wp E 26 36 ls (.inl 57 :: st) g μ Q := Wp_nx k26_34 rfl
theorem k26_36 : mCode 26 36 = some (.if_icmp .gt 7, 3) := by decide +kernel
theorem x26_36 {E : ME} {ls : MLs} {st : List MV} {g : MG} {μ : MU} {Q : Option MV → MG → MU → Prop} {a b : Int} : Wp E 26 36 ls (.inl b :: .inl a :: st) g μ Q = ((b < a → Wp E 26 43 ls st g μ Q) ∧ (a ≤ b → Wp E 26 39 ls st g μ Q)) := Wp_cmp_gt k26_36 (by decide)
theorem k26_39 : mCode 26 39 = some (.iconst 1, 1) := by decide +kernel
theorem x26_39 {E : ME} {ls : MLs} {st : List MV} {g : MG} {μ : MU} {Q : Option MV → MG → MU → Prop} : Wp E 26 39 ls st g μ Q = Wp E 26 40 ls (.inl 1 :: st) g μ Q := Wp_nx k26_39 rfl
theorem k26_40 : mCode 26 40 = some (.goto 4, 3) := by decide +kernel
theorem x26_40 {E : ME} {ls : MLs} {st : List MV} {g : MG} {μ : MU} {Q : Option MV → MG → MU → Prop} : Wp E 26 40 ls st g μ Q = Wp E 26 44 ls st g μ Q := Wp_goto k26_40 (by decide)
theorem k26_43 : mCode 26 43 = some (.iconst 0, 1) := by decide +kernel
theorem x26_43 {E : ME} {ls : MLs} {st : List MV} {g : MG} {μ : MU} {Q : Option MV → MG → MU → Prop} : Wp E 26 43 ls st g μ Q = Wp E 26 44 ls (.inl 0 :: st) g μ Q := Wp_nx k26_43 rfl
theorem k26_44 : mCode 26 44 = some (.ireturn, 1) := by decide +kernel
theorem x26_44 {E : ME} {ls : MLs} {g : MG} {μ : MU} {Q : Option MV → MG → MU → Prop} {v : Int} : Wp E 26 44 ls [.inl v] g μ Q = ((v = 0 ∨ v = 1) ∧ Q (some (.inl v)) g μ) := Wp_retZ k26_44 (by decide)
theorem k142_0 : mCode 142 0 = some (.iload_n 0, 1) := by decide +kernel
theorem x142_0 {E : ME} {ls : MLs} {st : List MV} {g : MG} {μ : MU} {Q : Option MV → MG → MU → Prop} {v : Int} : Wp E 142 0 (some (.inl v) :: ls) st g μ Q = Wp E 142 1 (some (.inl v) :: ls) (.inl v :: st) g μ Q := Wp_nx k142_0 rfl
theorem k142_1 : mCode 142 1 = some (.iload_n 0, 1) := by decide +kernel
theorem x142_1 {E : ME} {ls : MLs} {st : List MV} {g : MG} {μ : MU} {Q : Option MV → MG → MU → Prop} {v : Int} : Wp E 142 1 (some (.inl v) :: ls) st g μ Q = Wp E 142 2 (some (.inl v) :: ls) (.inl v :: st) g μ Q := Wp_nx k142_1 rfl
theorem k142_2 : mCode 142 2 = some (.iconst 1, 1) := by decide +kernel
theorem x142_2 {E : ME} {ls : MLs} {st : List MV} {g : MG} {μ : MU} {Q : Option MV → MG → MU → Prop} : Wp E 142 2 ls st g μ Q = Wp E 142 3 ls (.inl 1 :: st) g μ Q := Wp_nx k142_2 rfl
theorem k142_3 : mCode 142 3 = some (.iushr, 1) := by decide +kernel
theorem x142_3 {E : ME} {ls : MLs} {st : List MV} {g : MG} {μ : MU} {Q : Option MV → MG → MU → Prop} {a b : Int} : Wp E 142 3 ls (.inl b :: .inl a :: st) g μ Q = Wp E 142 4 ls (.inl (mIushr a b) :: st) g μ Q := Wp_nx k142_3 rfl
theorem k142_4 : mCode 142 4 = some (.ldc_w 265, 3) := by decide +kernel
theorem x142_4 {E : ME} {ls : MLs} {st : List MV} {g : MG} {μ : MU} {Q : Option MV → MG → MU → Prop} : Wp E 142 4 ls st g μ Q = Wp E 142 7 ls (mI (1431655765) :: st) g μ Q := Wp_ldc_w k142_4 (by decide +kernel)
theorem k142_7 : mCode 142 7 = some (.iand, 1) := by decide +kernel
theorem x142_7 {E : ME} {ls : MLs} {st : List MV} {g : MG} {μ : MU} {Q : Option MV → MG → MU → Prop} {a b : Int} : Wp E 142 7 ls (.inl b :: .inl a :: st) g μ Q = Wp E 142 8 ls (.inl (mIand a b) :: st) g μ Q := Wp_nx k142_7 rfl
theorem k142_8 : mCode 142 8 = some (.isub, 1) := by decide +kernel
theorem x142_8 {E : ME} {ls : MLs} {st : List MV} {g : MG} {μ : MU} {Q : Option MV → MG → MU → Prop} {a b : Int} : Wp E 142 8 ls (.inl b :: .inl a :: st) g μ Q = Wp E 142 9 ls (.inl (mWr (a - b)) :: st) g μ Q := Wp_nx k142_8 rfl
theorem k142_9 : mCode 142 9 = some (.istore_n 0, 1) := by decide +kernel
theorem x142_9 {E : ME} {ls : MLs} {st : List MV} {g : MG} {μ : MU} {Q : Option MV → MG → MU → Prop} {lk : Option MV} {v : Int} : Wp E 142 9 (lk :: ls) (.inl v :: st) g μ Q = ((mNl none = true ∧ mNl (some lk) = true) ∧ Wp E 142 10 (some (.inl v) :: ls) st g μ Q) := Wp_sti k142_9 (fun _ => rfl) rfl rfl rfl
theorem k142_10 : mCode 142 10 = some (.iload_n 0, 1) := by decide +kernel
theorem x142_10 {E : ME} {ls : MLs} {st : List MV} {g : MG} {μ : MU} {Q : Option MV → MG → MU → Prop} {v : Int} : Wp E 142 10 (some (.inl v) :: ls) st g μ Q = Wp E 142 11 (some (.inl v) :: ls) (.inl v :: st) g μ Q := Wp_nx k142_10 rfl
theorem k142_11 : mCode 142 11 = some (.ldc_w 266, 3) := by decide +kernel
theorem x142_11 {E : ME} {ls : MLs} {st : List MV} {g : MG} {μ : MU} {Q : Option MV → MG → MU → Prop} : Wp E 142 11 ls st g μ Q = Wp E 142 14 ls (mI (858993459) :: st) g μ Q := Wp_ldc_w k142_11 (by decide +kernel)
theorem k142_14 : mCode 142 14 = some (.iand, 1) := by decide +kernel
theorem x142_14 {E : ME} {ls : MLs} {st : List MV} {g : MG} {μ : MU} {Q : Option MV → MG → MU → Prop} {a b : Int} : Wp E 142 14 ls (.inl b :: .inl a :: st) g μ Q = Wp E 142 15 ls (.inl (mIand a b) :: st) g μ Q := Wp_nx k142_14 rfl
theorem k142_15 : mCode 142 15 = some (.iload_n 0, 1) := by decide +kernel
theorem x142_15 {E : ME} {ls : MLs} {st : List MV} {g : MG} {μ : MU} {Q : Option MV → MG → MU → Prop} {v : Int} : Wp E 142 15 (some (.inl v) :: ls) st g μ Q = Wp E 142 16 (some (.inl v) :: ls) (.inl v :: st) g μ Q := Wp_nx k142_15 rfl
theorem k142_16 : mCode 142 16 = some (.iconst 2, 1) := by decide +kernel
theorem x142_16 {E : ME} {ls : MLs} {st : List MV} {g : MG} {μ : MU} {Q : Option MV → MG → MU → Prop} : Wp E 142 16 ls st g μ Q = Wp E 142 17 ls (.inl 2 :: st) g μ Q := Wp_nx k142_16 rfl
theorem k142_17 : mCode 142 17 = some (.iushr, 1) := by decide +kernel
theorem x142_17 {E : ME} {ls : MLs} {st : List MV} {g : MG} {μ : MU} {Q : Option MV → MG → MU → Prop} {a b : Int} : Wp E 142 17 ls (.inl b :: .inl a :: st) g μ Q = Wp E 142 18 ls (.inl (mIushr a b) :: st) g μ Q := Wp_nx k142_17 rfl
theorem k142_18 : mCode 142 18 = some (.ldc_w 266, 3) := by decide +kernel
theorem x142_18 {E : ME} {ls : MLs} {st : List MV} {g : MG} {μ : MU} {Q : Option MV → MG → MU → Prop} : Wp E 142 18 ls st g μ Q = Wp E 142 21 ls (mI (858993459) :: st) g μ Q := Wp_ldc_w k142_18 (by decide +kernel)
theorem k142_21 : mCode 142 21 = some (.iand, 1) := by decide +kernel
theorem x142_21 {E : ME} {ls : MLs} {st : List MV} {g : MG} {μ : MU} {Q : Option MV → MG → MU → Prop} {a b : Int} : Wp E 142 21 ls (.inl b :: .inl a :: st) g μ Q = Wp E 142 22 ls (.inl (mIand a b) :: st) g μ Q := Wp_nx k142_21 rfl
theorem k142_22 : mCode 142 22 = some (.iadd, 1) := by decide +kernel
theorem x142_22 {E : ME} {ls : MLs} {st : List MV} {g : MG} {μ : MU} {Q : Option MV → MG → MU → Prop} {a b : Int} : Wp E 142 22 ls (.inl b :: .inl a :: st) g μ Q = Wp E 142 23 ls (.inl (mWr (a + b)) :: st) g μ Q := Wp_nx k142_22 rfl
theorem k142_23 : mCode 142 23 = some (.istore_n 0, 1) := by decide +kernel
theorem x142_23 {E : ME} {ls : MLs} {st : List MV} {g : MG} {μ : MU} {Q : Option MV → MG → MU → Prop} {lk : Option MV} {v : Int} : Wp E 142 23 (lk :: ls) (.inl v :: st) g μ Q = ((mNl none = true ∧ mNl (some lk) = true) ∧ Wp E 142 24 (some (.inl v) :: ls) st g μ Q) := Wp_sti k142_23 (fun _ => rfl) rfl rfl rfl
theorem k142_24 : mCode 142 24 = some (.iload_n 0, 1) := by decide +kernel
theorem x142_24 {E : ME} {ls : MLs} {st : List MV} {g : MG} {μ : MU} {Q : Option MV → MG → MU → Prop} {v : Int} : Wp E 142 24 (some (.inl v) :: ls) st g μ Q = Wp E 142 25 (some (.inl v) :: ls) (.inl v :: st) g μ Q := Wp_nx k142_24 rfl
theorem k142_25 : mCode 142 25 = some (.iload_n 0, 1) := by decide +kernel
theorem x142_25 {E : ME} {ls : MLs} {st : List MV} {g : MG} {μ : MU} {Q : Option MV → MG → MU → Prop} {v : Int} : Wp E 142 25 (some (.inl v) :: ls) st g μ Q = Wp E 142 26 (some (.inl v) :: ls) (.inl v :: st) g μ Q := Wp_nx k142_25 rfl
theorem k142_26 : mCode 142 26 = some (.iconst 4, 1) := by decide +kernel
theorem x142_26 {E : ME} {ls : MLs} {st : List MV} {g : MG} {μ : MU} {Q : Option MV → MG → MU → Prop} : Wp E 142 26 ls st g μ Q = Wp E 142 27 ls (.inl 4 :: st) g μ Q := Wp_nx k142_26 rfl
theorem k142_27 : mCode 142 27 = some (.iushr, 1) := by decide +kernel
theorem x142_27 {E : ME} {ls : MLs} {st : List MV} {g : MG} {μ : MU} {Q : Option MV → MG → MU → Prop} {a b : Int} : Wp E 142 27 ls (.inl b :: .inl a :: st) g μ Q = Wp E 142 28 ls (.inl (mIushr a b) :: st) g μ Q := Wp_nx k142_27 rfl
theorem k142_28 : mCode 142 28 = some (.iadd, 1) := by decide +kernel
theorem x142_28 {E : ME} {ls : MLs} {st : List MV} {g : MG} {μ : MU} {Q : Option MV → MG → MU → Prop} {a b : Int} : Wp E 142 28 ls (.inl b :: .inl a :: st) g μ Q = Wp E 142 29 ls (.inl (mWr (a + b)) :: st) g μ Q := Wp_nx k142_28 rfl
theorem k142_29 : mCode 142 29 = some (.ldc_w 267, 3) := by decide +kernel
theorem x142_29 {E : ME} {ls : MLs} {st : List MV} {g : MG} {μ : MU} {Q : Option MV → MG → MU → Prop} : Wp E 142 29 ls st g μ Q = Wp E 142 32 ls (mI (252645135) :: st) g μ Q := Wp_ldc_w k142_29 (by decide +kernel)
theorem k142_32 : mCode 142 32 = some (.iand, 1) := by decide +kernel
theorem x142_32 {E : ME} {ls : MLs} {st : List MV} {g : MG} {μ : MU} {Q : Option MV → MG → MU → Prop} {a b : Int} : Wp E 142 32 ls (.inl b :: .inl a :: st) g μ Q = Wp E 142 33 ls (.inl (mIand a b) :: st) g μ Q := Wp_nx k142_32 rfl
theorem k142_33 : mCode 142 33 = some (.istore_n 0, 1) := by decide +kernel
theorem x142_33 {E : ME} {ls : MLs} {st : List MV} {g : MG} {μ : MU} {Q : Option MV → MG → MU → Prop} {lk : Option MV} {v : Int} : Wp E 142 33 (lk :: ls) (.inl v :: st) g μ Q = ((mNl none = true ∧ mNl (some lk) = true) ∧ Wp E 142 34 (some (.inl v) :: ls) st g μ Q) := Wp_sti k142_33 (fun _ => rfl) rfl rfl rfl
theorem k142_34 : mCode 142 34 = some (.iload_n 0, 1) := by decide +kernel
theorem x142_34 {E : ME} {ls : MLs} {st : List MV} {g : MG} {μ : MU} {Q : Option MV → MG → MU → Prop} {v : Int} : Wp E 142 34 (some (.inl v) :: ls) st g μ Q = Wp E 142 35 (some (.inl v) :: ls) (.inl v :: st) g μ Q := Wp_nx k142_34 rfl
theorem k142_35 : mCode 142 35 = some (.iload_n 0, 1) := by decide +kernel
theorem x142_35 {E : ME} {ls : MLs} {st : List MV} {g : MG} {μ : MU} {Q : Option MV → MG → MU → Prop} {v : Int} : Wp E 142 35 (some (.inl v) :: ls) st g μ Q = Wp E 142 36 (some (.inl v) :: ls) (.inl v :: st) g μ Q := Wp_nx k142_35 rfl
theorem k142_36 : mCode 142 36 = some (.bipush 8, 2) := by decide +kernel
theorem x142_36 {E : ME} {ls : MLs} {st : List MV} {g : MG} {μ : MU} {Q : Option MV → MG → MU → Prop} : Wp E 142 36 ls st g μ Q = Wp E 142 38 ls (.inl 8 :: st) g μ Q := Wp_nx k142_36 rfl
theorem k142_38 : mCode 142 38 = some (.iushr, 1) := by decide +kernel
theorem x142_38 {E : ME} {ls : MLs} {st : List MV} {g : MG} {μ : MU} {Q : Option MV → MG → MU → Prop} {a b : Int} : Wp E 142 38 ls (.inl b :: .inl a :: st) g μ Q = Wp E 142 39 ls (.inl (mIushr a b) :: st) g μ Q := Wp_nx k142_38 rfl
theorem k142_39 : mCode 142 39 = some (.iadd, 1) := by decide +kernel
theorem x142_39 {E : ME} {ls : MLs} {st : List MV} {g : MG} {μ : MU} {Q : Option MV → MG → MU → Prop} {a b : Int} : Wp E 142 39 ls (.inl b :: .inl a :: st) g μ Q = Wp E 142 40 ls (.inl (mWr (a + b)) :: st) g μ Q := Wp_nx k142_39 rfl
theorem k142_40 : mCode 142 40 = some (.istore_n 0, 1) := by decide +kernel
theorem x142_40 {E : ME} {ls : MLs} {st : List MV} {g : MG} {μ : MU} {Q : Option MV → MG → MU → Prop} {lk : Option MV} {v : Int} : Wp E 142 40 (lk :: ls) (.inl v :: st) g μ Q = ((mNl none = true ∧ mNl (some lk) = true) ∧ Wp E 142 41 (some (.inl v) :: ls) st g μ Q) := Wp_sti k142_40 (fun _ => rfl) rfl rfl rfl
theorem k142_41 : mCode 142 41 = some (.iload_n 0, 1) := by decide +kernel
theorem x142_41 {E : ME} {ls : MLs} {st : List MV} {g : MG} {μ : MU} {Q : Option MV → MG → MU → Prop} {v : Int} : Wp E 142 41 (some (.inl v) :: ls) st g μ Q = Wp E 142 42 (some (.inl v) :: ls) (.inl v :: st) g μ Q := Wp_nx k142_41 rfl
theorem k142_42 : mCode 142 42 = some (.iload_n 0, 1) := by decide +kernel
theorem x142_42 {E : ME} {ls : MLs} {st : List MV} {g : MG} {μ : MU} {Q : Option MV → MG → MU → Prop} {v : Int} : Wp E 142 42 (some (.inl v) :: ls) st g μ Q = Wp E 142 43 (some (.inl v) :: ls) (.inl v :: st) g μ Q := Wp_nx k142_42 rfl
theorem k142_43 : mCode 142 43 = some (.bipush 16, 2) := by decide +kernel
theorem x142_43 {E : ME} {ls : MLs} {st : List MV} {g : MG} {μ : MU} {Q : Option MV → MG → MU → Prop} : Wp E 142 43 ls st g μ Q = Wp E 142 45 ls (.inl 16 :: st) g μ Q := Wp_nx k142_43 rfl
theorem k142_45 : mCode 142 45 = some (.iushr, 1) := by decide +kernel
theorem x142_45 {E : ME} {ls : MLs} {st : List MV} {g : MG} {μ : MU} {Q : Option MV → MG → MU → Prop} {a b : Int} : Wp E 142 45 ls (.inl b :: .inl a :: st) g μ Q = Wp E 142 46 ls (.inl (mIushr a b) :: st) g μ Q := Wp_nx k142_45 rfl
theorem k142_46 : mCode 142 46 = some (.iadd, 1) := by decide +kernel
theorem x142_46 {E : ME} {ls : MLs} {st : List MV} {g : MG} {μ : MU} {Q : Option MV → MG → MU → Prop} {a b : Int} : Wp E 142 46 ls (.inl b :: .inl a :: st) g μ Q = Wp E 142 47 ls (.inl (mWr (a + b)) :: st) g μ Q := Wp_nx k142_46 rfl
theorem k142_47 : mCode 142 47 = some (.istore_n 0, 1) := by decide +kernel
theorem x142_47 {E : ME} {ls : MLs} {st : List MV} {g : MG} {μ : MU} {Q : Option MV → MG → MU → Prop} {lk : Option MV} {v : Int} : Wp E 142 47 (lk :: ls) (.inl v :: st) g μ Q = ((mNl none = true ∧ mNl (some lk) = true) ∧ Wp E 142 48 (some (.inl v) :: ls) st g μ Q) := Wp_sti k142_47 (fun _ => rfl) rfl rfl rfl
theorem k142_48 : mCode 142 48 = some (.iload_n 0, 1) := by decide +kernel
theorem x142_48 {E : ME} {ls : MLs} {st : List MV} {g : MG} {μ : MU} {Q : Option MV → MG → MU → Prop} {v : Int} : Wp E 142 48 (some (.inl v) :: ls) st g μ Q = Wp E 142 49 (some (.inl v) :: ls) (.inl v :: st) g μ Q := Wp_nx k142_48 rfl
theorem k142_49 : mCode 142 49 = some (.bipush 63, 2) := by decide +kernel
theorem x142_49 {E : ME} {ls : MLs} {st : List MV} {g : MG} {μ : MU} {Q : Option MV → MG → MU → Prop} : Wp E 142 49 ls st g μ Q = Wp E 142 51 ls (.inl 63 :: st) g μ Q := Wp_nx k142_49 rfl
theorem k142_51 : mCode 142 51 = some (.iand, 1) := by decide +kernel
theorem x142_51 {E : ME} {ls : MLs} {st : List MV} {g : MG} {μ : MU} {Q : Option MV → MG → MU → Prop} {a b : Int} : Wp E 142 51 ls (.inl b :: .inl a :: st) g μ Q = Wp E 142 52 ls (.inl (mIand a b) :: st) g μ Q := Wp_nx k142_51 rfl
theorem k142_52 : mCode 142 52 = some (.ireturn, 1) := by decide +kernel
theorem x142_52 {E : ME} {ls : MLs} {g : MG} {μ : MU} {Q : Option MV → MG → MU → Prop} {v : Int} : Wp E 142 52 ls [.inl v] g μ Q = Q (some (.inl v)) g μ := Wp_retI k142_52 (by decide)
theorem k143_0 : mCode 143 0 = some (.iload_n 0, 1) := by decide +kernel
theorem x143_0 {E : ME} {ls : MLs} {st : List MV} {g : MG} {μ : MU} {Q : Option MV → MG → MU → Prop} {v : Int} : Wp E 143 0 (some (.inl v) :: ls) st g μ Q = Wp E 143 1 (some (.inl v) :: ls) (.inl v :: st) g μ Q := Wp_nx k143_0 rfl
theorem k143_1 : mCode 143 1 = some (.iload_n 1, 1) := by decide +kernel
theorem x143_1 {E : ME} {ls : MLs} {st : List MV} {g : MG} {μ : MU} {Q : Option MV → MG → MU → Prop} {l0 : Option MV} {v : Int} : Wp E 143 1 (l0 :: some (.inl v) :: ls) st g μ Q = Wp E 143 2 (l0 :: some (.inl v) :: ls) (.inl v :: st) g μ Q := Wp_nx k143_1 rfl
theorem k143_2 : mCode 143 2 = some (.if_icmp .lt 7, 3) := by decide +kernel
theorem x143_2 {E : ME} {ls : MLs} {st : List MV} {g : MG} {μ : MU} {Q : Option MV → MG → MU → Prop} {a b : Int} : Wp E 143 2 ls (.inl b :: .inl a :: st) g μ Q = ((a < b → Wp E 143 9 ls st g μ Q) ∧ (b ≤ a → Wp E 143 5 ls st g μ Q)) := Wp_cmp_lt k143_2 (by decide)
theorem k143_5 : mCode 143 5 = some (.iload_n 0, 1) := by decide +kernel
theorem x143_5 {E : ME} {ls : MLs} {st : List MV} {g : MG} {μ : MU} {Q : Option MV → MG → MU → Prop} {v : Int} : Wp E 143 5 (some (.inl v) :: ls) st g μ Q = Wp E 143 6 (some (.inl v) :: ls) (.inl v :: st) g μ Q := Wp_nx k143_5 rfl
theorem k143_6 : mCode 143 6 = some (.goto 4, 3) := by decide +kernel
theorem x143_6 {E : ME} {ls : MLs} {st : List MV} {g : MG} {μ : MU} {Q : Option MV → MG → MU → Prop} : Wp E 143 6 ls st g μ Q = Wp E 143 10 ls st g μ Q := Wp_goto k143_6 (by decide)
theorem k143_9 : mCode 143 9 = some (.iload_n 1, 1) := by decide +kernel
theorem x143_9 {E : ME} {ls : MLs} {st : List MV} {g : MG} {μ : MU} {Q : Option MV → MG → MU → Prop} {l0 : Option MV} {v : Int} : Wp E 143 9 (l0 :: some (.inl v) :: ls) st g μ Q = Wp E 143 10 (l0 :: some (.inl v) :: ls) (.inl v :: st) g μ Q := Wp_nx k143_9 rfl
theorem k143_10 : mCode 143 10 = some (.ireturn, 1) := by decide +kernel
theorem x143_10 {E : ME} {ls : MLs} {g : MG} {μ : MU} {Q : Option MV → MG → MU → Prop} {v : Int} : Wp E 143 10 ls [.inl v] g μ Q = Q (some (.inl v)) g μ := Wp_retI k143_10 (by decide)
theorem k144_0 : mCode 144 0 = some (.aload_n 0, 1) := by decide +kernel
theorem x144_0 {E : ME} {ls : MLs} {st : List MV} {g : MG} {μ : MU} {Q : Option MV → MG → MU → Prop} {v : Nat ⊕ Nat} : Wp E 144 0 (some (.inr (.inr v)) :: ls) st g μ Q = Wp E 144 1 (some (.inr (.inr v)) :: ls) (.inr (.inr v) :: st) g μ Q := Wp_nx k144_0 rfl
theorem k144_1 : mCode 144 1 = some (.getfield 9, 3) := by decide +kernel
theorem x144_1 {E : ME} {ls : MLs} {st : List MV} {g : MG} {μ : MU} {Q : Option MV → MG → MU → Prop} {c : Nat} : Wp E 144 1 ls (.inr (.inr (.inr c)) :: st) g μ Q = (mk_isS c = true ∧ Wp E 144 4 ls (mK (c + 10) :: st) g μ Q) := Wp_getS0 k144_1 (by decide +kernel)
theorem k144_4 : mCode 144 4 = some (.arraylength, 1) := by decide +kernel
theorem x144_4 {E : ME} {ls : MLs} {st : List MV} {g : MG} {μ : MU} {Q : Option MV → MG → MU → Prop} {a : Nat} : Wp E 144 4 ls (.inr (.inr (.inl a)) :: st) g μ Q = ((10 ≤ (mKd g a).1 ∧ (mKd g a).1 < 15) ∧ Wp E 144 5 ls (.inl (mKd g a).2 :: st) g μ Q) := Wp_alen k144_4
theorem x144_4K {E : ME} {ls : MLs} {st : List MV} {g : MG} {μ : MU} {Q : Option MV → MG → MU → Prop} {c : Nat} : Wp E 144 4 ls (.inr (.inr (.inr c)) :: st) g μ Q = ((mk_isI c = true ∨ mk_isB c = true) ∧ Wp E 144 5 ls (.inl (mk_len E c) :: st) g μ Q) := Wp_alenK k144_4
theorem k144_5 : mCode 144 5 = some (.aload_n 0, 1) := by decide +kernel
theorem x144_5 {E : ME} {ls : MLs} {st : List MV} {g : MG} {μ : MU} {Q : Option MV → MG → MU → Prop} {v : Nat ⊕ Nat} : Wp E 144 5 (some (.inr (.inr v)) :: ls) st g μ Q = Wp E 144 6 (some (.inr (.inr v)) :: ls) (.inr (.inr v) :: st) g μ Q := Wp_nx k144_5 rfl
theorem k144_6 : mCode 144 6 = some (.invokevirtual 335, 3) := by decide +kernel
theorem x144_6 {E : ME} {ls : MLs} {st : List MV} {g : MG} {μ : MU} {Q : Option MV → MG → MU → Prop} {r : Nat} : Wp E 144 6 ls (.inr (.inr (.inr r)) :: st) g μ Q = ((st.length ≤ 4 ∧ (7 == 7 && mk_isS r) = true) ∧ Wp E 147 0 [some (.inr (.inr (.inr r)))] [] g μ (fun r g' μ' => (g'.1 = g.1 ∧ g'.2.1 = g.2.1) ∧ Wp E 144 9 ls (mPush r st) g' μ' Q)) := Wp_cV k144_6 m7_335 (by decide) (as := [.inr (.inr (.inr r))]) rfl rfl rfl ⟨Nat.le_of_ble_eq_true rfl, by decide⟩
theorem k144_9 : mCode 144 9 = some (.ishr, 1) := by decide +kernel
theorem x144_9 {E : ME} {ls : MLs} {st : List MV} {g : MG} {μ : MU} {Q : Option MV → MG → MU → Prop} {a b : Int} : Wp E 144 9 ls (.inl b :: .inl a :: st) g μ Q = Wp E 144 10 ls (.inl (mIshr a b) :: st) g μ Q := Wp_nx k144_9 rfl
theorem k144_10 : mCode 144 10 = some (.ireturn, 1) := by decide +kernel
theorem x144_10 {E : ME} {ls : MLs} {g : MG} {μ : MU} {Q : Option MV → MG → MU → Prop} {v : Int} : Wp E 144 10 ls [.inl v] g μ Q = Q (some (.inl v)) g μ := Wp_retI k144_10 (by decide)
theorem k145_0 : mCode 145 0 = some (.aload_n 0, 1) := by decide +kernel
theorem x145_0 {E : ME} {ls : MLs} {st : List MV} {g : MG} {μ : MU} {Q : Option MV → MG → MU → Prop} {v : Nat ⊕ Nat} : Wp E 145 0 (some (.inr (.inr v)) :: ls) st g μ Q = Wp E 145 1 (some (.inr (.inr v)) :: ls) (.inr (.inr v) :: st) g μ Q := Wp_nx k145_0 rfl
theorem k145_1 : mCode 145 1 = some (.getfield 9, 3) := by decide +kernel
theorem x145_1 {E : ME} {ls : MLs} {st : List MV} {g : MG} {μ : MU} {Q : Option MV → MG → MU → Prop} {c : Nat} : Wp E 145 1 ls (.inr (.inr (.inr c)) :: st) g μ Q = (mk_isS c = true ∧ Wp E 145 4 ls (mK (c + 10) :: st) g μ Q) := Wp_getS0 k145_1 (by decide +kernel)
theorem k145_4 : mCode 145 4 = some (.arraylength, 1) := by decide +kernel
theorem x145_4 {E : ME} {ls : MLs} {st : List MV} {g : MG} {μ : MU} {Q : Option MV → MG → MU → Prop} {a : Nat} : Wp E 145 4 ls (.inr (.inr (.inl a)) :: st) g μ Q = ((10 ≤ (mKd g a).1 ∧ (mKd g a).1 < 15) ∧ Wp E 145 5 ls (.inl (mKd g a).2 :: st) g μ Q) := Wp_alen k145_4
theorem x145_4K {E : ME} {ls : MLs} {st : List MV} {g : MG} {μ : MU} {Q : Option MV → MG → MU → Prop} {c : Nat} : Wp E 145 4 ls (.inr (.inr (.inr c)) :: st) g μ Q = ((mk_isI c = true ∨ mk_isB c = true) ∧ Wp E 145 5 ls (.inl (mk_len E c) :: st) g μ Q) := Wp_alenK k145_4
theorem k145_5 : mCode 145 5 = some (.ifCond .ne 7, 3) := by decide +kernel
theorem x145_5 {E : ME} {ls : MLs} {st : List MV} {g : MG} {μ : MU} {Q : Option MV → MG → MU → Prop} {a : Int} : Wp E 145 5 ls (.inl a :: st) g μ Q = ((¬ a = 0 → Wp E 145 12 ls st g μ Q) ∧ (a = 0 → Wp E 145 8 ls st g μ Q)) := Wp_if_ne k145_5 (by decide)
theorem k145_8 : mCode 145 8 = some (.iconst 1, 1) := by decide +kernel
theorem x145_8 {E : ME} {ls : MLs} {st : List MV} {g : MG} {μ : MU} {Q : Option MV → MG → MU → Prop} : Wp E 145 8 ls st g μ Q = Wp E 145 9 ls (.inl 1 :: st) g μ Q := Wp_nx k145_8 rfl
theorem k145_9 : mCode 145 9 = some (.goto 4, 3) := by decide +kernel
theorem x145_9 {E : ME} {ls : MLs} {st : List MV} {g : MG} {μ : MU} {Q : Option MV → MG → MU → Prop} : Wp E 145 9 ls st g μ Q = Wp E 145 13 ls st g μ Q := Wp_goto k145_9 (by decide)
theorem k145_12 : mCode 145 12 = some (.iconst 0, 1) := by decide +kernel
theorem x145_12 {E : ME} {ls : MLs} {st : List MV} {g : MG} {μ : MU} {Q : Option MV → MG → MU → Prop} : Wp E 145 12 ls st g μ Q = Wp E 145 13 ls (.inl 0 :: st) g μ Q := Wp_nx k145_12 rfl
theorem k145_13 : mCode 145 13 = some (.ireturn, 1) := by decide +kernel
theorem x145_13 {E : ME} {ls : MLs} {g : MG} {μ : MU} {Q : Option MV → MG → MU → Prop} {v : Int} : Wp E 145 13 ls [.inl v] g μ Q = ((v = 0 ∨ v = 1) ∧ Q (some (.inl v)) g μ) := Wp_retZ k145_13 (by decide)
theorem k146_0 : mCode 146 0 = some (.aload_n 0, 1) := by decide +kernel
theorem x146_0 {E : ME} {ls : MLs} {st : List MV} {g : MG} {μ : MU} {Q : Option MV → MG → MU → Prop} {v : Nat ⊕ Nat} : Wp E 146 0 (some (.inr (.inr v)) :: ls) st g μ Q = Wp E 146 1 (some (.inr (.inr v)) :: ls) (.inr (.inr v) :: st) g μ Q := Wp_nx k146_0 rfl
theorem k146_1 : mCode 146 1 = some (.invokevirtual 492, 3) := by decide +kernel
theorem x146_1 {E : ME} {ls : MLs} {st : List MV} {g : MG} {μ : MU} {Q : Option MV → MG → MU → Prop} {r : Nat} : Wp E 146 1 ls (.inr (.inr (.inr r)) :: st) g μ Q = ((st.length ≤ 4 ∧ (7 == 7 && mk_isS r) = true) ∧ Wp E 148 0 [some (.inr (.inr (.inr r)))] [] g μ (fun r g' μ' => (g'.1 = g.1 ∧ g'.2.1 = g.2.1) ∧ Wp E 146 4 ls (mPush r st) g' μ' Q)) := Wp_cV k146_1 m7_492 (by decide) (as := [.inr (.inr (.inr r))]) rfl rfl rfl ⟨Nat.le_of_ble_eq_true rfl, by decide⟩
theorem k146_4 : mCode 146 4 = some (.ifCond .eq 12, 3) := by decide +kernel
theorem x146_4 {E : ME} {ls : MLs} {st : List MV} {g : MG} {μ : MU} {Q : Option MV → MG → MU → Prop} {a : Int} : Wp E 146 4 ls (.inl a :: st) g μ Q = ((a = 0 → Wp E 146 16 ls st g μ Q) ∧ (¬ a = 0 → Wp E 146 7 ls st g μ Q)) := Wp_if_eq k146_4 (by decide)
theorem k146_7 : mCode 146 7 = some (.aload_n 0, 1) := by decide +kernel
theorem x146_7 {E : ME} {ls : MLs} {st : List MV} {g : MG} {μ : MU} {Q : Option MV → MG → MU → Prop} {v : Nat ⊕ Nat} : Wp E 146 7 (some (.inr (.inr v)) :: ls) st g μ Q = Wp E 146 8 (some (.inr (.inr v)) :: ls) (.inr (.inr v) :: st) g μ Q := Wp_nx k146_7 rfl
theorem k146_8 : mCode 146 8 = some (.getfield 9, 3) := by decide +kernel
theorem x146_8 {E : ME} {ls : MLs} {st : List MV} {g : MG} {μ : MU} {Q : Option MV → MG → MU → Prop} {c : Nat} : Wp E 146 8 ls (.inr (.inr (.inr c)) :: st) g μ Q = (mk_isS c = true ∧ Wp E 146 11 ls (mK (c + 10) :: st) g μ Q) := Wp_getS0 k146_8 (by decide +kernel)
theorem k146_11 : mCode 146 11 = some (.iload_n 1, 1) := by decide +kernel
theorem x146_11 {E : ME} {ls : MLs} {st : List MV} {g : MG} {μ : MU} {Q : Option MV → MG → MU → Prop} {l0 : Option MV} {v : Int} : Wp E 146 11 (l0 :: some (.inl v) :: ls) st g μ Q = Wp E 146 12 (l0 :: some (.inl v) :: ls) (.inl v :: st) g μ Q := Wp_nx k146_11 rfl
theorem k146_12 : mCode 146 12 = some (.invokestatic 495, 3) := by decide +kernel
theorem x146_12 {E : ME} {ls : MLs} {st : List MV} {g : MG} {μ : MU} {Q : Option MV → MG → MU → Prop} {a0 : Nat ⊕ Nat} {a1 : Int} : Wp E 146 12 ls (.inl a1 :: .inr (.inr a0) :: st) g μ Q = (st.length ≤ 4 ∧ Wp E 150 0 [some (.inr (.inr a0)), some (.inl a1)] [] g μ (fun r g' μ' => (g'.1 = g.1 ∧ g'.2.1 = g.2.1) ∧ Wp E 146 15 ls (mPush r st) g' μ' Q)) := Wp_cS k146_12 m7_495 (by decide) (as := [.inr (.inr a0), .inl a1]) rfl rfl rfl ⟨Nat.le_of_ble_eq_true rfl, by decide⟩
theorem k146_15 : mCode 146 15 = some (.ireturn, 1) := by decide +kernel
theorem x146_15 {E : ME} {ls : MLs} {g : MG} {μ : MU} {Q : Option MV → MG → MU → Prop} {v : Int} : Wp E 146 15 ls [.inl v] g μ Q = ((0 ≤ v ∧ v < 65536) ∧ Q (some (.inl v)) g μ) := Wp_retC k146_15 (by decide)
theorem k146_16 : mCode 146 16 = some (.aload_n 0, 1) := by decide +kernel
theorem x146_16 {E : ME} {ls : MLs} {st : List MV} {g : MG} {μ : MU} {Q : Option MV → MG → MU → Prop} {v : Nat ⊕ Nat} : Wp E 146 16 (some (.inr (.inr v)) :: ls) st g μ Q = Wp E 146 17 (some (.inr (.inr v)) :: ls) (.inr (.inr v) :: st) g μ Q := Wp_nx k146_16 rfl
theorem k146_17 : mCode 146 17 = some (.getfield 9, 3) := by decide +kernel
theorem x146_17 {E : ME} {ls : MLs} {st : List MV} {g : MG} {μ : MU} {Q : Option MV → MG → MU → Prop} {c : Nat} : Wp E 146 17 ls (.inr (.inr (.inr c)) :: st) g μ Q = (mk_isS c = true ∧ Wp E 146 20 ls (mK (c + 10) :: st) g μ Q) := Wp_getS0 k146_17 (by decide +kernel)
theorem k146_20 : mCode 146 20 = some (.iload_n 1, 1) := by decide +kernel
theorem x146_20 {E : ME} {ls : MLs} {st : List MV} {g : MG} {μ : MU} {Q : Option MV → MG → MU → Prop} {l0 : Option MV} {v : Int} : Wp E 146 20 (l0 :: some (.inl v) :: ls) st g μ Q = Wp E 146 21 (l0 :: some (.inl v) :: ls) (.inl v :: st) g μ Q := Wp_nx k146_20 rfl
theorem k146_21 : mCode 146 21 = some (.invokestatic 498, 3) := by decide +kernel
theorem k146_24 : mCode 146 24 = some (.ireturn, 1) := by decide +kernel
theorem x146_24 {E : ME} {ls : MLs} {g : MG} {μ : MU} {Q : Option MV → MG → MU → Prop} {v : Int} : Wp E 146 24 ls [.inl v] g μ Q = ((0 ≤ v ∧ v < 65536) ∧ Q (some (.inl v)) g μ) := Wp_retC k146_24 (by decide)
theorem k147_0 : mCode 147 0 = some (.getstatic 38, 3) := by decide +kernel
theorem x147_0 {E : ME} {ls : MLs} {st : List MV} {g : MG} {μ : MU} {Q : Option MV → MG → MU → Prop} : Wp E 147 0 ls st g μ Q = Wp E 147 3 ls (mI 1 :: st) g μ Q := Wp_gst k147_0 (by decide +kernel)
theorem k147_3 : mCode 147 3 = some (.ifCond .eq 10, 3) := by decide +kernel
theorem x147_3 {E : ME} {ls : MLs} {st : List MV} {g : MG} {μ : MU} {Q : Option MV → MG → MU → Prop} {a : Int} : Wp E 147 3 ls (.inl a :: st) g μ Q = ((a = 0 → Wp E 147 13 ls st g μ Q) ∧ (¬ a = 0 → Wp E 147 6 ls st g μ Q)) := Wp_if_eq k147_3 (by decide)
theorem k147_6 : mCode 147 6 = some (.aload_n 0, 1) := by decide +kernel
theorem x147_6 {E : ME} {ls : MLs} {st : List MV} {g : MG} {μ : MU} {Q : Option MV → MG → MU → Prop} {v : Nat ⊕ Nat} : Wp E 147 6 (some (.inr (.inr v)) :: ls) st g μ Q = Wp E 147 7 (some (.inr (.inr v)) :: ls) (.inr (.inr v) :: st) g μ Q := Wp_nx k147_6 rfl
theorem k147_7 : mCode 147 7 = some (.getfield 15, 3) := by decide +kernel
theorem x147_7 {E : ME} {ls : MLs} {st : List MV} {g : MG} {μ : MU} {Q : Option MV → MG → MU → Prop} {c : Nat} : Wp E 147 7 ls (.inr (.inr (.inr c)) :: st) g μ Q = (mk_isS c = true ∧ Wp E 147 10 ls (mI 0 :: st) g μ Q) := Wp_getS1 k147_7 (by decide +kernel)
theorem k147_10 : mCode 147 10 = some (.goto 4, 3) := by decide +kernel
theorem x147_10 {E : ME} {ls : MLs} {st : List MV} {g : MG} {μ : MU} {Q : Option MV → MG → MU → Prop} : Wp E 147 10 ls st g μ Q = Wp E 147 14 ls st g μ Q := Wp_goto k147_10 (by decide)
theorem k147_13 : mCode 147 13 = some (.iconst 1, 1) := by decide +kernel
theorem x147_13 {E : ME} {ls : MLs} {st : List MV} {g : MG} {μ : MU} {Q : Option MV → MG → MU → Prop} : Wp E 147 13 ls st g μ Q = Wp E 147 14 ls (.inl 1 :: st) g μ Q := Wp_nx k147_13 rfl
theorem k147_14 : mCode 147 14 = some (.ireturn, 1) := by decide +kernel
theorem x147_14 {E : ME} {ls : MLs} {g : MG} {μ : MU} {Q : Option MV → MG → MU → Prop} {v : Int} : Wp E 147 14 ls [.inl v] g μ Q = ((-128 ≤ v ∧ v < 128) ∧ Q (some (.inl v)) g μ) := Wp_retB k147_14 (by decide)
theorem k148_0 : mCode 148 0 = some (.getstatic 38, 3) := by decide +kernel
theorem x148_0 {E : ME} {ls : MLs} {st : List MV} {g : MG} {μ : MU} {Q : Option MV → MG → MU → Prop} : Wp E 148 0 ls st g μ Q = Wp E 148 3 ls (mI 1 :: st) g μ Q := Wp_gst k148_0 (by decide +kernel)
theorem k148_3 : mCode 148 3 = some (.ifCond .eq 14, 3) := by decide +kernel
theorem x148_3 {E : ME} {ls : MLs} {st : List MV} {g : MG} {μ : MU} {Q : Option MV → MG → MU → Prop} {a : Int} : Wp E 148 3 ls (.inl a :: st) g μ Q = ((a = 0 → Wp E 148 17 ls st g μ Q) ∧ (¬ a = 0 → Wp E 148 6 ls st g μ Q)) := Wp_if_eq k148_3 (by decide)
theorem k148_6 : mCode 148 6 = some (.aload_n 0, 1) := by decide +kernel
theorem x148_6 {E : ME} {ls : MLs} {st : List MV} {g : MG} {μ : MU} {Q : Option MV → MG → MU → Prop} {v : Nat ⊕ Nat} : Wp E 148 6 (some (.inr (.inr v)) :: ls) st g μ Q = Wp E 148 7 (some (.inr (.inr v)) :: ls) (.inr (.inr v) :: st) g μ Q := Wp_nx k148_6 rfl
theorem k148_7 : mCode 148 7 = some (.getfield 15, 3) := by decide +kernel
theorem x148_7 {E : ME} {ls : MLs} {st : List MV} {g : MG} {μ : MU} {Q : Option MV → MG → MU → Prop} {c : Nat} : Wp E 148 7 ls (.inr (.inr (.inr c)) :: st) g μ Q = (mk_isS c = true ∧ Wp E 148 10 ls (mI 0 :: st) g μ Q) := Wp_getS1 k148_7 (by decide +kernel)
theorem k148_10 : mCode 148 10 = some (.ifCond .ne 7, 3) := by decide +kernel
theorem x148_10 {E : ME} {ls : MLs} {st : List MV} {g : MG} {μ : MU} {Q : Option MV → MG → MU → Prop} {a : Int} : Wp E 148 10 ls (.inl a :: st) g μ Q = ((¬ a = 0 → Wp E 148 17 ls st g μ Q) ∧ (a = 0 → Wp E 148 13 ls st g μ Q)) := Wp_if_ne k148_10 (by decide)
theorem k148_13 : mCode 148 13 = some (.iconst 1, 1) := by decide +kernel
theorem x148_13 {E : ME} {ls : MLs} {st : List MV} {g : MG} {μ : MU} {Q : Option MV → MG → MU → Prop} : Wp E 148 13 ls st g μ Q = Wp E 148 14 ls (.inl 1 :: st) g μ Q := Wp_nx k148_13 rfl
theorem k148_14 : mCode 148 14 = some (.goto 4, 3) := by decide +kernel
theorem x148_14 {E : ME} {ls : MLs} {st : List MV} {g : MG} {μ : MU} {Q : Option MV → MG → MU → Prop} : Wp E 148 14 ls st g μ Q = Wp E 148 18 ls st g μ Q := Wp_goto k148_14 (by decide)
theorem k148_17 : mCode 148 17 = some (.iconst 0, 1) := by decide +kernel
theorem x148_17 {E : ME} {ls : MLs} {st : List MV} {g : MG} {μ : MU} {Q : Option MV → MG → MU → Prop} : Wp E 148 17 ls st g μ Q = Wp E 148 18 ls (.inl 0 :: st) g μ Q := Wp_nx k148_17 rfl
theorem k148_18 : mCode 148 18 = some (.ireturn, 1) := by decide +kernel
theorem x148_18 {E : ME} {ls : MLs} {g : MG} {μ : MU} {Q : Option MV → MG → MU → Prop} {v : Int} : Wp E 148 18 ls [.inl v] g μ Q = ((v = 0 ∨ v = 1) ∧ Q (some (.inl v)) g μ) := Wp_retZ k148_18 (by decide)
theorem k149_0 : mCode 149 0 = some (.iload_n 0, 1) := by decide +kernel
theorem x149_0 {E : ME} {ls : MLs} {st : List MV} {g : MG} {μ : MU} {Q : Option MV → MG → MU → Prop} {v : Int} : Wp E 149 0 (some (.inl v) :: ls) st g μ Q = Wp E 149 1 (some (.inl v) :: ls) (.inl v :: st) g μ Q := Wp_nx k149_0 rfl
theorem k149_1 : mCode 149 1 = some (.iload_n 1, 1) := by decide +kernel
theorem x149_1 {E : ME} {ls : MLs} {st : List MV} {g : MG} {μ : MU} {Q : Option MV → MG → MU → Prop} {l0 : Option MV} {v : Int} : Wp E 149 1 (l0 :: some (.inl v) :: ls) st g μ Q = Wp E 149 2 (l0 :: some (.inl v) :: ls) (.inl v :: st) g μ Q := Wp_nx k149_1 rfl
theorem k149_2 : mCode 149 2 = some (.getstatic 1053, 3) := by decide +kernel
theorem x149_2 {E : ME} {ls : MLs} {st : List MV} {g : MG} {μ : MU} {Q : Option MV → MG → MU → Prop} : Wp E 149 2 ls st g μ Q = Wp E 149 5 ls (mK 1 :: st) g μ Q := Wp_gst k149_2 (by decide +kernel)
theorem k149_5 : mCode 149 5 = some (.invokestatic 1059, 3) := by decide +kernel
theorem x149_5 {E : ME} {ls : MLs} {st : List MV} {g : MG} {μ : MU} {Q : Option MV → MG → MU → Prop} {a0 : Int} {a1 : Int} {a2 : Nat ⊕ Nat} : Wp E 149 5 ls (.inr (.inr a2) :: .inl a1 :: .inl a0 :: st) g μ Q = (st.length ≤ 4 ∧ Wp E 152 0 [some (.inl a0), some (.inl a1), some (.inr (.inr a2))] [] g μ (fun r g' μ' => (g'.1 = g.1 ∧ g'.2.1 = g.2.1) ∧ Wp E 149 8 ls (mPush r st) g' μ' Q)) := Wp_cS k149_5 m7_1059 (by decide) (as := [.inl a0, .inl a1, .inr (.inr a2)]) rfl rfl rfl ⟨Nat.le_of_ble_eq_true rfl, by decide⟩
theorem k149_8 : mCode 149 8 = some (.pop, 1) := by decide +kernel
theorem x149_8 {E : ME} {ls : MLs} {st : List MV} {g : MG} {μ : MU} {Q : Option MV → MG → MU → Prop} {v : MV} : Wp E 149 8 ls (v :: st) g μ Q = (mC1 v = true ∧ Wp E 149 9 ls st g μ Q) := Wp_pop k149_8
theorem k149_9 : mCode 149 9 = some (.return_, 1) := by decide +kernel
theorem x149_9 {E : ME} {ls : MLs} {g : MG} {μ : MU} {Q : Option MV → MG → MU → Prop} : Wp E 149 9 ls [] g μ Q = Q none g μ := Wp_retV k149_9 (by decide)
theorem k150_0 : mCode 150 0 = some (.iload_n 1, 1) := by decide +kernel
theorem x150_0 {E : ME} {ls : MLs} {st : List MV} {g : MG} {μ : MU} {Q : Option MV → MG → MU → Prop} {l0 : Option MV} {v : Int} : Wp E 150 0 (l0 :: some (.inl v) :: ls) st g μ Q = Wp E 150 1 (l0 :: some (.inl v) :: ls) (.inl v :: st) g μ Q := Wp_nx k150_0 rfl
theorem k150_1 : mCode 150 1 = some (.aload_n 0, 1) := by decide +kernel
theorem x150_1 {E : ME} {ls : MLs} {st : List MV} {g : MG} {μ : MU} {Q : Option MV → MG → MU → Prop} {v : Nat ⊕ Nat} : Wp E 150 1 (some (.inr (.inr v)) :: ls) st g μ Q = Wp E 150 2 (some (.inr (.inr v)) :: ls) (.inr (.inr v) :: st) g μ Q := Wp_nx k150_1 rfl
theorem k150_2 : mCode 150 2 = some (.arraylength, 1) := by decide +kernel
theorem x150_2 {E : ME} {ls : MLs} {st : List MV} {g : MG} {μ : MU} {Q : Option MV → MG → MU → Prop} {a : Nat} : Wp E 150 2 ls (.inr (.inr (.inl a)) :: st) g μ Q = ((10 ≤ (mKd g a).1 ∧ (mKd g a).1 < 15) ∧ Wp E 150 3 ls (.inl (mKd g a).2 :: st) g μ Q) := Wp_alen k150_2
theorem x150_2K {E : ME} {ls : MLs} {st : List MV} {g : MG} {μ : MU} {Q : Option MV → MG → MU → Prop} {c : Nat} : Wp E 150 2 ls (.inr (.inr (.inr c)) :: st) g μ Q = ((mk_isI c = true ∨ mk_isB c = true) ∧ Wp E 150 3 ls (.inl (mk_len E c) :: st) g μ Q) := Wp_alenK k150_2
theorem k150_3 : mCode 150 3 = some (.invokestatic 9, 3) := by decide +kernel
theorem x150_3 {E : ME} {ls : MLs} {st : List MV} {g : MG} {μ : MU} {Q : Option MV → MG → MU → Prop} {a0 : Int} {a1 : Int} : Wp E 150 3 ls (.inl a1 :: .inl a0 :: st) g μ Q = (st.length ≤ 4 ∧ Wp E 149 0 [some (.inl a0), some (.inl a1)] [] g μ (fun r g' μ' => (g'.1 = g.1 ∧ g'.2.1 = g.2.1) ∧ Wp E 150 6 ls (mPush r st) g' μ' Q)) := Wp_cS k150_3 m8_9 (by decide) (as := [.inl a0, .inl a1]) rfl rfl rfl ⟨Nat.le_of_ble_eq_true rfl, by decide⟩
theorem k150_6 : mCode 150 6 = some (.aload_n 0, 1) := by decide +kernel
theorem x150_6 {E : ME} {ls : MLs} {st : List MV} {g : MG} {μ : MU} {Q : Option MV → MG → MU → Prop} {v : Nat ⊕ Nat} : Wp E 150 6 (some (.inr (.inr v)) :: ls) st g μ Q = Wp E 150 7 (some (.inr (.inr v)) :: ls) (.inr (.inr v) :: st) g μ Q := Wp_nx k150_6 rfl
theorem k150_7 : mCode 150 7 = some (.iload_n 1, 1) := by decide +kernel
theorem x150_7 {E : ME} {ls : MLs} {st : List MV} {g : MG} {μ : MU} {Q : Option MV → MG → MU → Prop} {l0 : Option MV} {v : Int} : Wp E 150 7 (l0 :: some (.inl v) :: ls) st g μ Q = Wp E 150 8 (l0 :: some (.inl v) :: ls) (.inl v :: st) g μ Q := Wp_nx k150_7 rfl
theorem k150_8 : mCode 150 8 = some (.baload, 1) := by decide +kernel
theorem x150_8 {E : ME} {ls : MLs} {st : List MV} {g : MG} {μ : MU} {Q : Option MV → MG → MU → Prop} {a : Nat} {j : Int} : Wp E 150 8 ls (.inl j :: .inr (.inr (.inl a)) :: st) g μ Q = (((mKd g a).1 = 12 ∧ 0 ≤ j ∧ j < (mKd g a).2) ∧ Wp E 150 9 ls (.inl (μ a j.toNat) :: st) g μ Q) := Wp_ald k150_8 (fun _ => rfl)
theorem x150_8K {E : ME} {ls : MLs} {st : List MV} {g : MG} {μ : MU} {Q : Option MV → MG → MU → Prop} {c : Nat} {j : Int} : Wp E 150 8 ls (.inl j :: .inr (.inr (.inr c)) :: st) g μ Q = ((mk_isB c = true ∧ 0 ≤ j ∧ j < mk_len E c) ∧ Wp E 150 9 ls (.inl ((mk_txt (c - 20)).getD j.toNat 0) :: st) g μ Q) := Wp_aldB k150_8
theorem k150_9 : mCode 150 9 = some (.sipush 255, 3) := by decide +kernel
theorem x150_9 {E : ME} {ls : MLs} {st : List MV} {g : MG} {μ : MU} {Q : Option MV → MG → MU → Prop} : Wp E 150 9 ls st g μ Q = Wp E 150 12 ls (.inl 255 :: st) g μ Q := Wp_nx k150_9 rfl
theorem k150_12 : mCode 150 12 = some (.iand, 1) := by decide +kernel
theorem x150_12 {E : ME} {ls : MLs} {st : List MV} {g : MG} {μ : MU} {Q : Option MV → MG → MU → Prop} {a b : Int} : Wp E 150 12 ls (.inl b :: .inl a :: st) g μ Q = Wp E 150 13 ls (.inl (mIand a b) :: st) g μ Q := Wp_nx k150_12 rfl
theorem k150_13 : mCode 150 13 = some (.i2c, 1) := by decide +kernel
theorem x150_13 {E : ME} {ls : MLs} {st : List MV} {g : MG} {μ : MU} {Q : Option MV → MG → MU → Prop} {a : Int} : Wp E 150 13 ls (.inl a :: st) g μ Q = Wp E 150 14 ls (.inl (a % 65536) :: st) g μ Q := Wp_nx k150_13 rfl
theorem k150_14 : mCode 150 14 = some (.ireturn, 1) := by decide +kernel
theorem x150_14 {E : ME} {ls : MLs} {g : MG} {μ : MU} {Q : Option MV → MG → MU → Prop} {v : Int} : Wp E 150 14 ls [.inl v] g μ Q = ((0 ≤ v ∧ v < 65536) ∧ Q (some (.inl v)) g μ) := Wp_retC k150_14 (by decide)
theorem k151_0 : mCode 151 0 = some (.iconst 0, 1) := by decide +kernel
theorem x151_0 {E : ME} {ls : MLs} {st : List MV} {g : MG} {μ : MU} {Q : Option MV → MG → MU → Prop} : Wp E 151 0 ls st g μ Q = Wp E 151 1 ls (.inl 0 :: st) g μ Q := Wp_nx k151_0 rfl
theorem k151_1 : mCode 151 1 = some (.istore_n 2, 1) := by decide +kernel
theorem x151_1 {E : ME} {ls : MLs} {st : List MV} {g : MG} {μ : MU} {Q : Option MV → MG → MU → Prop} {l0 l1 : Option MV} {lk : Option MV} {v : Int} : Wp E 151 1 (l0 :: l1 :: lk :: ls) (.inl v :: st) g μ Q = ((mNl (some l1) = true ∧ mNl (some lk) = true) ∧ Wp E 151 2 (l0 :: l1 :: some (.inl v) :: ls) st g μ Q) := Wp_sti k151_1 (fun _ => rfl) rfl rfl rfl
theorem k151_2 : mCode 151 2 = some (.aload_n 0, 1) := by decide +kernel
theorem x151_2 {E : ME} {ls : MLs} {st : List MV} {g : MG} {μ : MU} {Q : Option MV → MG → MU → Prop} {v : Nat ⊕ Nat} : Wp E 151 2 (some (.inr (.inr v)) :: ls) st g μ Q = Wp E 151 3 (some (.inr (.inr v)) :: ls) (.inr (.inr v) :: st) g μ Q := Wp_nx k151_2 rfl
theorem k151_3 : mCode 151 3 = some (.arraylength, 1) := by decide +kernel
theorem x151_3 {E : ME} {ls : MLs} {st : List MV} {g : MG} {μ : MU} {Q : Option MV → MG → MU → Prop} {a : Nat} : Wp E 151 3 ls (.inr (.inr (.inl a)) :: st) g μ Q = ((10 ≤ (mKd g a).1 ∧ (mKd g a).1 < 15) ∧ Wp E 151 4 ls (.inl (mKd g a).2 :: st) g μ Q) := Wp_alen k151_3
theorem x151_3K {E : ME} {ls : MLs} {st : List MV} {g : MG} {μ : MU} {Q : Option MV → MG → MU → Prop} {c : Nat} : Wp E 151 3 ls (.inr (.inr (.inr c)) :: st) g μ Q = ((mk_isI c = true ∨ mk_isB c = true) ∧ Wp E 151 4 ls (.inl (mk_len E c) :: st) g μ Q) := Wp_alenK k151_3
theorem k151_4 : mCode 151 4 = some (.istore_n 3, 1) := by decide +kernel
theorem x151_4 {E : ME} {ls : MLs} {st : List MV} {g : MG} {μ : MU} {Q : Option MV → MG → MU → Prop} {l0 l1 l2 : Option MV} {lk : Option MV} {v : Int} : Wp E 151 4 (l0 :: l1 :: l2 :: lk :: ls) (.inl v :: st) g μ Q = ((mNl (some l2) = true ∧ mNl (some lk) = true) ∧ Wp E 151 5 (l0 :: l1 :: l2 :: some (.inl v) :: ls) st g μ Q) := Wp_sti k151_4 (fun _ => rfl) rfl rfl rfl
theorem k151_5 : mCode 151 5 = some (.iload_n 2, 1) := by decide +kernel
theorem x151_5 {E : ME} {ls : MLs} {st : List MV} {g : MG} {μ : MU} {Q : Option MV → MG → MU → Prop} {l0 l1 : Option MV} {v : Int} : Wp E 151 5 (l0 :: l1 :: some (.inl v) :: ls) st g μ Q = Wp E 151 6 (l0 :: l1 :: some (.inl v) :: ls) (.inl v :: st) g μ Q := Wp_nx k151_5 rfl
theorem k151_6 : mCode 151 6 = some (.iload_n 3, 1) := by decide +kernel
theorem x151_6 {E : ME} {ls : MLs} {st : List MV} {g : MG} {μ : MU} {Q : Option MV → MG → MU → Prop} {l0 l1 l2 : Option MV} {v : Int} : Wp E 151 6 (l0 :: l1 :: l2 :: some (.inl v) :: ls) st g μ Q = Wp E 151 7 (l0 :: l1 :: l2 :: some (.inl v) :: ls) (.inl v :: st) g μ Q := Wp_nx k151_6 rfl
theorem k151_7 : mCode 151 7 = some (.if_icmp .ge 13, 3) := by decide +kernel
theorem x151_7 {E : ME} {ls : MLs} {st : List MV} {g : MG} {μ : MU} {Q : Option MV → MG → MU → Prop} {a b : Int} : Wp E 151 7 ls (.inl b :: .inl a :: st) g μ Q = ((b ≤ a → Wp E 151 20 ls st g μ Q) ∧ (a < b → Wp E 151 10 ls st g μ Q)) := Wp_cmp_ge k151_7 (by decide)
theorem k151_10 : mCode 151 10 = some (.aload_n 0, 1) := by decide +kernel
theorem x151_10 {E : ME} {ls : MLs} {st : List MV} {g : MG} {μ : MU} {Q : Option MV → MG → MU → Prop} {v : Nat ⊕ Nat} : Wp E 151 10 (some (.inr (.inr v)) :: ls) st g μ Q = Wp E 151 11 (some (.inr (.inr v)) :: ls) (.inr (.inr v) :: st) g μ Q := Wp_nx k151_10 rfl
theorem k151_11 : mCode 151 11 = some (.iload_n 2, 1) := by decide +kernel
theorem x151_11 {E : ME} {ls : MLs} {st : List MV} {g : MG} {μ : MU} {Q : Option MV → MG → MU → Prop} {l0 l1 : Option MV} {v : Int} : Wp E 151 11 (l0 :: l1 :: some (.inl v) :: ls) st g μ Q = Wp E 151 12 (l0 :: l1 :: some (.inl v) :: ls) (.inl v :: st) g μ Q := Wp_nx k151_11 rfl
theorem k151_12 : mCode 151 12 = some (.iload_n 1, 1) := by decide +kernel
theorem x151_12 {E : ME} {ls : MLs} {st : List MV} {g : MG} {μ : MU} {Q : Option MV → MG → MU → Prop} {l0 : Option MV} {v : Int} : Wp E 151 12 (l0 :: some (.inl v) :: ls) st g μ Q = Wp E 151 13 (l0 :: some (.inl v) :: ls) (.inl v :: st) g μ Q := Wp_nx k151_12 rfl
theorem k151_13 : mCode 151 13 = some (.iastore, 1) := by decide +kernel
theorem x151_13 {E : ME} {ls : MLs} {st : List MV} {g : MG} {μ : MU} {Q : Option MV → MG → MU → Prop} {a : Nat} {j v : Int} : Wp E 151 13 ls (.inl v :: .inl j :: .inr (.inr (.inl a)) :: st) g μ Q = (((mKd g a).1 = 10 ∧ 0 ≤ j ∧ j < (mKd g a).2) ∧ Wp E 151 14 ls st g (mUp μ a j.toNat v) Q) := Wp_iast k151_13
theorem k151_14 : mCode 151 14 = some (.iinc 2 1, 3) := by decide +kernel
theorem x151_14 {E : ME} {ls : MLs} {st : List MV} {g : MG} {μ : MU} {Q : Option MV → MG → MU → Prop} {l0 l1 : Option MV} {v : Int} : Wp E 151 14 (l0 :: l1 :: some (.inl v) :: ls) st g μ Q = (mNl (some l1) = true ∧ Wp E 151 17 (l0 :: l1 :: some (.inl (mWr (v + 1))) :: ls) st g μ Q) := Wp_inc k151_14 rfl rfl rfl
theorem k151_17 : mCode 151 17 = some (.goto (-12), 3) := by decide +kernel
theorem x151_17 {E : ME} {ls : MLs} {st : List MV} {g : MG} {μ : MU} {Q : Option MV → MG → MU → Prop} : Wp E 151 17 ls st g μ Q = Wp E 151 5 ls st g μ Q := Wp_goto k151_17 (by decide)
theorem k151_20 : mCode 151 20 = some (.return_, 1) := by decide +kernel
theorem x151_20 {E : ME} {ls : MLs} {g : MG} {μ : MU} {Q : Option MV → MG → MU → Prop} : Wp E 151 20 ls [] g μ Q = Q none g μ := Wp_retV k151_20 (by decide)
theorem k152_0 : mCode 152 0 = some (.iload_n 0, 1) := by decide +kernel
theorem x152_0 {E : ME} {ls : MLs} {st : List MV} {g : MG} {μ : MU} {Q : Option MV → MG → MU → Prop} {v : Int} : Wp E 152 0 (some (.inl v) :: ls) st g μ Q = Wp E 152 1 (some (.inl v) :: ls) (.inl v :: st) g μ Q := Wp_nx k152_0 rfl
theorem k152_1 : mCode 152 1 = some (.ifCond .lt 8, 3) := by decide +kernel
theorem x152_1 {E : ME} {ls : MLs} {st : List MV} {g : MG} {μ : MU} {Q : Option MV → MG → MU → Prop} {a : Int} : Wp E 152 1 ls (.inl a :: st) g μ Q = ((a < 0 → Wp E 152 9 ls st g μ Q) ∧ (0 ≤ a → Wp E 152 4 ls st g μ Q)) := Wp_if_lt k152_1 (by decide)
theorem k152_4 : mCode 152 4 = some (.iload_n 0, 1) := by decide +kernel
theorem x152_4 {E : ME} {ls : MLs} {st : List MV} {g : MG} {μ : MU} {Q : Option MV → MG → MU → Prop} {v : Int} : Wp E 152 4 (some (.inl v) :: ls) st g μ Q = Wp E 152 5 (some (.inl v) :: ls) (.inl v :: st) g μ Q := Wp_nx k152_4 rfl
theorem k152_5 : mCode 152 5 = some (.iload_n 1, 1) := by decide +kernel
theorem x152_5 {E : ME} {ls : MLs} {st : List MV} {g : MG} {μ : MU} {Q : Option MV → MG → MU → Prop} {l0 : Option MV} {v : Int} : Wp E 152 5 (l0 :: some (.inl v) :: ls) st g μ Q = Wp E 152 6 (l0 :: some (.inl v) :: ls) (.inl v :: st) g μ Q := Wp_nx k152_5 rfl
theorem k152_6 : mCode 152 6 = some (.if_icmp .lt 10, 3) := by decide +kernel
theorem x152_6 {E : ME} {ls : MLs} {st : List MV} {g : MG} {μ : MU} {Q : Option MV → MG → MU → Prop} {a b : Int} : Wp E 152 6 ls (.inl b :: .inl a :: st) g μ Q = ((a < b → Wp E 152 16 ls st g μ Q) ∧ (b ≤ a → Wp E 152 9 ls st g μ Q)) := Wp_cmp_lt k152_6 (by decide)
theorem k152_9 : mCode 152 9 = some (.aload_n 2, 1) := by decide +kernel
theorem x152_9 {E : ME} {ls : MLs} {st : List MV} {g : MG} {μ : MU} {Q : Option MV → MG → MU → Prop} {l0 l1 : Option MV} {v : Nat ⊕ Nat} : Wp E 152 9 (l0 :: l1 :: some (.inr (.inr v)) :: ls) st g μ Q = Wp E 152 10 (l0 :: l1 :: some (.inr (.inr v)) :: ls) (.inr (.inr v) :: st) g μ Q := Wp_nx k152_9 rfl
theorem k152_10 : mCode 152 10 = some (.iload_n 0, 1) := by decide +kernel
theorem x152_10 {E : ME} {ls : MLs} {st : List MV} {g : MG} {μ : MU} {Q : Option MV → MG → MU → Prop} {v : Int} : Wp E 152 10 (some (.inl v) :: ls) st g μ Q = Wp E 152 11 (some (.inl v) :: ls) (.inl v :: st) g μ Q := Wp_nx k152_10 rfl
theorem k152_11 : mCode 152 11 = some (.iload_n 1, 1) := by decide +kernel
theorem x152_11 {E : ME} {ls : MLs} {st : List MV} {g : MG} {μ : MU} {Q : Option MV → MG → MU → Prop} {l0 : Option MV} {v : Int} : Wp E 152 11 (l0 :: some (.inl v) :: ls) st g μ Q = Wp E 152 12 (l0 :: some (.inl v) :: ls) (.inl v :: st) g μ Q := Wp_nx k152_11 rfl
theorem k152_12 : mCode 152 12 = some (.invokestatic 95, 3) := by decide +kernel
theorem k152_15 : mCode 152 15 = some (.athrow, 1) := by decide +kernel
theorem k152_16 : mCode 152 16 = some (.iload_n 0, 1) := by decide +kernel
theorem x152_16 {E : ME} {ls : MLs} {st : List MV} {g : MG} {μ : MU} {Q : Option MV → MG → MU → Prop} {v : Int} : Wp E 152 16 (some (.inl v) :: ls) st g μ Q = Wp E 152 17 (some (.inl v) :: ls) (.inl v :: st) g μ Q := Wp_nx k152_16 rfl
theorem k152_17 : mCode 152 17 = some (.ireturn, 1) := by decide +kernel
theorem x152_17 {E : ME} {ls : MLs} {g : MG} {μ : MU} {Q : Option MV → MG → MU → Prop} {v : Int} : Wp E 152 17 ls [.inl v] g μ Q = Q (some (.inl v)) g μ := Wp_retI k152_17 (by decide)
