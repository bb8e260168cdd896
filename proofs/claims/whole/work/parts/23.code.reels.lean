theorem k39_0 : mCode 39 0 = some (.aload_n 0, 1) := by decide +kernel
theorem x39_0 {E : ME} {ls : MLs} {st : List MV} {g : MG} {μ : MU} {Q : Option MV → MG → MU → Prop} {v : Nat ⊕ Nat} : Wp E 39 0 (some (.inr (.inr v)) :: ls) st g μ Q = Wp E 39 1 (some (.inr (.inr v)) :: ls) (.inr (.inr v) :: st) g μ Q := Wp_nx k39_0 rfl
theorem k39_1 : mCode 39 1 = some (.invokespecial 1, 3) := by decide +kernel
theorem x39_1 {E : ME} {ls : MLs} {st : List MV} {g : MG} {μ : MU} {Q : Option MV → MG → MU → Prop} {a : Nat} : Wp E 39 1 ls (.inr (.inr (.inl a)) :: st) g μ Q = (st.length ≤ 4 ∧ Wp E 39 4 ls st g μ Q) := Wp_oin k39_1 m5_1
theorem k39_4 : mCode 39 4 = some (.aload_n 0, 1) := by decide +kernel
theorem x39_4 {E : ME} {ls : MLs} {st : List MV} {g : MG} {μ : MU} {Q : Option MV → MG → MU → Prop} {v : Nat ⊕ Nat} : Wp E 39 4 (some (.inr (.inr v)) :: ls) st g μ Q = Wp E 39 5 (some (.inr (.inr v)) :: ls) (.inr (.inr v) :: st) g μ Q := Wp_nx k39_4 rfl
theorem k39_5 : mCode 39 5 = some (.new 7, 3) := by decide +kernel
theorem x39_5 {E : ME} {ls : MLs} {st : List MV} {g : MG} {μ : MU} {Q : Option MV → MG → MU → Prop} : Wp E 39 5 ls st g μ Q = Wp E 39 8 ls (mR g.1 :: st) (mGrow g (0, 0) 12) (mZero μ g.1) Q := Wp_new (ci := 0) k39_5 (by decide +kernel)
theorem k39_8 : mCode 39 8 = some (.dup, 1) := by decide +kernel
theorem x39_8 {E : ME} {ls : MLs} {st : List MV} {g : MG} {μ : MU} {Q : Option MV → MG → MU → Prop} {v : MV} : Wp E 39 8 ls (v :: st) g μ Q = (mC1 v = true ∧ Wp E 39 9 ls (v :: v :: st) g μ Q) := Wp_dup k39_8
theorem k39_9 : mCode 39 9 = some (.invokespecial 9, 3) := by decide +kernel
theorem x39_9 {E : ME} {ls : MLs} {st : List MV} {g : MG} {μ : MU} {Q : Option MV → MG → MU → Prop} {r : Nat} : Wp E 39 9 ls (.inr (.inr (.inl r)) :: st) g μ Q = ((st.length ≤ 4 ∧ ((mKd g r).1 == 0) = true) ∧ Wp E 0 0 [some (.inr (.inr (.inl r))), none] [] g μ (fun r g' μ' => (g'.1 = g.1 + 10 ∧ g'.2.1 = g.2.1 + 146) ∧ Wp E 39 12 ls (mPush r st) g' μ' Q)) := Wp_cI (w := 0) k39_9 m5_9 (by decide) (by decide) (as := [.inr (.inr (.inl r))]) rfl rfl rfl ⟨Nat.le_of_ble_eq_true rfl, by decide⟩
theorem k39_12 : mCode 39 12 = some (.putfield 10, 3) := by decide +kernel
theorem x39_12 {E : ME} {ls : MLs} {st : List MV} {g : MG} {μ : MU} {Q : Option MV → MG → MU → Prop} {a b : Nat} : Wp E 39 12 ls (.inr (.inr (.inl b)) :: .inr (.inr (.inl a)) :: st) g μ Q = ((mKd g a).1 = 5 ∧ Wp E 39 15 ls st (mSetR g a 0 (some b)) μ Q) := Wp_putR k39_12 f5_10 (by decide) (by decide) (by decide)
theorem k39_15 : mCode 39 15 = some (.aload_n 0, 1) := by decide +kernel
theorem x39_15 {E : ME} {ls : MLs} {st : List MV} {g : MG} {μ : MU} {Q : Option MV → MG → MU → Prop} {v : Nat ⊕ Nat} : Wp E 39 15 (some (.inr (.inr v)) :: ls) st g μ Q = Wp E 39 16 (some (.inr (.inr v)) :: ls) (.inr (.inr v) :: st) g μ Q := Wp_nx k39_15 rfl
theorem k39_16 : mCode 39 16 = some (.new 16, 3) := by decide +kernel
theorem x39_16 {E : ME} {ls : MLs} {st : List MV} {g : MG} {μ : MU} {Q : Option MV → MG → MU → Prop} : Wp E 39 16 ls st g μ Q = Wp E 39 19 ls (mR g.1 :: st) (mGrow g (3, 0) 11) (mZero μ g.1) Q := Wp_new (ci := 3) k39_16 (by decide +kernel)
theorem k39_19 : mCode 39 19 = some (.dup, 1) := by decide +kernel
theorem x39_19 {E : ME} {ls : MLs} {st : List MV} {g : MG} {μ : MU} {Q : Option MV → MG → MU → Prop} {v : MV} : Wp E 39 19 ls (v :: st) g μ Q = (mC1 v = true ∧ Wp E 39 20 ls (v :: v :: st) g μ Q) := Wp_dup k39_19
theorem k39_20 : mCode 39 20 = some (.invokespecial 18, 3) := by decide +kernel
theorem x39_20 {E : ME} {ls : MLs} {st : List MV} {g : MG} {μ : MU} {Q : Option MV → MG → MU → Prop} {r : Nat} : Wp E 39 20 ls (.inr (.inr (.inl r)) :: st) g μ Q = ((st.length ≤ 4 ∧ ((mKd g r).1 == 3) = true) ∧ Wp E 27 0 [some (.inr (.inr (.inl r))), none] [] g μ (fun r g' μ' => (g'.1 = g.1 + 36 ∧ g'.2.1 = g.2.1 + 455) ∧ Wp E 39 23 ls (mPush r st) g' μ' Q)) := Wp_cI (w := 3) k39_20 m5_18 (by decide) (by decide) (as := [.inr (.inr (.inl r))]) rfl rfl rfl ⟨Nat.le_of_ble_eq_true rfl, by decide⟩
theorem k39_23 : mCode 39 23 = some (.putfield 19, 3) := by decide +kernel
theorem x39_23 {E : ME} {ls : MLs} {st : List MV} {g : MG} {μ : MU} {Q : Option MV → MG → MU → Prop} {a b : Nat} : Wp E 39 23 ls (.inr (.inr (.inl b)) :: .inr (.inr (.inl a)) :: st) g μ Q = ((mKd g a).1 = 5 ∧ Wp E 39 26 ls st (mSetR g a 1 (some b)) μ Q) := Wp_putR k39_23 f5_19 (by decide) (by decide) (by decide)
theorem k39_26 : mCode 39 26 = some (.aload_n 0, 1) := by decide +kernel
theorem x39_26 {E : ME} {ls : MLs} {st : List MV} {g : MG} {μ : MU} {Q : Option MV → MG → MU → Prop} {v : Nat ⊕ Nat} : Wp E 39 26 (some (.inr (.inr v)) :: ls) st g μ Q = Wp E 39 27 (some (.inr (.inr v)) :: ls) (.inr (.inr v) :: st) g μ Q := Wp_nx k39_26 rfl
theorem k39_27 : mCode 39 27 = some (.new 23, 3) := by decide +kernel
theorem x39_27 {E : ME} {ls : MLs} {st : List MV} {g : MG} {μ : MU} {Q : Option MV → MG → MU → Prop} : Wp E 39 27 ls st g μ Q = Wp E 39 30 ls (mR g.1 :: st) (mGrow g (1, 0) 3) (mZero μ g.1) Q := Wp_new (ci := 1) k39_27 (by decide +kernel)
theorem k39_30 : mCode 39 30 = some (.dup, 1) := by decide +kernel
theorem x39_30 {E : ME} {ls : MLs} {st : List MV} {g : MG} {μ : MU} {Q : Option MV → MG → MU → Prop} {v : MV} : Wp E 39 30 ls (v :: st) g μ Q = (mC1 v = true ∧ Wp E 39 31 ls (v :: v :: st) g μ Q) := Wp_dup k39_30
theorem k39_31 : mCode 39 31 = some (.invokespecial 25, 3) := by decide +kernel
theorem x39_31 {E : ME} {ls : MLs} {st : List MV} {g : MG} {μ : MU} {Q : Option MV → MG → MU → Prop} {r : Nat} : Wp E 39 31 ls (.inr (.inr (.inl r)) :: st) g μ Q = ((st.length ≤ 4 ∧ ((mKd g r).1 == 1) = true) ∧ Wp E 14 0 [some (.inr (.inr (.inl r))), none] [] g μ (fun r g' μ' => (g'.1 = g.1 + 78 ∧ g'.2.1 = g.2.1 + 1113) ∧ Wp E 39 34 ls (mPush r st) g' μ' Q)) := Wp_cI (w := 1) k39_31 m5_25 (by decide) (by decide) (as := [.inr (.inr (.inl r))]) rfl rfl rfl ⟨Nat.le_of_ble_eq_true rfl, by decide⟩
theorem k39_34 : mCode 39 34 = some (.putfield 26, 3) := by decide +kernel
theorem x39_34 {E : ME} {ls : MLs} {st : List MV} {g : MG} {μ : MU} {Q : Option MV → MG → MU → Prop} {a b : Nat} : Wp E 39 34 ls (.inr (.inr (.inl b)) :: .inr (.inr (.inl a)) :: st) g μ Q = ((mKd g a).1 = 5 ∧ Wp E 39 37 ls st (mSetR g a 2 (some b)) μ Q) := Wp_putR k39_34 f5_26 (by decide) (by decide) (by decide)
theorem k39_37 : mCode 39 37 = some (.aload_n 0, 1) := by decide +kernel
theorem x39_37 {E : ME} {ls : MLs} {st : List MV} {g : MG} {μ : MU} {Q : Option MV → MG → MU → Prop} {v : Nat ⊕ Nat} : Wp E 39 37 (some (.inr (.inr v)) :: ls) st g μ Q = Wp E 39 38 (some (.inr (.inr v)) :: ls) (.inr (.inr v) :: st) g μ Q := Wp_nx k39_37 rfl
theorem k39_38 : mCode 39 38 = some (.new 30, 3) := by decide +kernel
theorem x39_38 {E : ME} {ls : MLs} {st : List MV} {g : MG} {μ : MU} {Q : Option MV → MG → MU → Prop} : Wp E 39 38 ls st g μ Q = Wp E 39 41 ls (mR g.1 :: st) (mGrow g (2, 0) 6) (mZero μ g.1) Q := Wp_new (ci := 2) k39_38 (by decide +kernel)
theorem k39_41 : mCode 39 41 = some (.dup, 1) := by decide +kernel
theorem x39_41 {E : ME} {ls : MLs} {st : List MV} {g : MG} {μ : MU} {Q : Option MV → MG → MU → Prop} {v : MV} : Wp E 39 41 ls (v :: st) g μ Q = (mC1 v = true ∧ Wp E 39 42 ls (v :: v :: st) g μ Q) := Wp_dup k39_41
theorem k39_42 : mCode 39 42 = some (.invokespecial 32, 3) := by decide +kernel
theorem x39_42 {E : ME} {ls : MLs} {st : List MV} {g : MG} {μ : MU} {Q : Option MV → MG → MU → Prop} {r : Nat} : Wp E 39 42 ls (.inr (.inr (.inl r)) :: st) g μ Q = ((st.length ≤ 4 ∧ ((mKd g r).1 == 2) = true) ∧ Wp E 18 0 [some (.inr (.inr (.inl r)))] [] g μ (fun r g' μ' => (g'.1 = g.1 + 2 ∧ g'.2.1 = g.2.1 + 84) ∧ Wp E 39 45 ls (mPush r st) g' μ' Q)) := Wp_cI (w := 2) k39_42 m5_32 (by decide) (by decide) (as := [.inr (.inr (.inl r))]) rfl rfl rfl ⟨Nat.le_of_ble_eq_true rfl, by decide⟩
theorem k39_45 : mCode 39 45 = some (.putfield 33, 3) := by decide +kernel
theorem x39_45 {E : ME} {ls : MLs} {st : List MV} {g : MG} {μ : MU} {Q : Option MV → MG → MU → Prop} {a b : Nat} : Wp E 39 45 ls (.inr (.inr (.inl b)) :: .inr (.inr (.inl a)) :: st) g μ Q = ((mKd g a).1 = 5 ∧ Wp E 39 48 ls st (mSetR g a 3 (some b)) μ Q) := Wp_putR k39_45 f5_33 (by decide) (by decide) (by decide)
theorem k39_48 : mCode 39 48 = some (.aload_n 0, 1) := by decide +kernel
theorem x39_48 {E : ME} {ls : MLs} {st : List MV} {g : MG} {μ : MU} {Q : Option MV → MG → MU → Prop} {v : Nat ⊕ Nat} : Wp E 39 48 (some (.inr (.inr v)) :: ls) st g μ Q = Wp E 39 49 (some (.inr (.inr v)) :: ls) (.inr (.inr v) :: st) g μ Q := Wp_nx k39_48 rfl
theorem k39_49 : mCode 39 49 = some (.iconst 2, 1) := by decide +kernel
theorem x39_49 {E : ME} {ls : MLs} {st : List MV} {g : MG} {μ : MU} {Q : Option MV → MG → MU → Prop} : Wp E 39 49 ls st g μ Q = Wp E 39 50 ls (.inl 2 :: st) g μ Q := Wp_nx k39_49 rfl
theorem k39_50 : mCode 39 50 = some (.anewarray 7, 3) := by decide +kernel
theorem x39_50 {E : ME} {ls : MLs} {st : List MV} {g : MG} {μ : MU} {Q : Option MV → MG → MU → Prop} {n : Int} : Wp E 39 50 ls (.inl n :: st) g μ Q = ((0 ≤ n ∧ n < 2000) ∧ Wp E 39 53 ls (mR g.1 :: st) (mGrow g (13, n.toNat) n.toNat) (mZero μ g.1) Q) := Wp_anew (ci := 0) k39_50 (by decide +kernel) (by decide)
theorem k39_53 : mCode 39 53 = some (.putfield 37, 3) := by decide +kernel
theorem x39_53 {E : ME} {ls : MLs} {st : List MV} {g : MG} {μ : MU} {Q : Option MV → MG → MU → Prop} {a b : Nat} : Wp E 39 53 ls (.inr (.inr (.inl b)) :: .inr (.inr (.inl a)) :: st) g μ Q = ((mKd g a).1 = 5 ∧ Wp E 39 56 ls st (mSetR g a 4 (some b)) μ Q) := Wp_putR k39_53 f5_37 (by decide) (by decide) (by decide)
theorem k39_56 : mCode 39 56 = some (.aload_n 0, 1) := by decide +kernel
theorem x39_56 {E : ME} {ls : MLs} {st : List MV} {g : MG} {μ : MU} {Q : Option MV → MG → MU → Prop} {v : Nat ⊕ Nat} : Wp E 39 56 (some (.inr (.inr v)) :: ls) st g μ Q = Wp E 39 57 (some (.inr (.inr v)) :: ls) (.inr (.inr v) :: st) g μ Q := Wp_nx k39_56 rfl
theorem k39_57 : mCode 39 57 = some (.iconst 2, 1) := by decide +kernel
theorem x39_57 {E : ME} {ls : MLs} {st : List MV} {g : MG} {μ : MU} {Q : Option MV → MG → MU → Prop} : Wp E 39 57 ls st g μ Q = Wp E 39 58 ls (.inl 2 :: st) g μ Q := Wp_nx k39_57 rfl
theorem k39_58 : mCode 39 58 = some (.newarray .boolean, 2) := by decide +kernel
theorem x39_58 {E : ME} {ls : MLs} {st : List MV} {g : MG} {μ : MU} {Q : Option MV → MG → MU → Prop} {n : Int} : Wp E 39 58 ls (.inl n :: st) g μ Q = ((0 ≤ n ∧ n < 2000) ∧ Wp E 39 60 ls (mR g.1 :: st) (mGrow g (12, n.toNat) n.toNat) (mZero μ g.1) Q) := Wp_newa k39_58 (fun _ => rfl)
theorem k39_60 : mCode 39 60 = some (.putfield 41, 3) := by decide +kernel
theorem x39_60 {E : ME} {ls : MLs} {st : List MV} {g : MG} {μ : MU} {Q : Option MV → MG → MU → Prop} {a b : Nat} : Wp E 39 60 ls (.inr (.inr (.inl b)) :: .inr (.inr (.inl a)) :: st) g μ Q = ((mKd g a).1 = 5 ∧ Wp E 39 63 ls st (mSetR g a 5 (some b)) μ Q) := Wp_putR k39_60 f5_41 (by decide) (by decide) (by decide)
theorem k39_63 : mCode 39 63 = some (.aload_n 0, 1) := by decide +kernel
theorem x39_63 {E : ME} {ls : MLs} {st : List MV} {g : MG} {μ : MU} {Q : Option MV → MG → MU → Prop} {v : Nat ⊕ Nat} : Wp E 39 63 (some (.inr (.inr v)) :: ls) st g μ Q = Wp E 39 64 (some (.inr (.inr v)) :: ls) (.inr (.inr v) :: st) g μ Q := Wp_nx k39_63 rfl
theorem k39_64 : mCode 39 64 = some (.new 7, 3) := by decide +kernel
theorem x39_64 {E : ME} {ls : MLs} {st : List MV} {g : MG} {μ : MU} {Q : Option MV → MG → MU → Prop} : Wp E 39 64 ls st g μ Q = Wp E 39 67 ls (mR g.1 :: st) (mGrow g (0, 0) 12) (mZero μ g.1) Q := Wp_new (ci := 0) k39_64 (by decide +kernel)
theorem k39_67 : mCode 39 67 = some (.dup, 1) := by decide +kernel
theorem x39_67 {E : ME} {ls : MLs} {st : List MV} {g : MG} {μ : MU} {Q : Option MV → MG → MU → Prop} {v : MV} : Wp E 39 67 ls (v :: st) g μ Q = (mC1 v = true ∧ Wp E 39 68 ls (v :: v :: st) g μ Q) := Wp_dup k39_67
theorem k39_68 : mCode 39 68 = some (.invokespecial 9, 3) := by decide +kernel
theorem x39_68 {E : ME} {ls : MLs} {st : List MV} {g : MG} {μ : MU} {Q : Option MV → MG → MU → Prop} {r : Nat} : Wp E 39 68 ls (.inr (.inr (.inl r)) :: st) g μ Q = ((st.length ≤ 4 ∧ ((mKd g r).1 == 0) = true) ∧ Wp E 0 0 [some (.inr (.inr (.inl r))), none] [] g μ (fun r g' μ' => (g'.1 = g.1 + 10 ∧ g'.2.1 = g.2.1 + 146) ∧ Wp E 39 71 ls (mPush r st) g' μ' Q)) := Wp_cI (w := 0) k39_68 m5_9 (by decide) (by decide) (as := [.inr (.inr (.inl r))]) rfl rfl rfl ⟨Nat.le_of_ble_eq_true rfl, by decide⟩
theorem k39_71 : mCode 39 71 = some (.putfield 45, 3) := by decide +kernel
theorem x39_71 {E : ME} {ls : MLs} {st : List MV} {g : MG} {μ : MU} {Q : Option MV → MG → MU → Prop} {a b : Nat} : Wp E 39 71 ls (.inr (.inr (.inl b)) :: .inr (.inr (.inl a)) :: st) g μ Q = ((mKd g a).1 = 5 ∧ Wp E 39 74 ls st (mSetR g a 6 (some b)) μ Q) := Wp_putR k39_71 f5_45 (by decide) (by decide) (by decide)
theorem k39_74 : mCode 39 74 = some (.aload_n 0, 1) := by decide +kernel
theorem x39_74 {E : ME} {ls : MLs} {st : List MV} {g : MG} {μ : MU} {Q : Option MV → MG → MU → Prop} {v : Nat ⊕ Nat} : Wp E 39 74 (some (.inr (.inr v)) :: ls) st g μ Q = Wp E 39 75 (some (.inr (.inr v)) :: ls) (.inr (.inr v) :: st) g μ Q := Wp_nx k39_74 rfl
theorem k39_75 : mCode 39 75 = some (.new 48, 3) := by decide +kernel
theorem x39_75 {E : ME} {ls : MLs} {st : List MV} {g : MG} {μ : MU} {Q : Option MV → MG → MU → Prop} : Wp E 39 75 ls st g μ Q = Wp E 39 78 ls (mR g.1 :: st) (mGrow g (4, 0) 9) (mZero μ g.1) Q := Wp_new (ci := 4) k39_75 (by decide +kernel)
theorem k39_78 : mCode 39 78 = some (.dup, 1) := by decide +kernel
theorem x39_78 {E : ME} {ls : MLs} {st : List MV} {g : MG} {μ : MU} {Q : Option MV → MG → MU → Prop} {v : MV} : Wp E 39 78 ls (v :: st) g μ Q = (mC1 v = true ∧ Wp E 39 79 ls (v :: v :: st) g μ Q) := Wp_dup k39_78
theorem k39_79 : mCode 39 79 = some (.invokespecial 50, 3) := by decide +kernel
theorem x39_79 {E : ME} {ls : MLs} {st : List MV} {g : MG} {μ : MU} {Q : Option MV → MG → MU → Prop} {r : Nat} : Wp E 39 79 ls (.inr (.inr (.inl r)) :: st) g μ Q = ((st.length ≤ 4 ∧ ((mKd g r).1 == 4) = true) ∧ Wp E 34 0 [some (.inr (.inr (.inl r)))] [] g μ (fun r g' μ' => (g'.1 = g.1 + 4 ∧ g'.2.1 = g.2.1 + 24) ∧ Wp E 39 82 ls (mPush r st) g' μ' Q)) := Wp_cI (w := 4) k39_79 m5_50 (by decide) (by decide) (as := [.inr (.inr (.inl r))]) rfl rfl rfl ⟨Nat.le_of_ble_eq_true rfl, by decide⟩
theorem k39_82 : mCode 39 82 = some (.putfield 51, 3) := by decide +kernel
theorem x39_82 {E : ME} {ls : MLs} {st : List MV} {g : MG} {μ : MU} {Q : Option MV → MG → MU → Prop} {a b : Nat} : Wp E 39 82 ls (.inr (.inr (.inl b)) :: .inr (.inr (.inl a)) :: st) g μ Q = ((mKd g a).1 = 5 ∧ Wp E 39 85 ls st (mSetR g a 7 (some b)) μ Q) := Wp_putR k39_82 f5_51 (by decide) (by decide) (by decide)
theorem k39_85 : mCode 39 85 = some (.aload_n 0, 1) := by decide +kernel
theorem x39_85 {E : ME} {ls : MLs} {st : List MV} {g : MG} {μ : MU} {Q : Option MV → MG → MU → Prop} {v : Nat ⊕ Nat} : Wp E 39 85 (some (.inr (.inr v)) :: ls) st g μ Q = Wp E 39 86 (some (.inr (.inr v)) :: ls) (.inr (.inr v) :: st) g μ Q := Wp_nx k39_85 rfl
theorem k39_86 : mCode 39 86 = some (.new 48, 3) := by decide +kernel
theorem x39_86 {E : ME} {ls : MLs} {st : List MV} {g : MG} {μ : MU} {Q : Option MV → MG → MU → Prop} : Wp E 39 86 ls st g μ Q = Wp E 39 89 ls (mR g.1 :: st) (mGrow g (4, 0) 9) (mZero μ g.1) Q := Wp_new (ci := 4) k39_86 (by decide +kernel)
theorem k39_89 : mCode 39 89 = some (.dup, 1) := by decide +kernel
theorem x39_89 {E : ME} {ls : MLs} {st : List MV} {g : MG} {μ : MU} {Q : Option MV → MG → MU → Prop} {v : MV} : Wp E 39 89 ls (v :: st) g μ Q = (mC1 v = true ∧ Wp E 39 90 ls (v :: v :: st) g μ Q) := Wp_dup k39_89
theorem k39_90 : mCode 39 90 = some (.invokespecial 50, 3) := by decide +kernel
theorem x39_90 {E : ME} {ls : MLs} {st : List MV} {g : MG} {μ : MU} {Q : Option MV → MG → MU → Prop} {r : Nat} : Wp E 39 90 ls (.inr (.inr (.inl r)) :: st) g μ Q = ((st.length ≤ 4 ∧ ((mKd g r).1 == 4) = true) ∧ Wp E 34 0 [some (.inr (.inr (.inl r)))] [] g μ (fun r g' μ' => (g'.1 = g.1 + 4 ∧ g'.2.1 = g.2.1 + 24) ∧ Wp E 39 93 ls (mPush r st) g' μ' Q)) := Wp_cI (w := 4) k39_90 m5_50 (by decide) (by decide) (as := [.inr (.inr (.inl r))]) rfl rfl rfl ⟨Nat.le_of_ble_eq_true rfl, by decide⟩
theorem k39_93 : mCode 39 93 = some (.putfield 55, 3) := by decide +kernel
theorem x39_93 {E : ME} {ls : MLs} {st : List MV} {g : MG} {μ : MU} {Q : Option MV → MG → MU → Prop} {a b : Nat} : Wp E 39 93 ls (.inr (.inr (.inl b)) :: .inr (.inr (.inl a)) :: st) g μ Q = ((mKd g a).1 = 5 ∧ Wp E 39 96 ls st (mSetR g a 8 (some b)) μ Q) := Wp_putR k39_93 f5_55 (by decide) (by decide) (by decide)
theorem k39_96 : mCode 39 96 = some (.iconst 0, 1) := by decide +kernel
theorem x39_96 {E : ME} {ls : MLs} {st : List MV} {g : MG} {μ : MU} {Q : Option MV → MG → MU → Prop} : Wp E 39 96 ls st g μ Q = Wp E 39 97 ls (.inl 0 :: st) g μ Q := Wp_nx k39_96 rfl
theorem k39_97 : mCode 39 97 = some (.istore_n 1, 1) := by decide +kernel
theorem x39_97 {E : ME} {ls : MLs} {st : List MV} {g : MG} {μ : MU} {Q : Option MV → MG → MU → Prop} {l0 : Option MV} {lk : Option MV} {v : Int} : Wp E 39 97 (l0 :: lk :: ls) (.inl v :: st) g μ Q = ((mNl (some l0) = true ∧ mNl (some lk) = true) ∧ Wp E 39 98 (l0 :: some (.inl v) :: ls) st g μ Q) := Wp_sti k39_97 (fun _ => rfl) rfl rfl rfl
theorem k39_98 : mCode 39 98 = some (.iload_n 1, 1) := by decide +kernel
theorem x39_98 {E : ME} {ls : MLs} {st : List MV} {g : MG} {μ : MU} {Q : Option MV → MG → MU → Prop} {l0 : Option MV} {v : Int} : Wp E 39 98 (l0 :: some (.inl v) :: ls) st g μ Q = Wp E 39 99 (l0 :: some (.inl v) :: ls) (.inl v :: st) g μ Q := Wp_nx k39_98 rfl
theorem k39_99 : mCode 39 99 = some (.iconst 2, 1) := by decide +kernel
theorem x39_99 {E : ME} {ls : MLs} {st : List MV} {g : MG} {μ : MU} {Q : Option MV → MG → MU → Prop} : Wp E 39 99 ls st g μ Q = Wp E 39 100 ls (.inl 2 :: st) g μ Q := Wp_nx k39_99 rfl
theorem k39_100 : mCode 39 100 = some (.if_icmp .ge 22, 3) := by decide +kernel
theorem x39_100 {E : ME} {ls : MLs} {st : List MV} {g : MG} {μ : MU} {Q : Option MV → MG → MU → Prop} {a b : Int} : Wp E 39 100 ls (.inl b :: .inl a :: st) g μ Q = ((b ≤ a → Wp E 39 122 ls st g μ Q) ∧ (a < b → Wp E 39 103 ls st g μ Q)) := Wp_cmp_ge k39_100 (by decide)
theorem k39_103 : mCode 39 103 = some (.aload_n 0, 1) := by decide +kernel
theorem x39_103 {E : ME} {ls : MLs} {st : List MV} {g : MG} {μ : MU} {Q : Option MV → MG → MU → Prop} {v : Nat ⊕ Nat} : Wp E 39 103 (some (.inr (.inr v)) :: ls) st g μ Q = Wp E 39 104 (some (.inr (.inr v)) :: ls) (.inr (.inr v) :: st) g μ Q := Wp_nx k39_103 rfl
theorem k39_104 : mCode 39 104 = some (.getfield 37, 3) := by decide +kernel
theorem x39_104 {E : ME} {ls : MLs} {st : List MV} {g : MG} {μ : MU} {Q : Option MV → MG → MU → Prop} {a : Nat} : Wp E 39 104 ls (.inr (.inr (.inl a)) :: st) g μ Q = ((mKd g a).1 = 5 ∧ Wp E 39 107 ls (mRv (mRf g a 4) :: st) g μ Q) := Wp_getR k39_104 f5_37 (by decide) (by decide)
theorem k39_107 : mCode 39 107 = some (.iload_n 1, 1) := by decide +kernel
theorem x39_107 {E : ME} {ls : MLs} {st : List MV} {g : MG} {μ : MU} {Q : Option MV → MG → MU → Prop} {l0 : Option MV} {v : Int} : Wp E 39 107 (l0 :: some (.inl v) :: ls) st g μ Q = Wp E 39 108 (l0 :: some (.inl v) :: ls) (.inl v :: st) g μ Q := Wp_nx k39_107 rfl
theorem k39_108 : mCode 39 108 = some (.new 7, 3) := by decide +kernel
theorem x39_108 {E : ME} {ls : MLs} {st : List MV} {g : MG} {μ : MU} {Q : Option MV → MG → MU → Prop} : Wp E 39 108 ls st g μ Q = Wp E 39 111 ls (mR g.1 :: st) (mGrow g (0, 0) 12) (mZero μ g.1) Q := Wp_new (ci := 0) k39_108 (by decide +kernel)
theorem k39_111 : mCode 39 111 = some (.dup, 1) := by decide +kernel
theorem x39_111 {E : ME} {ls : MLs} {st : List MV} {g : MG} {μ : MU} {Q : Option MV → MG → MU → Prop} {v : MV} : Wp E 39 111 ls (v :: st) g μ Q = (mC1 v = true ∧ Wp E 39 112 ls (v :: v :: st) g μ Q) := Wp_dup k39_111
theorem k39_112 : mCode 39 112 = some (.invokespecial 9, 3) := by decide +kernel
theorem x39_112 {E : ME} {ls : MLs} {st : List MV} {g : MG} {μ : MU} {Q : Option MV → MG → MU → Prop} {r : Nat} : Wp E 39 112 ls (.inr (.inr (.inl r)) :: st) g μ Q = ((st.length ≤ 4 ∧ ((mKd g r).1 == 0) = true) ∧ Wp E 0 0 [some (.inr (.inr (.inl r))), none] [] g μ (fun r g' μ' => (g'.1 = g.1 + 10 ∧ g'.2.1 = g.2.1 + 146) ∧ Wp E 39 115 ls (mPush r st) g' μ' Q)) := Wp_cI (w := 0) k39_112 m5_9 (by decide) (by decide) (as := [.inr (.inr (.inl r))]) rfl rfl rfl ⟨Nat.le_of_ble_eq_true rfl, by decide⟩
theorem k39_115 : mCode 39 115 = some (.aastore, 1) := by decide +kernel
theorem x39_115 {E : ME} {ls : MLs} {st : List MV} {g : MG} {μ : MU} {Q : Option MV → MG → MU → Prop} {a b : Nat} {j : Int} : Wp E 39 115 ls (.inr (.inr (.inl b)) :: .inl j :: .inr (.inr (.inl a)) :: st) g μ Q = (((((mKd g a).1 = 13 ∧ (mKd g b).1 = 0) ∨ ((mKd g a).1 = 14 ∧ (mKd g b).1 = 4)) ∧ 0 ≤ j ∧ j < (mKd g a).2) ∧ Wp E 39 116 ls st (mSetR g a j.toNat (some b)) μ Q) := Wp_aast k39_115
theorem k39_116 : mCode 39 116 = some (.iinc 1 1, 3) := by decide +kernel
theorem x39_116 {E : ME} {ls : MLs} {st : List MV} {g : MG} {μ : MU} {Q : Option MV → MG → MU → Prop} {l0 : Option MV} {v : Int} : Wp E 39 116 (l0 :: some (.inl v) :: ls) st g μ Q = (mNl (some l0) = true ∧ Wp E 39 119 (l0 :: some (.inl (mWr (v + 1))) :: ls) st g μ Q) := Wp_inc k39_116 rfl rfl rfl
theorem k39_119 : mCode 39 119 = some (.goto (-21), 3) := by decide +kernel
theorem x39_119 {E : ME} {ls : MLs} {st : List MV} {g : MG} {μ : MU} {Q : Option MV → MG → MU → Prop} : Wp E 39 119 ls st g μ Q = Wp E 39 98 ls st g μ Q := Wp_goto k39_119 (by decide)
theorem k39_122 : mCode 39 122 = some (.return_, 1) := by decide +kernel
theorem x39_122 {E : ME} {ls : MLs} {g : MG} {μ : MU} {Q : Option MV → MG → MU → Prop} : Wp E 39 122 ls [] g μ Q = Q none g μ := Wp_retV k39_122 (by decide)
theorem k40_0 : mCode 40 0 = some (.aload_n 0, 1) := by decide +kernel
theorem x40_0 {E : ME} {ls : MLs} {st : List MV} {g : MG} {μ : MU} {Q : Option MV → MG → MU → Prop} {v : Nat ⊕ Nat} : Wp E 40 0 (some (.inr (.inr v)) :: ls) st g μ Q = Wp E 40 1 (some (.inr (.inr v)) :: ls) (.inr (.inr v) :: st) g μ Q := Wp_nx k40_0 rfl
theorem k40_1 : mCode 40 1 = some (.getfield 26, 3) := by decide +kernel
theorem x40_1 {E : ME} {ls : MLs} {st : List MV} {g : MG} {μ : MU} {Q : Option MV → MG → MU → Prop} {a : Nat} : Wp E 40 1 ls (.inr (.inr (.inl a)) :: st) g μ Q = ((mKd g a).1 = 5 ∧ Wp E 40 4 ls (mRv (mRf g a 2) :: st) g μ Q) := Wp_getR k40_1 f5_26 (by decide) (by decide)
theorem k40_4 : mCode 40 4 = some (.aload_n 0, 1) := by decide +kernel
theorem x40_4 {E : ME} {ls : MLs} {st : List MV} {g : MG} {μ : MU} {Q : Option MV → MG → MU → Prop} {v : Nat ⊕ Nat} : Wp E 40 4 (some (.inr (.inr v)) :: ls) st g μ Q = Wp E 40 5 (some (.inr (.inr v)) :: ls) (.inr (.inr v) :: st) g μ Q := Wp_nx k40_4 rfl
theorem k40_5 : mCode 40 5 = some (.getfield 10, 3) := by decide +kernel
theorem x40_5 {E : ME} {ls : MLs} {st : List MV} {g : MG} {μ : MU} {Q : Option MV → MG → MU → Prop} {a : Nat} : Wp E 40 5 ls (.inr (.inr (.inl a)) :: st) g μ Q = ((mKd g a).1 = 5 ∧ Wp E 40 8 ls (mRv (mRf g a 0) :: st) g μ Q) := Wp_getR k40_5 f5_10 (by decide) (by decide)
theorem k40_8 : mCode 40 8 = some (.invokevirtual 58, 3) := by decide +kernel
theorem x40_8 {E : ME} {ls : MLs} {st : List MV} {g : MG} {μ : MU} {Q : Option MV → MG → MU → Prop} {r : Nat} {a0 : Nat ⊕ Nat} : Wp E 40 8 ls (.inr (.inr a0) :: .inr (.inr (.inl r)) :: st) g μ Q = ((st.length ≤ 4 ∧ ((mKd g r).1 == 1) = true) ∧ Wp E 15 0 [some (.inr (.inr (.inl r))), some (.inr (.inr a0))] [] g μ (fun r g' μ' => (g'.1 = g.1 ∧ g'.2.1 = g.2.1) ∧ Wp E 40 11 ls (mPush r st) g' μ' Q)) := Wp_cV k40_8 m5_58 (by decide) (as := [.inr (.inr (.inl r)), .inr (.inr a0)]) rfl rfl rfl ⟨Nat.le_of_ble_eq_true rfl, by decide⟩
theorem k40_11 : mCode 40 11 = some (.aload_n 0, 1) := by decide +kernel
theorem x40_11 {E : ME} {ls : MLs} {st : List MV} {g : MG} {μ : MU} {Q : Option MV → MG → MU → Prop} {v : Nat ⊕ Nat} : Wp E 40 11 (some (.inr (.inr v)) :: ls) st g μ Q = Wp E 40 12 (some (.inr (.inr v)) :: ls) (.inr (.inr v) :: st) g μ Q := Wp_nx k40_11 rfl
theorem k40_12 : mCode 40 12 = some (.aload_n 0, 1) := by decide +kernel
theorem x40_12 {E : ME} {ls : MLs} {st : List MV} {g : MG} {μ : MU} {Q : Option MV → MG → MU → Prop} {v : Nat ⊕ Nat} : Wp E 40 12 (some (.inr (.inr v)) :: ls) st g μ Q = Wp E 40 13 (some (.inr (.inr v)) :: ls) (.inr (.inr v) :: st) g μ Q := Wp_nx k40_12 rfl
theorem k40_13 : mCode 40 13 = some (.getfield 10, 3) := by decide +kernel
theorem x40_13 {E : ME} {ls : MLs} {st : List MV} {g : MG} {μ : MU} {Q : Option MV → MG → MU → Prop} {a : Nat} : Wp E 40 13 ls (.inr (.inr (.inl a)) :: st) g μ Q = ((mKd g a).1 = 5 ∧ Wp E 40 16 ls (mRv (mRf g a 0) :: st) g μ Q) := Wp_getR k40_13 f5_10 (by decide) (by decide)
theorem k40_16 : mCode 40 16 = some (.iload_n 1, 1) := by decide +kernel
theorem x40_16 {E : ME} {ls : MLs} {st : List MV} {g : MG} {μ : MU} {Q : Option MV → MG → MU → Prop} {l0 : Option MV} {v : Int} : Wp E 40 16 (l0 :: some (.inl v) :: ls) st g μ Q = Wp E 40 17 (l0 :: some (.inl v) :: ls) (.inl v :: st) g μ Q := Wp_nx k40_16 rfl
theorem k40_17 : mCode 40 17 = some (.iload_n 2, 1) := by decide +kernel
theorem x40_17 {E : ME} {ls : MLs} {st : List MV} {g : MG} {μ : MU} {Q : Option MV → MG → MU → Prop} {l0 l1 : Option MV} {v : Int} : Wp E 40 17 (l0 :: l1 :: some (.inl v) :: ls) st g μ Q = Wp E 40 18 (l0 :: l1 :: some (.inl v) :: ls) (.inl v :: st) g μ Q := Wp_nx k40_17 rfl
theorem k40_18 : mCode 40 18 = some (.invokevirtual 62, 3) := by decide +kernel
theorem x40_18 {E : ME} {ls : MLs} {st : List MV} {g : MG} {μ : MU} {Q : Option MV → MG → MU → Prop} {r : Nat} {a0 : Int} {a1 : Int} : Wp E 40 18 ls (.inl a1 :: .inl a0 :: .inr (.inr (.inl r)) :: st) g μ Q = ((st.length ≤ 4 ∧ ((mKd g r).1 == 0) = true) ∧ Wp E 6 0 [some (.inr (.inr (.inl r))), some (.inl a0), some (.inl a1), none] [] g μ (fun r g' μ' => (g'.1 = g.1 ∧ g'.2.1 = g.2.1) ∧ Wp E 40 21 ls (mPush r st) g' μ' Q)) := Wp_cV k40_18 m5_62 (by decide) (as := [.inr (.inr (.inl r)), .inl a0, .inl a1]) rfl rfl rfl ⟨Nat.le_of_ble_eq_true rfl, by decide⟩
theorem k40_21 : mCode 40 21 = some (.invokevirtual 66, 3) := by decide +kernel
theorem x40_21 {E : ME} {ls : MLs} {st : List MV} {g : MG} {μ : MU} {Q : Option MV → MG → MU → Prop} {r : Nat} {a0 : Int} : Wp E 40 21 ls (.inl a0 :: .inr (.inr (.inl r)) :: st) g μ Q = ((st.length ≤ 4 ∧ ((mKd g r).1 == 5) = true) ∧ Wp E 47 0 [some (.inr (.inr (.inl r))), some (.inl a0)] [] g μ (fun r g' μ' => (g'.1 = g.1 ∧ g'.2.1 = g.2.1) ∧ Wp E 40 24 ls (mPush r st) g' μ' Q)) := Wp_cV k40_21 m5_66 (by decide) (as := [.inr (.inr (.inl r)), .inl a0]) rfl rfl rfl ⟨Nat.le_of_ble_eq_true rfl, by decide⟩
theorem k40_24 : mCode 40 24 = some (.ireturn, 1) := by decide +kernel
theorem x40_24 {E : ME} {ls : MLs} {g : MG} {μ : MU} {Q : Option MV → MG → MU → Prop} {v : Int} : Wp E 40 24 ls [.inl v] g μ Q = Q (some (.inl v)) g μ := Wp_retI k40_24 (by decide)
theorem k41_0 : mCode 41 0 = some (.aload_n 0, 1) := by decide +kernel
theorem x41_0 {E : ME} {ls : MLs} {st : List MV} {g : MG} {μ : MU} {Q : Option MV → MG → MU → Prop} {v : Nat ⊕ Nat} : Wp E 41 0 (some (.inr (.inr v)) :: ls) st g μ Q = Wp E 41 1 (some (.inr (.inr v)) :: ls) (.inr (.inr v) :: st) g μ Q := Wp_nx k41_0 rfl
theorem k41_1 : mCode 41 1 = some (.getfield 26, 3) := by decide +kernel
theorem x41_1 {E : ME} {ls : MLs} {st : List MV} {g : MG} {μ : MU} {Q : Option MV → MG → MU → Prop} {a : Nat} : Wp E 41 1 ls (.inr (.inr (.inl a)) :: st) g μ Q = ((mKd g a).1 = 5 ∧ Wp E 41 4 ls (mRv (mRf g a 2) :: st) g μ Q) := Wp_getR k41_1 f5_26 (by decide) (by decide)
theorem k41_4 : mCode 41 4 = some (.aload_n 0, 1) := by decide +kernel
theorem x41_4 {E : ME} {ls : MLs} {st : List MV} {g : MG} {μ : MU} {Q : Option MV → MG → MU → Prop} {v : Nat ⊕ Nat} : Wp E 41 4 (some (.inr (.inr v)) :: ls) st g μ Q = Wp E 41 5 (some (.inr (.inr v)) :: ls) (.inr (.inr v) :: st) g μ Q := Wp_nx k41_4 rfl
theorem k41_5 : mCode 41 5 = some (.getfield 10, 3) := by decide +kernel
theorem x41_5 {E : ME} {ls : MLs} {st : List MV} {g : MG} {μ : MU} {Q : Option MV → MG → MU → Prop} {a : Nat} : Wp E 41 5 ls (.inr (.inr (.inl a)) :: st) g μ Q = ((mKd g a).1 = 5 ∧ Wp E 41 8 ls (mRv (mRf g a 0) :: st) g μ Q) := Wp_getR k41_5 f5_10 (by decide) (by decide)
theorem k41_8 : mCode 41 8 = some (.invokevirtual 58, 3) := by decide +kernel
theorem x41_8 {E : ME} {ls : MLs} {st : List MV} {g : MG} {μ : MU} {Q : Option MV → MG → MU → Prop} {r : Nat} {a0 : Nat ⊕ Nat} : Wp E 41 8 ls (.inr (.inr a0) :: .inr (.inr (.inl r)) :: st) g μ Q = ((st.length ≤ 4 ∧ ((mKd g r).1 == 1) = true) ∧ Wp E 15 0 [some (.inr (.inr (.inl r))), some (.inr (.inr a0))] [] g μ (fun r g' μ' => (g'.1 = g.1 ∧ g'.2.1 = g.2.1) ∧ Wp E 41 11 ls (mPush r st) g' μ' Q)) := Wp_cV k41_8 m5_58 (by decide) (as := [.inr (.inr (.inl r)), .inr (.inr a0)]) rfl rfl rfl ⟨Nat.le_of_ble_eq_true rfl, by decide⟩
theorem k41_11 : mCode 41 11 = some (.aload_n 0, 1) := by decide +kernel
theorem x41_11 {E : ME} {ls : MLs} {st : List MV} {g : MG} {μ : MU} {Q : Option MV → MG → MU → Prop} {v : Nat ⊕ Nat} : Wp E 41 11 (some (.inr (.inr v)) :: ls) st g μ Q = Wp E 41 12 (some (.inr (.inr v)) :: ls) (.inr (.inr v) :: st) g μ Q := Wp_nx k41_11 rfl
theorem k41_12 : mCode 41 12 = some (.aload_n 0, 1) := by decide +kernel
theorem x41_12 {E : ME} {ls : MLs} {st : List MV} {g : MG} {μ : MU} {Q : Option MV → MG → MU → Prop} {v : Nat ⊕ Nat} : Wp E 41 12 (some (.inr (.inr v)) :: ls) st g μ Q = Wp E 41 13 (some (.inr (.inr v)) :: ls) (.inr (.inr v) :: st) g μ Q := Wp_nx k41_12 rfl
theorem k41_13 : mCode 41 13 = some (.getfield 10, 3) := by decide +kernel
theorem x41_13 {E : ME} {ls : MLs} {st : List MV} {g : MG} {μ : MU} {Q : Option MV → MG → MU → Prop} {a : Nat} : Wp E 41 13 ls (.inr (.inr (.inl a)) :: st) g μ Q = ((mKd g a).1 = 5 ∧ Wp E 41 16 ls (mRv (mRf g a 0) :: st) g μ Q) := Wp_getR k41_13 f5_10 (by decide) (by decide)
theorem k41_16 : mCode 41 16 = some (.iload_n 1, 1) := by decide +kernel
theorem x41_16 {E : ME} {ls : MLs} {st : List MV} {g : MG} {μ : MU} {Q : Option MV → MG → MU → Prop} {l0 : Option MV} {v : Int} : Wp E 41 16 (l0 :: some (.inl v) :: ls) st g μ Q = Wp E 41 17 (l0 :: some (.inl v) :: ls) (.inl v :: st) g μ Q := Wp_nx k41_16 rfl
theorem k41_17 : mCode 41 17 = some (.iload_n 2, 1) := by decide +kernel
theorem x41_17 {E : ME} {ls : MLs} {st : List MV} {g : MG} {μ : MU} {Q : Option MV → MG → MU → Prop} {l0 l1 : Option MV} {v : Int} : Wp E 41 17 (l0 :: l1 :: some (.inl v) :: ls) st g μ Q = Wp E 41 18 (l0 :: l1 :: some (.inl v) :: ls) (.inl v :: st) g μ Q := Wp_nx k41_17 rfl
theorem k41_18 : mCode 41 18 = some (.iload_n 3, 1) := by decide +kernel
theorem x41_18 {E : ME} {ls : MLs} {st : List MV} {g : MG} {μ : MU} {Q : Option MV → MG → MU → Prop} {l0 l1 l2 : Option MV} {v : Int} : Wp E 41 18 (l0 :: l1 :: l2 :: some (.inl v) :: ls) st g μ Q = Wp E 41 19 (l0 :: l1 :: l2 :: some (.inl v) :: ls) (.inl v :: st) g μ Q := Wp_nx k41_18 rfl
theorem k41_19 : mCode 41 19 = some (.invokevirtual 70, 3) := by decide +kernel
theorem x41_19 {E : ME} {ls : MLs} {st : List MV} {g : MG} {μ : MU} {Q : Option MV → MG → MU → Prop} {r : Nat} {a0 : Int} {a1 : Int} {a2 : Int} : Wp E 41 19 ls (.inl a2 :: .inl a1 :: .inl a0 :: .inr (.inr (.inl r)) :: st) g μ Q = ((st.length ≤ 4 ∧ ((mKd g r).1 == 0) = true) ∧ Wp E 7 0 [some (.inr (.inr (.inl r))), some (.inl a0), some (.inl a1), some (.inl a2)] [] g μ (fun r g' μ' => (g'.1 = g.1 ∧ g'.2.1 = g.2.1) ∧ Wp E 41 22 ls (mPush r st) g' μ' Q)) := Wp_cV k41_19 m5_70 (by decide) (as := [.inr (.inr (.inl r)), .inl a0, .inl a1, .inl a2]) rfl rfl rfl ⟨Nat.le_of_ble_eq_true rfl, by decide⟩
theorem k41_22 : mCode 41 22 = some (.invokevirtual 66, 3) := by decide +kernel
theorem x41_22 {E : ME} {ls : MLs} {st : List MV} {g : MG} {μ : MU} {Q : Option MV → MG → MU → Prop} {r : Nat} {a0 : Int} : Wp E 41 22 ls (.inl a0 :: .inr (.inr (.inl r)) :: st) g μ Q = ((st.length ≤ 4 ∧ ((mKd g r).1 == 5) = true) ∧ Wp E 47 0 [some (.inr (.inr (.inl r))), some (.inl a0)] [] g μ (fun r g' μ' => (g'.1 = g.1 ∧ g'.2.1 = g.2.1) ∧ Wp E 41 25 ls (mPush r st) g' μ' Q)) := Wp_cV k41_22 m5_66 (by decide) (as := [.inr (.inr (.inl r)), .inl a0]) rfl rfl rfl ⟨Nat.le_of_ble_eq_true rfl, by decide⟩
theorem k41_25 : mCode 41 25 = some (.ireturn, 1) := by decide +kernel
theorem x41_25 {E : ME} {ls : MLs} {g : MG} {μ : MU} {Q : Option MV → MG → MU → Prop} {v : Int} : Wp E 41 25 ls [.inl v] g μ Q = Q (some (.inl v)) g μ := Wp_retI k41_25 (by decide)
theorem k42_0 : mCode 42 0 = some (.aload_n 0, 1) := by decide +kernel
theorem x42_0 {E : ME} {ls : MLs} {st : List MV} {g : MG} {μ : MU} {Q : Option MV → MG → MU → Prop} {v : Nat ⊕ Nat} : Wp E 42 0 (some (.inr (.inr v)) :: ls) st g μ Q = Wp E 42 1 (some (.inr (.inr v)) :: ls) (.inr (.inr v) :: st) g μ Q := Wp_nx k42_0 rfl
theorem k42_1 : mCode 42 1 = some (.getfield 26, 3) := by decide +kernel
theorem x42_1 {E : ME} {ls : MLs} {st : List MV} {g : MG} {μ : MU} {Q : Option MV → MG → MU → Prop} {a : Nat} : Wp E 42 1 ls (.inr (.inr (.inl a)) :: st) g μ Q = ((mKd g a).1 = 5 ∧ Wp E 42 4 ls (mRv (mRf g a 2) :: st) g μ Q) := Wp_getR k42_1 f5_26 (by decide) (by decide)
theorem k42_4 : mCode 42 4 = some (.aload_n 0, 1) := by decide +kernel
theorem x42_4 {E : ME} {ls : MLs} {st : List MV} {g : MG} {μ : MU} {Q : Option MV → MG → MU → Prop} {v : Nat ⊕ Nat} : Wp E 42 4 (some (.inr (.inr v)) :: ls) st g μ Q = Wp E 42 5 (some (.inr (.inr v)) :: ls) (.inr (.inr v) :: st) g μ Q := Wp_nx k42_4 rfl
theorem k42_5 : mCode 42 5 = some (.getfield 10, 3) := by decide +kernel
theorem x42_5 {E : ME} {ls : MLs} {st : List MV} {g : MG} {μ : MU} {Q : Option MV → MG → MU → Prop} {a : Nat} : Wp E 42 5 ls (.inr (.inr (.inl a)) :: st) g μ Q = ((mKd g a).1 = 5 ∧ Wp E 42 8 ls (mRv (mRf g a 0) :: st) g μ Q) := Wp_getR k42_5 f5_10 (by decide) (by decide)
theorem k42_8 : mCode 42 8 = some (.invokevirtual 58, 3) := by decide +kernel
theorem x42_8 {E : ME} {ls : MLs} {st : List MV} {g : MG} {μ : MU} {Q : Option MV → MG → MU → Prop} {r : Nat} {a0 : Nat ⊕ Nat} : Wp E 42 8 ls (.inr (.inr a0) :: .inr (.inr (.inl r)) :: st) g μ Q = ((st.length ≤ 4 ∧ ((mKd g r).1 == 1) = true) ∧ Wp E 15 0 [some (.inr (.inr (.inl r))), some (.inr (.inr a0))] [] g μ (fun r g' μ' => (g'.1 = g.1 ∧ g'.2.1 = g.2.1) ∧ Wp E 42 11 ls (mPush r st) g' μ' Q)) := Wp_cV k42_8 m5_58 (by decide) (as := [.inr (.inr (.inl r)), .inr (.inr a0)]) rfl rfl rfl ⟨Nat.le_of_ble_eq_true rfl, by decide⟩
theorem k42_11 : mCode 42 11 = some (.aload_n 0, 1) := by decide +kernel
theorem x42_11 {E : ME} {ls : MLs} {st : List MV} {g : MG} {μ : MU} {Q : Option MV → MG → MU → Prop} {v : Nat ⊕ Nat} : Wp E 42 11 (some (.inr (.inr v)) :: ls) st g μ Q = Wp E 42 12 (some (.inr (.inr v)) :: ls) (.inr (.inr v) :: st) g μ Q := Wp_nx k42_11 rfl
theorem k42_12 : mCode 42 12 = some (.aload_n 0, 1) := by decide +kernel
theorem x42_12 {E : ME} {ls : MLs} {st : List MV} {g : MG} {μ : MU} {Q : Option MV → MG → MU → Prop} {v : Nat ⊕ Nat} : Wp E 42 12 (some (.inr (.inr v)) :: ls) st g μ Q = Wp E 42 13 (some (.inr (.inr v)) :: ls) (.inr (.inr v) :: st) g μ Q := Wp_nx k42_12 rfl
theorem k42_13 : mCode 42 13 = some (.getfield 10, 3) := by decide +kernel
theorem x42_13 {E : ME} {ls : MLs} {st : List MV} {g : MG} {μ : MU} {Q : Option MV → MG → MU → Prop} {a : Nat} : Wp E 42 13 ls (.inr (.inr (.inl a)) :: st) g μ Q = ((mKd g a).1 = 5 ∧ Wp E 42 16 ls (mRv (mRf g a 0) :: st) g μ Q) := Wp_getR k42_13 f5_10 (by decide) (by decide)
theorem k42_16 : mCode 42 16 = some (.iload_n 1, 1) := by decide +kernel
theorem x42_16 {E : ME} {ls : MLs} {st : List MV} {g : MG} {μ : MU} {Q : Option MV → MG → MU → Prop} {l0 : Option MV} {v : Int} : Wp E 42 16 (l0 :: some (.inl v) :: ls) st g μ Q = Wp E 42 17 (l0 :: some (.inl v) :: ls) (.inl v :: st) g μ Q := Wp_nx k42_16 rfl
theorem k42_17 : mCode 42 17 = some (.iload_n 2, 1) := by decide +kernel
theorem x42_17 {E : ME} {ls : MLs} {st : List MV} {g : MG} {μ : MU} {Q : Option MV → MG → MU → Prop} {l0 l1 : Option MV} {v : Int} : Wp E 42 17 (l0 :: l1 :: some (.inl v) :: ls) st g μ Q = Wp E 42 18 (l0 :: l1 :: some (.inl v) :: ls) (.inl v :: st) g μ Q := Wp_nx k42_17 rfl
theorem k42_18 : mCode 42 18 = some (.iload_n 3, 1) := by decide +kernel
theorem x42_18 {E : ME} {ls : MLs} {st : List MV} {g : MG} {μ : MU} {Q : Option MV → MG → MU → Prop} {l0 l1 l2 : Option MV} {v : Int} : Wp E 42 18 (l0 :: l1 :: l2 :: some (.inl v) :: ls) st g μ Q = Wp E 42 19 (l0 :: l1 :: l2 :: some (.inl v) :: ls) (.inl v :: st) g μ Q := Wp_nx k42_18 rfl
theorem k42_19 : mCode 42 19 = some (.invokevirtual 74, 3) := by decide +kernel
theorem x42_19 {E : ME} {ls : MLs} {st : List MV} {g : MG} {μ : MU} {Q : Option MV → MG → MU → Prop} {r : Nat} {a0 : Int} {a1 : Int} {a2 : Int} : Wp E 42 19 ls (.inl a2 :: .inl a1 :: .inl a0 :: .inr (.inr (.inl r)) :: st) g μ Q = ((st.length ≤ 4 ∧ ((mKd g r).1 == 0) = true) ∧ Wp E 8 0 [some (.inr (.inr (.inl r))), some (.inl a0), some (.inl a1), some (.inl a2), none] [] g μ (fun r g' μ' => (g'.1 = g.1 ∧ g'.2.1 = g.2.1) ∧ Wp E 42 22 ls (mPush r st) g' μ' Q)) := Wp_cV k42_19 m5_74 (by decide) (as := [.inr (.inr (.inl r)), .inl a0, .inl a1, .inl a2]) rfl rfl rfl ⟨Nat.le_of_ble_eq_true rfl, by decide⟩
theorem k42_22 : mCode 42 22 = some (.invokevirtual 66, 3) := by decide +kernel
theorem x42_22 {E : ME} {ls : MLs} {st : List MV} {g : MG} {μ : MU} {Q : Option MV → MG → MU → Prop} {r : Nat} {a0 : Int} : Wp E 42 22 ls (.inl a0 :: .inr (.inr (.inl r)) :: st) g μ Q = ((st.length ≤ 4 ∧ ((mKd g r).1 == 5) = true) ∧ Wp E 47 0 [some (.inr (.inr (.inl r))), some (.inl a0)] [] g μ (fun r g' μ' => (g'.1 = g.1 ∧ g'.2.1 = g.2.1) ∧ Wp E 42 25 ls (mPush r st) g' μ' Q)) := Wp_cV k42_22 m5_66 (by decide) (as := [.inr (.inr (.inl r)), .inl a0]) rfl rfl rfl ⟨Nat.le_of_ble_eq_true rfl, by decide⟩
theorem k42_25 : mCode 42 25 = some (.ireturn, 1) := by decide +kernel
theorem x42_25 {E : ME} {ls : MLs} {g : MG} {μ : MU} {Q : Option MV → MG → MU → Prop} {v : Int} : Wp E 42 25 ls [.inl v] g μ Q = Q (some (.inl v)) g μ := Wp_retI k42_25 (by decide)
theorem k43_0 : mCode 43 0 = some (.aload_n 0, 1) := by decide +kernel
theorem x43_0 {E : ME} {ls : MLs} {st : List MV} {g : MG} {μ : MU} {Q : Option MV → MG → MU → Prop} {v : Nat ⊕ Nat} : Wp E 43 0 (some (.inr (.inr v)) :: ls) st g μ Q = Wp E 43 1 (some (.inr (.inr v)) :: ls) (.inr (.inr v) :: st) g μ Q := Wp_nx k43_0 rfl
theorem k43_1 : mCode 43 1 = some (.getfield 26, 3) := by decide +kernel
theorem x43_1 {E : ME} {ls : MLs} {st : List MV} {g : MG} {μ : MU} {Q : Option MV → MG → MU → Prop} {a : Nat} : Wp E 43 1 ls (.inr (.inr (.inl a)) :: st) g μ Q = ((mKd g a).1 = 5 ∧ Wp E 43 4 ls (mRv (mRf g a 2) :: st) g μ Q) := Wp_getR k43_1 f5_26 (by decide) (by decide)
theorem k43_4 : mCode 43 4 = some (.aload_n 0, 1) := by decide +kernel
theorem x43_4 {E : ME} {ls : MLs} {st : List MV} {g : MG} {μ : MU} {Q : Option MV → MG → MU → Prop} {v : Nat ⊕ Nat} : Wp E 43 4 (some (.inr (.inr v)) :: ls) st g μ Q = Wp E 43 5 (some (.inr (.inr v)) :: ls) (.inr (.inr v) :: st) g μ Q := Wp_nx k43_4 rfl
theorem k43_5 : mCode 43 5 = some (.getfield 10, 3) := by decide +kernel
theorem x43_5 {E : ME} {ls : MLs} {st : List MV} {g : MG} {μ : MU} {Q : Option MV → MG → MU → Prop} {a : Nat} : Wp E 43 5 ls (.inr (.inr (.inl a)) :: st) g μ Q = ((mKd g a).1 = 5 ∧ Wp E 43 8 ls (mRv (mRf g a 0) :: st) g μ Q) := Wp_getR k43_5 f5_10 (by decide) (by decide)
theorem k43_8 : mCode 43 8 = some (.invokevirtual 58, 3) := by decide +kernel
theorem x43_8 {E : ME} {ls : MLs} {st : List MV} {g : MG} {μ : MU} {Q : Option MV → MG → MU → Prop} {r : Nat} {a0 : Nat ⊕ Nat} : Wp E 43 8 ls (.inr (.inr a0) :: .inr (.inr (.inl r)) :: st) g μ Q = ((st.length ≤ 4 ∧ ((mKd g r).1 == 1) = true) ∧ Wp E 15 0 [some (.inr (.inr (.inl r))), some (.inr (.inr a0))] [] g μ (fun r g' μ' => (g'.1 = g.1 ∧ g'.2.1 = g.2.1) ∧ Wp E 43 11 ls (mPush r st) g' μ' Q)) := Wp_cV k43_8 m5_58 (by decide) (as := [.inr (.inr (.inl r)), .inr (.inr a0)]) rfl rfl rfl ⟨Nat.le_of_ble_eq_true rfl, by decide⟩
theorem k43_11 : mCode 43 11 = some (.aload_n 0, 1) := by decide +kernel
theorem x43_11 {E : ME} {ls : MLs} {st : List MV} {g : MG} {μ : MU} {Q : Option MV → MG → MU → Prop} {v : Nat ⊕ Nat} : Wp E 43 11 (some (.inr (.inr v)) :: ls) st g μ Q = Wp E 43 12 (some (.inr (.inr v)) :: ls) (.inr (.inr v) :: st) g μ Q := Wp_nx k43_11 rfl
theorem k43_12 : mCode 43 12 = some (.aload_n 0, 1) := by decide +kernel
theorem x43_12 {E : ME} {ls : MLs} {st : List MV} {g : MG} {μ : MU} {Q : Option MV → MG → MU → Prop} {v : Nat ⊕ Nat} : Wp E 43 12 (some (.inr (.inr v)) :: ls) st g μ Q = Wp E 43 13 (some (.inr (.inr v)) :: ls) (.inr (.inr v) :: st) g μ Q := Wp_nx k43_12 rfl
theorem k43_13 : mCode 43 13 = some (.getfield 10, 3) := by decide +kernel
theorem x43_13 {E : ME} {ls : MLs} {st : List MV} {g : MG} {μ : MU} {Q : Option MV → MG → MU → Prop} {a : Nat} : Wp E 43 13 ls (.inr (.inr (.inl a)) :: st) g μ Q = ((mKd g a).1 = 5 ∧ Wp E 43 16 ls (mRv (mRf g a 0) :: st) g μ Q) := Wp_getR k43_13 f5_10 (by decide) (by decide)
theorem k43_16 : mCode 43 16 = some (.iload_n 1, 1) := by decide +kernel
theorem x43_16 {E : ME} {ls : MLs} {st : List MV} {g : MG} {μ : MU} {Q : Option MV → MG → MU → Prop} {l0 : Option MV} {v : Int} : Wp E 43 16 (l0 :: some (.inl v) :: ls) st g μ Q = Wp E 43 17 (l0 :: some (.inl v) :: ls) (.inl v :: st) g μ Q := Wp_nx k43_16 rfl
theorem k43_17 : mCode 43 17 = some (.iload_n 2, 1) := by decide +kernel
theorem x43_17 {E : ME} {ls : MLs} {st : List MV} {g : MG} {μ : MU} {Q : Option MV → MG → MU → Prop} {l0 l1 : Option MV} {v : Int} : Wp E 43 17 (l0 :: l1 :: some (.inl v) :: ls) st g μ Q = Wp E 43 18 (l0 :: l1 :: some (.inl v) :: ls) (.inl v :: st) g μ Q := Wp_nx k43_17 rfl
theorem k43_18 : mCode 43 18 = some (.iload_n 3, 1) := by decide +kernel
theorem x43_18 {E : ME} {ls : MLs} {st : List MV} {g : MG} {μ : MU} {Q : Option MV → MG → MU → Prop} {l0 l1 l2 : Option MV} {v : Int} : Wp E 43 18 (l0 :: l1 :: l2 :: some (.inl v) :: ls) st g μ Q = Wp E 43 19 (l0 :: l1 :: l2 :: some (.inl v) :: ls) (.inl v :: st) g μ Q := Wp_nx k43_18 rfl
theorem k43_19 : mCode 43 19 = some (.iload 4, 2) := by decide +kernel
theorem x43_19 {E : ME} {ls : MLs} {st : List MV} {g : MG} {μ : MU} {Q : Option MV → MG → MU → Prop} {l0 l1 l2 l3 : Option MV} {v : Int} : Wp E 43 19 (l0 :: l1 :: l2 :: l3 :: some (.inl v) :: ls) st g μ Q = Wp E 43 21 (l0 :: l1 :: l2 :: l3 :: some (.inl v) :: ls) (.inl v :: st) g μ Q := Wp_nx k43_19 rfl
theorem k43_21 : mCode 43 21 = some (.invokevirtual 77, 3) := by decide +kernel
theorem x43_21 {E : ME} {ls : MLs} {st : List MV} {g : MG} {μ : MU} {Q : Option MV → MG → MU → Prop} {r : Nat} {a0 : Int} {a1 : Int} {a2 : Int} {a3 : Int} : Wp E 43 21 ls (.inl a3 :: .inl a2 :: .inl a1 :: .inl a0 :: .inr (.inr (.inl r)) :: st) g μ Q = ((st.length ≤ 4 ∧ ((mKd g r).1 == 0) = true) ∧ Wp E 10 0 [some (.inr (.inr (.inl r))), some (.inl a0), some (.inl a1), some (.inl a2), some (.inl a3)] [] g μ (fun r g' μ' => (g'.1 = g.1 ∧ g'.2.1 = g.2.1) ∧ Wp E 43 24 ls (mPush r st) g' μ' Q)) := Wp_cV k43_21 m5_77 (by decide) (as := [.inr (.inr (.inl r)), .inl a0, .inl a1, .inl a2, .inl a3]) rfl rfl rfl ⟨Nat.le_of_ble_eq_true rfl, by decide⟩
theorem k43_24 : mCode 43 24 = some (.invokevirtual 66, 3) := by decide +kernel
theorem x43_24 {E : ME} {ls : MLs} {st : List MV} {g : MG} {μ : MU} {Q : Option MV → MG → MU → Prop} {r : Nat} {a0 : Int} : Wp E 43 24 ls (.inl a0 :: .inr (.inr (.inl r)) :: st) g μ Q = ((st.length ≤ 4 ∧ ((mKd g r).1 == 5) = true) ∧ Wp E 47 0 [some (.inr (.inr (.inl r))), some (.inl a0)] [] g μ (fun r g' μ' => (g'.1 = g.1 ∧ g'.2.1 = g.2.1) ∧ Wp E 43 27 ls (mPush r st) g' μ' Q)) := Wp_cV k43_24 m5_66 (by decide) (as := [.inr (.inr (.inl r)), .inl a0]) rfl rfl rfl ⟨Nat.le_of_ble_eq_true rfl, by decide⟩
theorem k43_27 : mCode 43 27 = some (.ireturn, 1) := by decide +kernel
theorem x43_27 {E : ME} {ls : MLs} {g : MG} {μ : MU} {Q : Option MV → MG → MU → Prop} {v : Int} : Wp E 43 27 ls [.inl v] g μ Q = Q (some (.inl v)) g μ := Wp_retI k43_27 (by decide)
theorem k44_0 : mCode 44 0 = some (.aload_n 0, 1) := by decide +kernel
theorem x44_0 {E : ME} {ls : MLs} {st : List MV} {g : MG} {μ : MU} {Q : Option MV → MG → MU → Prop} {v : Nat ⊕ Nat} : Wp E 44 0 (some (.inr (.inr v)) :: ls) st g μ Q = Wp E 44 1 (some (.inr (.inr v)) :: ls) (.inr (.inr v) :: st) g μ Q := Wp_nx k44_0 rfl
theorem k44_1 : mCode 44 1 = some (.getfield 26, 3) := by decide +kernel
theorem x44_1 {E : ME} {ls : MLs} {st : List MV} {g : MG} {μ : MU} {Q : Option MV → MG → MU → Prop} {a : Nat} : Wp E 44 1 ls (.inr (.inr (.inl a)) :: st) g μ Q = ((mKd g a).1 = 5 ∧ Wp E 44 4 ls (mRv (mRf g a 2) :: st) g μ Q) := Wp_getR k44_1 f5_26 (by decide) (by decide)
theorem k44_4 : mCode 44 4 = some (.aload_n 0, 1) := by decide +kernel
theorem x44_4 {E : ME} {ls : MLs} {st : List MV} {g : MG} {μ : MU} {Q : Option MV → MG → MU → Prop} {v : Nat ⊕ Nat} : Wp E 44 4 (some (.inr (.inr v)) :: ls) st g μ Q = Wp E 44 5 (some (.inr (.inr v)) :: ls) (.inr (.inr v) :: st) g μ Q := Wp_nx k44_4 rfl
theorem k44_5 : mCode 44 5 = some (.getfield 10, 3) := by decide +kernel
theorem x44_5 {E : ME} {ls : MLs} {st : List MV} {g : MG} {μ : MU} {Q : Option MV → MG → MU → Prop} {a : Nat} : Wp E 44 5 ls (.inr (.inr (.inl a)) :: st) g μ Q = ((mKd g a).1 = 5 ∧ Wp E 44 8 ls (mRv (mRf g a 0) :: st) g μ Q) := Wp_getR k44_5 f5_10 (by decide) (by decide)
theorem k44_8 : mCode 44 8 = some (.invokevirtual 58, 3) := by decide +kernel
theorem x44_8 {E : ME} {ls : MLs} {st : List MV} {g : MG} {μ : MU} {Q : Option MV → MG → MU → Prop} {r : Nat} {a0 : Nat ⊕ Nat} : Wp E 44 8 ls (.inr (.inr a0) :: .inr (.inr (.inl r)) :: st) g μ Q = ((st.length ≤ 4 ∧ ((mKd g r).1 == 1) = true) ∧ Wp E 15 0 [some (.inr (.inr (.inl r))), some (.inr (.inr a0))] [] g μ (fun r g' μ' => (g'.1 = g.1 ∧ g'.2.1 = g.2.1) ∧ Wp E 44 11 ls (mPush r st) g' μ' Q)) := Wp_cV k44_8 m5_58 (by decide) (as := [.inr (.inr (.inl r)), .inr (.inr a0)]) rfl rfl rfl ⟨Nat.le_of_ble_eq_true rfl, by decide⟩
theorem k44_11 : mCode 44 11 = some (.aload_n 0, 1) := by decide +kernel
theorem x44_11 {E : ME} {ls : MLs} {st : List MV} {g : MG} {μ : MU} {Q : Option MV → MG → MU → Prop} {v : Nat ⊕ Nat} : Wp E 44 11 (some (.inr (.inr v)) :: ls) st g μ Q = Wp E 44 12 (some (.inr (.inr v)) :: ls) (.inr (.inr v) :: st) g μ Q := Wp_nx k44_11 rfl
theorem k44_12 : mCode 44 12 = some (.aload_n 0, 1) := by decide +kernel
theorem x44_12 {E : ME} {ls : MLs} {st : List MV} {g : MG} {μ : MU} {Q : Option MV → MG → MU → Prop} {v : Nat ⊕ Nat} : Wp E 44 12 (some (.inr (.inr v)) :: ls) st g μ Q = Wp E 44 13 (some (.inr (.inr v)) :: ls) (.inr (.inr v) :: st) g μ Q := Wp_nx k44_12 rfl
theorem k44_13 : mCode 44 13 = some (.getfield 10, 3) := by decide +kernel
theorem x44_13 {E : ME} {ls : MLs} {st : List MV} {g : MG} {μ : MU} {Q : Option MV → MG → MU → Prop} {a : Nat} : Wp E 44 13 ls (.inr (.inr (.inl a)) :: st) g μ Q = ((mKd g a).1 = 5 ∧ Wp E 44 16 ls (mRv (mRf g a 0) :: st) g μ Q) := Wp_getR k44_13 f5_10 (by decide) (by decide)
theorem k44_16 : mCode 44 16 = some (.iload_n 1, 1) := by decide +kernel
theorem x44_16 {E : ME} {ls : MLs} {st : List MV} {g : MG} {μ : MU} {Q : Option MV → MG → MU → Prop} {l0 : Option MV} {v : Int} : Wp E 44 16 (l0 :: some (.inl v) :: ls) st g μ Q = Wp E 44 17 (l0 :: some (.inl v) :: ls) (.inl v :: st) g μ Q := Wp_nx k44_16 rfl
theorem k44_17 : mCode 44 17 = some (.invokevirtual 81, 3) := by decide +kernel
theorem x44_17 {E : ME} {ls : MLs} {st : List MV} {g : MG} {μ : MU} {Q : Option MV → MG → MU → Prop} {r : Nat} {a0 : Int} : Wp E 44 17 ls (.inl a0 :: .inr (.inr (.inl r)) :: st) g μ Q = ((st.length ≤ 4 ∧ ((mKd g r).1 == 0) = true) ∧ Wp E 11 0 [some (.inr (.inr (.inl r))), some (.inl a0), none] [] g μ (fun r g' μ' => (g'.1 = g.1 ∧ g'.2.1 = g.2.1) ∧ Wp E 44 20 ls (mPush r st) g' μ' Q)) := Wp_cV k44_17 m5_81 (by decide) (as := [.inr (.inr (.inl r)), .inl a0]) rfl rfl rfl ⟨Nat.le_of_ble_eq_true rfl, by decide⟩
theorem k44_20 : mCode 44 20 = some (.invokevirtual 66, 3) := by decide +kernel
theorem x44_20 {E : ME} {ls : MLs} {st : List MV} {g : MG} {μ : MU} {Q : Option MV → MG → MU → Prop} {r : Nat} {a0 : Int} : Wp E 44 20 ls (.inl a0 :: .inr (.inr (.inl r)) :: st) g μ Q = ((st.length ≤ 4 ∧ ((mKd g r).1 == 5) = true) ∧ Wp E 47 0 [some (.inr (.inr (.inl r))), some (.inl a0)] [] g μ (fun r g' μ' => (g'.1 = g.1 ∧ g'.2.1 = g.2.1) ∧ Wp E 44 23 ls (mPush r st) g' μ' Q)) := Wp_cV k44_20 m5_66 (by decide) (as := [.inr (.inr (.inl r)), .inl a0]) rfl rfl rfl ⟨Nat.le_of_ble_eq_true rfl, by decide⟩
theorem k44_23 : mCode 44 23 = some (.ireturn, 1) := by decide +kernel
theorem x44_23 {E : ME} {ls : MLs} {g : MG} {μ : MU} {Q : Option MV → MG → MU → Prop} {v : Int} : Wp E 44 23 ls [.inl v] g μ Q = Q (some (.inl v)) g μ := Wp_retI k44_23 (by decide)
theorem k45_0 : mCode 45 0 = some (.aload_n 0, 1) := by decide +kernel
theorem x45_0 {E : ME} {ls : MLs} {st : List MV} {g : MG} {μ : MU} {Q : Option MV → MG → MU → Prop} {v : Nat ⊕ Nat} : Wp E 45 0 (some (.inr (.inr v)) :: ls) st g μ Q = Wp E 45 1 (some (.inr (.inr v)) :: ls) (.inr (.inr v) :: st) g μ Q := Wp_nx k45_0 rfl
theorem k45_1 : mCode 45 1 = some (.getfield 26, 3) := by decide +kernel
theorem x45_1 {E : ME} {ls : MLs} {st : List MV} {g : MG} {μ : MU} {Q : Option MV → MG → MU → Prop} {a : Nat} : Wp E 45 1 ls (.inr (.inr (.inl a)) :: st) g μ Q = ((mKd g a).1 = 5 ∧ Wp E 45 4 ls (mRv (mRf g a 2) :: st) g μ Q) := Wp_getR k45_1 f5_26 (by decide) (by decide)
theorem k45_4 : mCode 45 4 = some (.aload_n 0, 1) := by decide +kernel
theorem x45_4 {E : ME} {ls : MLs} {st : List MV} {g : MG} {μ : MU} {Q : Option MV → MG → MU → Prop} {v : Nat ⊕ Nat} : Wp E 45 4 (some (.inr (.inr v)) :: ls) st g μ Q = Wp E 45 5 (some (.inr (.inr v)) :: ls) (.inr (.inr v) :: st) g μ Q := Wp_nx k45_4 rfl
theorem k45_5 : mCode 45 5 = some (.getfield 10, 3) := by decide +kernel
theorem x45_5 {E : ME} {ls : MLs} {st : List MV} {g : MG} {μ : MU} {Q : Option MV → MG → MU → Prop} {a : Nat} : Wp E 45 5 ls (.inr (.inr (.inl a)) :: st) g μ Q = ((mKd g a).1 = 5 ∧ Wp E 45 8 ls (mRv (mRf g a 0) :: st) g μ Q) := Wp_getR k45_5 f5_10 (by decide) (by decide)
theorem k45_8 : mCode 45 8 = some (.invokevirtual 58, 3) := by decide +kernel
theorem x45_8 {E : ME} {ls : MLs} {st : List MV} {g : MG} {μ : MU} {Q : Option MV → MG → MU → Prop} {r : Nat} {a0 : Nat ⊕ Nat} : Wp E 45 8 ls (.inr (.inr a0) :: .inr (.inr (.inl r)) :: st) g μ Q = ((st.length ≤ 4 ∧ ((mKd g r).1 == 1) = true) ∧ Wp E 15 0 [some (.inr (.inr (.inl r))), some (.inr (.inr a0))] [] g μ (fun r g' μ' => (g'.1 = g.1 ∧ g'.2.1 = g.2.1) ∧ Wp E 45 11 ls (mPush r st) g' μ' Q)) := Wp_cV k45_8 m5_58 (by decide) (as := [.inr (.inr (.inl r)), .inr (.inr a0)]) rfl rfl rfl ⟨Nat.le_of_ble_eq_true rfl, by decide⟩
theorem k45_11 : mCode 45 11 = some (.aload_n 0, 1) := by decide +kernel
theorem x45_11 {E : ME} {ls : MLs} {st : List MV} {g : MG} {μ : MU} {Q : Option MV → MG → MU → Prop} {v : Nat ⊕ Nat} : Wp E 45 11 (some (.inr (.inr v)) :: ls) st g μ Q = Wp E 45 12 (some (.inr (.inr v)) :: ls) (.inr (.inr v) :: st) g μ Q := Wp_nx k45_11 rfl
theorem k45_12 : mCode 45 12 = some (.aload_n 0, 1) := by decide +kernel
theorem x45_12 {E : ME} {ls : MLs} {st : List MV} {g : MG} {μ : MU} {Q : Option MV → MG → MU → Prop} {v : Nat ⊕ Nat} : Wp E 45 12 (some (.inr (.inr v)) :: ls) st g μ Q = Wp E 45 13 (some (.inr (.inr v)) :: ls) (.inr (.inr v) :: st) g μ Q := Wp_nx k45_12 rfl
theorem k45_13 : mCode 45 13 = some (.getfield 10, 3) := by decide +kernel
theorem x45_13 {E : ME} {ls : MLs} {st : List MV} {g : MG} {μ : MU} {Q : Option MV → MG → MU → Prop} {a : Nat} : Wp E 45 13 ls (.inr (.inr (.inl a)) :: st) g μ Q = ((mKd g a).1 = 5 ∧ Wp E 45 16 ls (mRv (mRf g a 0) :: st) g μ Q) := Wp_getR k45_13 f5_10 (by decide) (by decide)
theorem k45_16 : mCode 45 16 = some (.iload_n 1, 1) := by decide +kernel
theorem x45_16 {E : ME} {ls : MLs} {st : List MV} {g : MG} {μ : MU} {Q : Option MV → MG → MU → Prop} {l0 : Option MV} {v : Int} : Wp E 45 16 (l0 :: some (.inl v) :: ls) st g μ Q = Wp E 45 17 (l0 :: some (.inl v) :: ls) (.inl v :: st) g μ Q := Wp_nx k45_16 rfl
theorem k45_17 : mCode 45 17 = some (.iload_n 2, 1) := by decide +kernel
theorem x45_17 {E : ME} {ls : MLs} {st : List MV} {g : MG} {μ : MU} {Q : Option MV → MG → MU → Prop} {l0 l1 : Option MV} {v : Int} : Wp E 45 17 (l0 :: l1 :: some (.inl v) :: ls) st g μ Q = Wp E 45 18 (l0 :: l1 :: some (.inl v) :: ls) (.inl v :: st) g μ Q := Wp_nx k45_17 rfl
theorem k45_18 : mCode 45 18 = some (.iload_n 3, 1) := by decide +kernel
theorem x45_18 {E : ME} {ls : MLs} {st : List MV} {g : MG} {μ : MU} {Q : Option MV → MG → MU → Prop} {l0 l1 l2 : Option MV} {v : Int} : Wp E 45 18 (l0 :: l1 :: l2 :: some (.inl v) :: ls) st g μ Q = Wp E 45 19 (l0 :: l1 :: l2 :: some (.inl v) :: ls) (.inl v :: st) g μ Q := Wp_nx k45_18 rfl
theorem k45_19 : mCode 45 19 = some (.invokevirtual 84, 3) := by decide +kernel
theorem x45_19 {E : ME} {ls : MLs} {st : List MV} {g : MG} {μ : MU} {Q : Option MV → MG → MU → Prop} {r : Nat} {a0 : Int} {a1 : Int} {a2 : Int} : Wp E 45 19 ls (.inl a2 :: .inl a1 :: .inl a0 :: .inr (.inr (.inl r)) :: st) g μ Q = ((st.length ≤ 4 ∧ ((mKd g r).1 == 0) = true) ∧ Wp E 12 0 [some (.inr (.inr (.inl r))), some (.inl a0), some (.inl a1), some (.inl a2), none] [] g μ (fun r g' μ' => (g'.1 = g.1 ∧ g'.2.1 = g.2.1) ∧ Wp E 45 22 ls (mPush r st) g' μ' Q)) := Wp_cV k45_19 m5_84 (by decide) (as := [.inr (.inr (.inl r)), .inl a0, .inl a1, .inl a2]) rfl rfl rfl ⟨Nat.le_of_ble_eq_true rfl, by decide⟩
theorem k45_22 : mCode 45 22 = some (.invokevirtual 66, 3) := by decide +kernel
theorem x45_22 {E : ME} {ls : MLs} {st : List MV} {g : MG} {μ : MU} {Q : Option MV → MG → MU → Prop} {r : Nat} {a0 : Int} : Wp E 45 22 ls (.inl a0 :: .inr (.inr (.inl r)) :: st) g μ Q = ((st.length ≤ 4 ∧ ((mKd g r).1 == 5) = true) ∧ Wp E 47 0 [some (.inr (.inr (.inl r))), some (.inl a0)] [] g μ (fun r g' μ' => (g'.1 = g.1 ∧ g'.2.1 = g.2.1) ∧ Wp E 45 25 ls (mPush r st) g' μ' Q)) := Wp_cV k45_22 m5_66 (by decide) (as := [.inr (.inr (.inl r)), .inl a0]) rfl rfl rfl ⟨Nat.le_of_ble_eq_true rfl, by decide⟩
theorem k45_25 : mCode 45 25 = some (.ireturn, 1) := by decide +kernel
theorem x45_25 {E : ME} {ls : MLs} {g : MG} {μ : MU} {Q : Option MV → MG → MU → Prop} {v : Int} : Wp E 45 25 ls [.inl v] g μ Q = Q (some (.inl v)) g μ := Wp_retI k45_25 (by decide)
theorem k46_0 : mCode 46 0 = some (.aload_n 0, 1) := by decide +kernel
theorem x46_0 {E : ME} {ls : MLs} {st : List MV} {g : MG} {μ : MU} {Q : Option MV → MG → MU → Prop} {v : Nat ⊕ Nat} : Wp E 46 0 (some (.inr (.inr v)) :: ls) st g μ Q = Wp E 46 1 (some (.inr (.inr v)) :: ls) (.inr (.inr v) :: st) g μ Q := Wp_nx k46_0 rfl
theorem k46_1 : mCode 46 1 = some (.getfield 26, 3) := by decide +kernel
theorem x46_1 {E : ME} {ls : MLs} {st : List MV} {g : MG} {μ : MU} {Q : Option MV → MG → MU → Prop} {a : Nat} : Wp E 46 1 ls (.inr (.inr (.inl a)) :: st) g μ Q = ((mKd g a).1 = 5 ∧ Wp E 46 4 ls (mRv (mRf g a 2) :: st) g μ Q) := Wp_getR k46_1 f5_26 (by decide) (by decide)
theorem k46_4 : mCode 46 4 = some (.aload_n 0, 1) := by decide +kernel
theorem x46_4 {E : ME} {ls : MLs} {st : List MV} {g : MG} {μ : MU} {Q : Option MV → MG → MU → Prop} {v : Nat ⊕ Nat} : Wp E 46 4 (some (.inr (.inr v)) :: ls) st g μ Q = Wp E 46 5 (some (.inr (.inr v)) :: ls) (.inr (.inr v) :: st) g μ Q := Wp_nx k46_4 rfl
theorem k46_5 : mCode 46 5 = some (.getfield 10, 3) := by decide +kernel
theorem x46_5 {E : ME} {ls : MLs} {st : List MV} {g : MG} {μ : MU} {Q : Option MV → MG → MU → Prop} {a : Nat} : Wp E 46 5 ls (.inr (.inr (.inl a)) :: st) g μ Q = ((mKd g a).1 = 5 ∧ Wp E 46 8 ls (mRv (mRf g a 0) :: st) g μ Q) := Wp_getR k46_5 f5_10 (by decide) (by decide)
theorem k46_8 : mCode 46 8 = some (.invokevirtual 58, 3) := by decide +kernel
theorem x46_8 {E : ME} {ls : MLs} {st : List MV} {g : MG} {μ : MU} {Q : Option MV → MG → MU → Prop} {r : Nat} {a0 : Nat ⊕ Nat} : Wp E 46 8 ls (.inr (.inr a0) :: .inr (.inr (.inl r)) :: st) g μ Q = ((st.length ≤ 4 ∧ ((mKd g r).1 == 1) = true) ∧ Wp E 15 0 [some (.inr (.inr (.inl r))), some (.inr (.inr a0))] [] g μ (fun r g' μ' => (g'.1 = g.1 ∧ g'.2.1 = g.2.1) ∧ Wp E 46 11 ls (mPush r st) g' μ' Q)) := Wp_cV k46_8 m5_58 (by decide) (as := [.inr (.inr (.inl r)), .inr (.inr a0)]) rfl rfl rfl ⟨Nat.le_of_ble_eq_true rfl, by decide⟩
theorem k46_11 : mCode 46 11 = some (.aload_n 0, 1) := by decide +kernel
theorem x46_11 {E : ME} {ls : MLs} {st : List MV} {g : MG} {μ : MU} {Q : Option MV → MG → MU → Prop} {v : Nat ⊕ Nat} : Wp E 46 11 (some (.inr (.inr v)) :: ls) st g μ Q = Wp E 46 12 (some (.inr (.inr v)) :: ls) (.inr (.inr v) :: st) g μ Q := Wp_nx k46_11 rfl
theorem k46_12 : mCode 46 12 = some (.aload_n 0, 1) := by decide +kernel
theorem x46_12 {E : ME} {ls : MLs} {st : List MV} {g : MG} {μ : MU} {Q : Option MV → MG → MU → Prop} {v : Nat ⊕ Nat} : Wp E 46 12 (some (.inr (.inr v)) :: ls) st g μ Q = Wp E 46 13 (some (.inr (.inr v)) :: ls) (.inr (.inr v) :: st) g μ Q := Wp_nx k46_12 rfl
theorem k46_13 : mCode 46 13 = some (.getfield 10, 3) := by decide +kernel
theorem x46_13 {E : ME} {ls : MLs} {st : List MV} {g : MG} {μ : MU} {Q : Option MV → MG → MU → Prop} {a : Nat} : Wp E 46 13 ls (.inr (.inr (.inl a)) :: st) g μ Q = ((mKd g a).1 = 5 ∧ Wp E 46 16 ls (mRv (mRf g a 0) :: st) g μ Q) := Wp_getR k46_13 f5_10 (by decide) (by decide)
theorem k46_16 : mCode 46 16 = some (.iload_n 1, 1) := by decide +kernel
theorem x46_16 {E : ME} {ls : MLs} {st : List MV} {g : MG} {μ : MU} {Q : Option MV → MG → MU → Prop} {l0 : Option MV} {v : Int} : Wp E 46 16 (l0 :: some (.inl v) :: ls) st g μ Q = Wp E 46 17 (l0 :: some (.inl v) :: ls) (.inl v :: st) g μ Q := Wp_nx k46_16 rfl
theorem k46_17 : mCode 46 17 = some (.iload_n 2, 1) := by decide +kernel
theorem x46_17 {E : ME} {ls : MLs} {st : List MV} {g : MG} {μ : MU} {Q : Option MV → MG → MU → Prop} {l0 l1 : Option MV} {v : Int} : Wp E 46 17 (l0 :: l1 :: some (.inl v) :: ls) st g μ Q = Wp E 46 18 (l0 :: l1 :: some (.inl v) :: ls) (.inl v :: st) g μ Q := Wp_nx k46_17 rfl
theorem k46_18 : mCode 46 18 = some (.invokevirtual 87, 3) := by decide +kernel
theorem x46_18 {E : ME} {ls : MLs} {st : List MV} {g : MG} {μ : MU} {Q : Option MV → MG → MU → Prop} {r : Nat} {a0 : Int} {a1 : Int} : Wp E 46 18 ls (.inl a1 :: .inl a0 :: .inr (.inr (.inl r)) :: st) g μ Q = ((st.length ≤ 4 ∧ ((mKd g r).1 == 0) = true) ∧ Wp E 13 0 [some (.inr (.inr (.inl r))), some (.inl a0), some (.inl a1), none] [] g μ (fun r g' μ' => (g'.1 = g.1 ∧ g'.2.1 = g.2.1) ∧ Wp E 46 21 ls (mPush r st) g' μ' Q)) := Wp_cV k46_18 m5_87 (by decide) (as := [.inr (.inr (.inl r)), .inl a0, .inl a1]) rfl rfl rfl ⟨Nat.le_of_ble_eq_true rfl, by decide⟩
theorem k46_21 : mCode 46 21 = some (.invokevirtual 66, 3) := by decide +kernel
theorem x46_21 {E : ME} {ls : MLs} {st : List MV} {g : MG} {μ : MU} {Q : Option MV → MG → MU → Prop} {r : Nat} {a0 : Int} : Wp E 46 21 ls (.inl a0 :: .inr (.inr (.inl r)) :: st) g μ Q = ((st.length ≤ 4 ∧ ((mKd g r).1 == 5) = true) ∧ Wp E 47 0 [some (.inr (.inr (.inl r))), some (.inl a0)] [] g μ (fun r g' μ' => (g'.1 = g.1 ∧ g'.2.1 = g.2.1) ∧ Wp E 46 24 ls (mPush r st) g' μ' Q)) := Wp_cV k46_21 m5_66 (by decide) (as := [.inr (.inr (.inl r)), .inl a0]) rfl rfl rfl ⟨Nat.le_of_ble_eq_true rfl, by decide⟩
theorem k46_24 : mCode 46 24 = some (.ireturn, 1) := by decide +kernel
theorem x46_24 {E : ME} {ls : MLs} {g : MG} {μ : MU} {Q : Option MV → MG → MU → Prop} {v : Int} : Wp E 46 24 ls [.inl v] g μ Q = Q (some (.inl v)) g μ := Wp_retI k46_24 (by decide)
theorem k47_0 : mCode 47 0 = some (.iload_n 1, 1) := by decide +kernel
theorem x47_0 {E : ME} {ls : MLs} {st : List MV} {g : MG} {μ : MU} {Q : Option MV → MG → MU → Prop} {l0 : Option MV} {v : Int} : Wp E 47 0 (l0 :: some (.inl v) :: ls) st g μ Q = Wp E 47 1 (l0 :: some (.inl v) :: ls) (.inl v :: st) g μ Q := Wp_nx k47_0 rfl
theorem k47_1 : mCode 47 1 = some (.invokestatic 90, 3) := by decide +kernel
theorem x47_1 {E : ME} {ls : MLs} {st : List MV} {g : MG} {μ : MU} {Q : Option MV → MG → MU → Prop} {a0 : Int} : Wp E 47 1 ls (.inl a0 :: st) g μ Q = (st.length ≤ 4 ∧ Wp E 73 0 [some (.inl a0)] [] g μ (fun r g' μ' => (g'.1 = g.1 ∧ g'.2.1 = g.2.1) ∧ Wp E 47 4 ls (mPush r st) g' μ' Q)) := Wp_cS k47_1 m5_90 (by decide) (as := [.inl a0]) rfl rfl rfl ⟨Nat.le_of_ble_eq_true rfl, by decide⟩
theorem k47_4 : mCode 47 4 = some (.ifCond .ne 10, 3) := by decide +kernel
theorem x47_4 {E : ME} {ls : MLs} {st : List MV} {g : MG} {μ : MU} {Q : Option MV → MG → MU → Prop} {a : Int} : Wp E 47 4 ls (.inl a :: st) g μ Q = ((¬ a = 0 → Wp E 47 14 ls st g μ Q) ∧ (a = 0 → Wp E 47 7 ls st g μ Q)) := Wp_if_ne k47_4 (by decide)
theorem k47_7 : mCode 47 7 = some (.aload_n 0, 1) := by decide +kernel
theorem x47_7 {E : ME} {ls : MLs} {st : List MV} {g : MG} {μ : MU} {Q : Option MV → MG → MU → Prop} {v : Nat ⊕ Nat} : Wp E 47 7 (some (.inr (.inr v)) :: ls) st g μ Q = Wp E 47 8 (some (.inr (.inr v)) :: ls) (.inr (.inr v) :: st) g μ Q := Wp_nx k47_7 rfl
theorem k47_8 : mCode 47 8 = some (.getfield 26, 3) := by decide +kernel
theorem x47_8 {E : ME} {ls : MLs} {st : List MV} {g : MG} {μ : MU} {Q : Option MV → MG → MU → Prop} {a : Nat} : Wp E 47 8 ls (.inr (.inr (.inl a)) :: st) g μ Q = ((mKd g a).1 = 5 ∧ Wp E 47 11 ls (mRv (mRf g a 2) :: st) g μ Q) := Wp_getR k47_8 f5_26 (by decide) (by decide)
theorem k47_11 : mCode 47 11 = some (.invokevirtual 94, 3) := by decide +kernel
theorem x47_11 {E : ME} {ls : MLs} {st : List MV} {g : MG} {μ : MU} {Q : Option MV → MG → MU → Prop} {r : Nat} : Wp E 47 11 ls (.inr (.inr (.inl r)) :: st) g μ Q = ((st.length ≤ 4 ∧ ((mKd g r).1 == 1) = true) ∧ Wp E 16 0 [some (.inr (.inr (.inl r)))] [] g μ (fun r g' μ' => (g'.1 = g.1 ∧ g'.2.1 = g.2.1) ∧ Wp E 47 14 ls (mPush r st) g' μ' Q)) := Wp_cV k47_11 m5_94 (by decide) (as := [.inr (.inr (.inl r))]) rfl rfl rfl ⟨Nat.le_of_ble_eq_true rfl, by decide⟩
theorem k47_14 : mCode 47 14 = some (.iload_n 1, 1) := by decide +kernel
theorem x47_14 {E : ME} {ls : MLs} {st : List MV} {g : MG} {μ : MU} {Q : Option MV → MG → MU → Prop} {l0 : Option MV} {v : Int} : Wp E 47 14 (l0 :: some (.inl v) :: ls) st g μ Q = Wp E 47 15 (l0 :: some (.inl v) :: ls) (.inl v :: st) g μ Q := Wp_nx k47_14 rfl
theorem k47_15 : mCode 47 15 = some (.ireturn, 1) := by decide +kernel
theorem x47_15 {E : ME} {ls : MLs} {g : MG} {μ : MU} {Q : Option MV → MG → MU → Prop} {v : Int} : Wp E 47 15 ls [.inl v] g μ Q = Q (some (.inl v)) g μ := Wp_retI k47_15 (by decide)
theorem k48_0 : mCode 48 0 = some (.aload_n 0, 1) := by decide +kernel
theorem x48_0 {E : ME} {ls : MLs} {st : List MV} {g : MG} {μ : MU} {Q : Option MV → MG → MU → Prop} {v : Nat ⊕ Nat} : Wp E 48 0 (some (.inr (.inr v)) :: ls) st g μ Q = Wp E 48 1 (some (.inr (.inr v)) :: ls) (.inr (.inr v) :: st) g μ Q := Wp_nx k48_0 rfl
theorem k48_1 : mCode 48 1 = some (.getfield 10, 3) := by decide +kernel
theorem x48_1 {E : ME} {ls : MLs} {st : List MV} {g : MG} {μ : MU} {Q : Option MV → MG → MU → Prop} {a : Nat} : Wp E 48 1 ls (.inr (.inr (.inl a)) :: st) g μ Q = ((mKd g a).1 = 5 ∧ Wp E 48 4 ls (mRv (mRf g a 0) :: st) g μ Q) := Wp_getR k48_1 f5_10 (by decide) (by decide)
theorem k48_4 : mCode 48 4 = some (.iload_n 1, 1) := by decide +kernel
theorem x48_4 {E : ME} {ls : MLs} {st : List MV} {g : MG} {μ : MU} {Q : Option MV → MG → MU → Prop} {l0 : Option MV} {v : Int} : Wp E 48 4 (l0 :: some (.inl v) :: ls) st g μ Q = Wp E 48 5 (l0 :: some (.inl v) :: ls) (.inl v :: st) g μ Q := Wp_nx k48_4 rfl
theorem k48_5 : mCode 48 5 = some (.invokevirtual 97, 3) := by decide +kernel
theorem x48_5 {E : ME} {ls : MLs} {st : List MV} {g : MG} {μ : MU} {Q : Option MV → MG → MU → Prop} {r : Nat} {a0 : Int} : Wp E 48 5 ls (.inl a0 :: .inr (.inr (.inl r)) :: st) g μ Q = ((st.length ≤ 4 ∧ ((mKd g r).1 == 0) = true) ∧ Wp E 2 0 [some (.inr (.inr (.inl r))), some (.inl a0)] [] g μ (fun r g' μ' => (g'.1 = g.1 ∧ g'.2.1 = g.2.1) ∧ Wp E 48 8 ls (mPush r st) g' μ' Q)) := Wp_cV k48_5 m5_97 (by decide) (as := [.inr (.inr (.inl r)), .inl a0]) rfl rfl rfl ⟨Nat.le_of_ble_eq_true rfl, by decide⟩
theorem k48_8 : mCode 48 8 = some (.ifCond .ne 5, 3) := by decide +kernel
theorem x48_8 {E : ME} {ls : MLs} {st : List MV} {g : MG} {μ : MU} {Q : Option MV → MG → MU → Prop} {a : Int} : Wp E 48 8 ls (.inl a :: st) g μ Q = ((¬ a = 0 → Wp E 48 13 ls st g μ Q) ∧ (a = 0 → Wp E 48 11 ls st g μ Q)) := Wp_if_ne k48_8 (by decide)
theorem k48_11 : mCode 48 11 = some (.iconst (-1), 1) := by decide +kernel
theorem x48_11 {E : ME} {ls : MLs} {st : List MV} {g : MG} {μ : MU} {Q : Option MV → MG → MU → Prop} : Wp E 48 11 ls st g μ Q = Wp E 48 12 ls (.inl (-1) :: st) g μ Q := Wp_nx k48_11 rfl
theorem k48_12 : mCode 48 12 = some (.ireturn, 1) := by decide +kernel
theorem x48_12 {E : ME} {ls : MLs} {g : MG} {μ : MU} {Q : Option MV → MG → MU → Prop} {v : Int} : Wp E 48 12 ls [.inl v] g μ Q = Q (some (.inl v)) g μ := Wp_retI k48_12 (by decide)
theorem k48_13 : mCode 48 13 = some (.aload_n 0, 1) := by decide +kernel
theorem x48_13 {E : ME} {ls : MLs} {st : List MV} {g : MG} {μ : MU} {Q : Option MV → MG → MU → Prop} {v : Nat ⊕ Nat} : Wp E 48 13 (some (.inr (.inr v)) :: ls) st g μ Q = Wp E 48 14 (some (.inr (.inr v)) :: ls) (.inr (.inr v) :: st) g μ Q := Wp_nx k48_13 rfl
theorem k48_14 : mCode 48 14 = some (.getfield 19, 3) := by decide +kernel
theorem x48_14 {E : ME} {ls : MLs} {st : List MV} {g : MG} {μ : MU} {Q : Option MV → MG → MU → Prop} {a : Nat} : Wp E 48 14 ls (.inr (.inr (.inl a)) :: st) g μ Q = ((mKd g a).1 = 5 ∧ Wp E 48 17 ls (mRv (mRf g a 1) :: st) g μ Q) := Wp_getR k48_14 f5_19 (by decide) (by decide)
theorem k48_17 : mCode 48 17 = some (.aload_n 0, 1) := by decide +kernel
theorem x48_17 {E : ME} {ls : MLs} {st : List MV} {g : MG} {μ : MU} {Q : Option MV → MG → MU → Prop} {v : Nat ⊕ Nat} : Wp E 48 17 (some (.inr (.inr v)) :: ls) st g μ Q = Wp E 48 18 (some (.inr (.inr v)) :: ls) (.inr (.inr v) :: st) g μ Q := Wp_nx k48_17 rfl
theorem k48_18 : mCode 48 18 = some (.getfield 10, 3) := by decide +kernel
theorem x48_18 {E : ME} {ls : MLs} {st : List MV} {g : MG} {μ : MU} {Q : Option MV → MG → MU → Prop} {a : Nat} : Wp E 48 18 ls (.inr (.inr (.inl a)) :: st) g μ Q = ((mKd g a).1 = 5 ∧ Wp E 48 21 ls (mRv (mRf g a 0) :: st) g μ Q) := Wp_getR k48_18 f5_10 (by decide) (by decide)
theorem k48_21 : mCode 48 21 = some (.invokevirtual 100, 3) := by decide +kernel
theorem x48_21 {E : ME} {ls : MLs} {st : List MV} {g : MG} {μ : MU} {Q : Option MV → MG → MU → Prop} {r : Nat} {a0 : Nat ⊕ Nat} : Wp E 48 21 ls (.inr (.inr a0) :: .inr (.inr (.inl r)) :: st) g μ Q = ((st.length ≤ 4 ∧ ((mKd g r).1 == 3) = true) ∧ Wp E 28 0 [some (.inr (.inr (.inl r))), some (.inr (.inr a0)), none] [] g μ (fun r g' μ' => (g'.1 = g.1 ∧ g'.2.1 = g.2.1) ∧ Wp E 48 24 ls (mPush r st) g' μ' Q)) := Wp_cV k48_21 m5_100 (by decide) (as := [.inr (.inr (.inl r)), .inr (.inr a0)]) rfl rfl rfl ⟨Nat.le_of_ble_eq_true rfl, by decide⟩
theorem k48_24 : mCode 48 24 = some (.iload_n 2, 1) := by decide +kernel
theorem x48_24 {E : ME} {ls : MLs} {st : List MV} {g : MG} {μ : MU} {Q : Option MV → MG → MU → Prop} {l0 l1 : Option MV} {v : Int} : Wp E 48 24 (l0 :: l1 :: some (.inl v) :: ls) st g μ Q = Wp E 48 25 (l0 :: l1 :: some (.inl v) :: ls) (.inl v :: st) g μ Q := Wp_nx k48_24 rfl
theorem k48_25 : mCode 48 25 = some (.tableswitch 112 0 5 #[39, 49, 59, 69, 82, 92], 39) := by decide +kernel
theorem x48_25_0 {E : ME} {ls : MLs} {st : List MV} {g : MG} {μ : MU} {Q : Option MV → MG → MU → Prop} : Wp E 48 25 ls (.inl 0 :: st) g μ Q = Wp E 48 64 ls st g μ Q := Wp_nx k48_25 rfl
theorem x48_25_1 {E : ME} {ls : MLs} {st : List MV} {g : MG} {μ : MU} {Q : Option MV → MG → MU → Prop} : Wp E 48 25 ls (.inl 1 :: st) g μ Q = Wp E 48 74 ls st g μ Q := Wp_nx k48_25 rfl
theorem x48_25_2 {E : ME} {ls : MLs} {st : List MV} {g : MG} {μ : MU} {Q : Option MV → MG → MU → Prop} : Wp E 48 25 ls (.inl 2 :: st) g μ Q = Wp E 48 84 ls st g μ Q := Wp_nx k48_25 rfl
theorem x48_25_3 {E : ME} {ls : MLs} {st : List MV} {g : MG} {μ : MU} {Q : Option MV → MG → MU → Prop} : Wp E 48 25 ls (.inl 3 :: st) g μ Q = Wp E 48 94 ls st g μ Q := Wp_nx k48_25 rfl
theorem x48_25_4 {E : ME} {ls : MLs} {st : List MV} {g : MG} {μ : MU} {Q : Option MV → MG → MU → Prop} : Wp E 48 25 ls (.inl 4 :: st) g μ Q = Wp E 48 107 ls st g μ Q := Wp_nx k48_25 rfl
theorem x48_25_5 {E : ME} {ls : MLs} {st : List MV} {g : MG} {μ : MU} {Q : Option MV → MG → MU → Prop} : Wp E 48 25 ls (.inl 5 :: st) g μ Q = Wp E 48 117 ls st g μ Q := Wp_nx k48_25 rfl
theorem x48_25_d {E : ME} {ls : MLs} {st : List MV} {g : MG} {μ : MU} {Q : Option MV → MG → MU → Prop} {a : Int} (h : a < 0 ∨ 5 < a) : Wp E 48 25 ls (.inl a :: st) g μ Q = Wp E 48 137 ls st g μ Q := Wp_tswD k48_25 h (by decide)
theorem k48_64 : mCode 48 64 = some (.aload_n 0, 1) := by decide +kernel
theorem x48_64 {E : ME} {ls : MLs} {st : List MV} {g : MG} {μ : MU} {Q : Option MV → MG → MU → Prop} {v : Nat ⊕ Nat} : Wp E 48 64 (some (.inr (.inr v)) :: ls) st g μ Q = Wp E 48 65 (some (.inr (.inr v)) :: ls) (.inr (.inr v) :: st) g μ Q := Wp_nx k48_64 rfl
theorem k48_65 : mCode 48 65 = some (.getfield 10, 3) := by decide +kernel
theorem x48_65 {E : ME} {ls : MLs} {st : List MV} {g : MG} {μ : MU} {Q : Option MV → MG → MU → Prop} {a : Nat} : Wp E 48 65 ls (.inr (.inr (.inl a)) :: st) g μ Q = ((mKd g a).1 = 5 ∧ Wp E 48 68 ls (mRv (mRf g a 0) :: st) g μ Q) := Wp_getR k48_65 f5_10 (by decide) (by decide)
theorem k48_68 : mCode 48 68 = some (.getfield 103, 3) := by decide +kernel
theorem x48_68 {E : ME} {ls : MLs} {st : List MV} {g : MG} {μ : MU} {Q : Option MV → MG → MU → Prop} {a : Nat} : Wp E 48 68 ls (.inr (.inr (.inl a)) :: st) g μ Q = ((mKd g a).1 = 0 ∧ Wp E 48 71 ls (mRv (mRf g a 3) :: st) g μ Q) := Wp_getR k48_68 f5_103 (by decide) (by decide)
theorem k48_71 : mCode 48 71 = some (.iload_n 1, 1) := by decide +kernel
theorem x48_71 {E : ME} {ls : MLs} {st : List MV} {g : MG} {μ : MU} {Q : Option MV → MG → MU → Prop} {l0 : Option MV} {v : Int} : Wp E 48 71 (l0 :: some (.inl v) :: ls) st g μ Q = Wp E 48 72 (l0 :: some (.inl v) :: ls) (.inl v :: st) g μ Q := Wp_nx k48_71 rfl
theorem k48_72 : mCode 48 72 = some (.iaload, 1) := by decide +kernel
theorem x48_72 {E : ME} {ls : MLs} {st : List MV} {g : MG} {μ : MU} {Q : Option MV → MG → MU → Prop} {a : Nat} {j : Int} : Wp E 48 72 ls (.inl j :: .inr (.inr (.inl a)) :: st) g μ Q = (((mKd g a).1 = 10 ∧ 0 ≤ j ∧ j < (mKd g a).2) ∧ Wp E 48 73 ls (.inl (μ a j.toNat) :: st) g μ Q) := Wp_ald k48_72 (fun _ => rfl)
theorem k48_73 : mCode 48 73 = some (.ireturn, 1) := by decide +kernel
theorem x48_73 {E : ME} {ls : MLs} {g : MG} {μ : MU} {Q : Option MV → MG → MU → Prop} {v : Int} : Wp E 48 73 ls [.inl v] g μ Q = Q (some (.inl v)) g μ := Wp_retI k48_73 (by decide)
theorem k48_74 : mCode 48 74 = some (.aload_n 0, 1) := by decide +kernel
theorem x48_74 {E : ME} {ls : MLs} {st : List MV} {g : MG} {μ : MU} {Q : Option MV → MG → MU → Prop} {v : Nat ⊕ Nat} : Wp E 48 74 (some (.inr (.inr v)) :: ls) st g μ Q = Wp E 48 75 (some (.inr (.inr v)) :: ls) (.inr (.inr v) :: st) g μ Q := Wp_nx k48_74 rfl
theorem k48_75 : mCode 48 75 = some (.getfield 10, 3) := by decide +kernel
theorem x48_75 {E : ME} {ls : MLs} {st : List MV} {g : MG} {μ : MU} {Q : Option MV → MG → MU → Prop} {a : Nat} : Wp E 48 75 ls (.inr (.inr (.inl a)) :: st) g μ Q = ((mKd g a).1 = 5 ∧ Wp E 48 78 ls (mRv (mRf g a 0) :: st) g μ Q) := Wp_getR k48_75 f5_10 (by decide) (by decide)
theorem k48_78 : mCode 48 78 = some (.getfield 107, 3) := by decide +kernel
theorem x48_78 {E : ME} {ls : MLs} {st : List MV} {g : MG} {μ : MU} {Q : Option MV → MG → MU → Prop} {a : Nat} : Wp E 48 78 ls (.inr (.inr (.inl a)) :: st) g μ Q = ((mKd g a).1 = 0 ∧ Wp E 48 81 ls (mRv (mRf g a 4) :: st) g μ Q) := Wp_getR k48_78 f5_107 (by decide) (by decide)
theorem k48_81 : mCode 48 81 = some (.iload_n 1, 1) := by decide +kernel
theorem x48_81 {E : ME} {ls : MLs} {st : List MV} {g : MG} {μ : MU} {Q : Option MV → MG → MU → Prop} {l0 : Option MV} {v : Int} : Wp E 48 81 (l0 :: some (.inl v) :: ls) st g μ Q = Wp E 48 82 (l0 :: some (.inl v) :: ls) (.inl v :: st) g μ Q := Wp_nx k48_81 rfl
theorem k48_82 : mCode 48 82 = some (.iaload, 1) := by decide +kernel
theorem x48_82 {E : ME} {ls : MLs} {st : List MV} {g : MG} {μ : MU} {Q : Option MV → MG → MU → Prop} {a : Nat} {j : Int} : Wp E 48 82 ls (.inl j :: .inr (.inr (.inl a)) :: st) g μ Q = (((mKd g a).1 = 10 ∧ 0 ≤ j ∧ j < (mKd g a).2) ∧ Wp E 48 83 ls (.inl (μ a j.toNat) :: st) g μ Q) := Wp_ald k48_82 (fun _ => rfl)
theorem k48_83 : mCode 48 83 = some (.ireturn, 1) := by decide +kernel
theorem x48_83 {E : ME} {ls : MLs} {g : MG} {μ : MU} {Q : Option MV → MG → MU → Prop} {v : Int} : Wp E 48 83 ls [.inl v] g μ Q = Q (some (.inl v)) g μ := Wp_retI k48_83 (by decide)
theorem k48_84 : mCode 48 84 = some (.aload_n 0, 1) := by decide +kernel
theorem x48_84 {E : ME} {ls : MLs} {st : List MV} {g : MG} {μ : MU} {Q : Option MV → MG → MU → Prop} {v : Nat ⊕ Nat} : Wp E 48 84 (some (.inr (.inr v)) :: ls) st g μ Q = Wp E 48 85 (some (.inr (.inr v)) :: ls) (.inr (.inr v) :: st) g μ Q := Wp_nx k48_84 rfl
theorem k48_85 : mCode 48 85 = some (.getfield 10, 3) := by decide +kernel
theorem x48_85 {E : ME} {ls : MLs} {st : List MV} {g : MG} {μ : MU} {Q : Option MV → MG → MU → Prop} {a : Nat} : Wp E 48 85 ls (.inr (.inr (.inl a)) :: st) g μ Q = ((mKd g a).1 = 5 ∧ Wp E 48 88 ls (mRv (mRf g a 0) :: st) g μ Q) := Wp_getR k48_85 f5_10 (by decide) (by decide)
theorem k48_88 : mCode 48 88 = some (.getfield 110, 3) := by decide +kernel
theorem x48_88 {E : ME} {ls : MLs} {st : List MV} {g : MG} {μ : MU} {Q : Option MV → MG → MU → Prop} {a : Nat} : Wp E 48 88 ls (.inr (.inr (.inl a)) :: st) g μ Q = ((mKd g a).1 = 0 ∧ Wp E 48 91 ls (mRv (mRf g a 5) :: st) g μ Q) := Wp_getR k48_88 f5_110 (by decide) (by decide)
theorem k48_91 : mCode 48 91 = some (.iload_n 1, 1) := by decide +kernel
theorem x48_91 {E : ME} {ls : MLs} {st : List MV} {g : MG} {μ : MU} {Q : Option MV → MG → MU → Prop} {l0 : Option MV} {v : Int} : Wp E 48 91 (l0 :: some (.inl v) :: ls) st g μ Q = Wp E 48 92 (l0 :: some (.inl v) :: ls) (.inl v :: st) g μ Q := Wp_nx k48_91 rfl
theorem k48_92 : mCode 48 92 = some (.iaload, 1) := by decide +kernel
theorem x48_92 {E : ME} {ls : MLs} {st : List MV} {g : MG} {μ : MU} {Q : Option MV → MG → MU → Prop} {a : Nat} {j : Int} : Wp E 48 92 ls (.inl j :: .inr (.inr (.inl a)) :: st) g μ Q = (((mKd g a).1 = 10 ∧ 0 ≤ j ∧ j < (mKd g a).2) ∧ Wp E 48 93 ls (.inl (μ a j.toNat) :: st) g μ Q) := Wp_ald k48_92 (fun _ => rfl)
theorem k48_93 : mCode 48 93 = some (.ireturn, 1) := by decide +kernel
theorem x48_93 {E : ME} {ls : MLs} {g : MG} {μ : MU} {Q : Option MV → MG → MU → Prop} {v : Int} : Wp E 48 93 ls [.inl v] g μ Q = Q (some (.inl v)) g μ := Wp_retI k48_93 (by decide)
theorem k48_94 : mCode 48 94 = some (.aload_n 0, 1) := by decide +kernel
theorem x48_94 {E : ME} {ls : MLs} {st : List MV} {g : MG} {μ : MU} {Q : Option MV → MG → MU → Prop} {v : Nat ⊕ Nat} : Wp E 48 94 (some (.inr (.inr v)) :: ls) st g μ Q = Wp E 48 95 (some (.inr (.inr v)) :: ls) (.inr (.inr v) :: st) g μ Q := Wp_nx k48_94 rfl
theorem k48_95 : mCode 48 95 = some (.aload_n 0, 1) := by decide +kernel
theorem x48_95 {E : ME} {ls : MLs} {st : List MV} {g : MG} {μ : MU} {Q : Option MV → MG → MU → Prop} {v : Nat ⊕ Nat} : Wp E 48 95 (some (.inr (.inr v)) :: ls) st g μ Q = Wp E 48 96 (some (.inr (.inr v)) :: ls) (.inr (.inr v) :: st) g μ Q := Wp_nx k48_95 rfl
theorem k48_96 : mCode 48 96 = some (.getfield 10, 3) := by decide +kernel
theorem x48_96 {E : ME} {ls : MLs} {st : List MV} {g : MG} {μ : MU} {Q : Option MV → MG → MU → Prop} {a : Nat} : Wp E 48 96 ls (.inr (.inr (.inl a)) :: st) g μ Q = ((mKd g a).1 = 5 ∧ Wp E 48 99 ls (mRv (mRf g a 0) :: st) g μ Q) := Wp_getR k48_96 f5_10 (by decide) (by decide)
theorem k48_99 : mCode 48 99 = some (.getfield 113, 3) := by decide +kernel
theorem x48_99 {E : ME} {ls : MLs} {st : List MV} {g : MG} {μ : MU} {Q : Option MV → MG → MU → Prop} {a : Nat} : Wp E 48 99 ls (.inr (.inr (.inl a)) :: st) g μ Q = ((mKd g a).1 = 0 ∧ Wp E 48 102 ls (mRv (mRf g a 8) :: st) g μ Q) := Wp_getR k48_99 f5_113 (by decide) (by decide)
theorem k48_102 : mCode 48 102 = some (.iload_n 1, 1) := by decide +kernel
theorem x48_102 {E : ME} {ls : MLs} {st : List MV} {g : MG} {μ : MU} {Q : Option MV → MG → MU → Prop} {l0 : Option MV} {v : Int} : Wp E 48 102 (l0 :: some (.inl v) :: ls) st g μ Q = Wp E 48 103 (l0 :: some (.inl v) :: ls) (.inl v :: st) g μ Q := Wp_nx k48_102 rfl
theorem k48_103 : mCode 48 103 = some (.invokevirtual 116, 3) := by decide +kernel
theorem x48_103 {E : ME} {ls : MLs} {st : List MV} {g : MG} {μ : MU} {Q : Option MV → MG → MU → Prop} {r : Nat} {a0 : Nat ⊕ Nat} {a1 : Int} : Wp E 48 103 ls (.inl a1 :: .inr (.inr a0) :: .inr (.inr (.inl r)) :: st) g μ Q = ((st.length ≤ 4 ∧ ((mKd g r).1 == 5) = true) ∧ Wp E 57 0 [some (.inr (.inr (.inl r))), some (.inr (.inr a0)), some (.inl a1), none, none] [] g μ (fun r g' μ' => (g'.1 = g.1 ∧ g'.2.1 = g.2.1) ∧ Wp E 48 106 ls (mPush r st) g' μ' Q)) := Wp_cV k48_103 m5_116 (by decide) (as := [.inr (.inr (.inl r)), .inr (.inr a0), .inl a1]) rfl rfl rfl ⟨Nat.le_of_ble_eq_true rfl, by decide⟩
theorem k48_106 : mCode 48 106 = some (.ireturn, 1) := by decide +kernel
theorem x48_106 {E : ME} {ls : MLs} {g : MG} {μ : MU} {Q : Option MV → MG → MU → Prop} {v : Int} : Wp E 48 106 ls [.inl v] g μ Q = Q (some (.inl v)) g μ := Wp_retI k48_106 (by decide)
theorem k48_107 : mCode 48 107 = some (.aload_n 0, 1) := by decide +kernel
theorem x48_107 {E : ME} {ls : MLs} {st : List MV} {g : MG} {μ : MU} {Q : Option MV → MG → MU → Prop} {v : Nat ⊕ Nat} : Wp E 48 107 (some (.inr (.inr v)) :: ls) st g μ Q = Wp E 48 108 (some (.inr (.inr v)) :: ls) (.inr (.inr v) :: st) g μ Q := Wp_nx k48_107 rfl
theorem k48_108 : mCode 48 108 = some (.getfield 19, 3) := by decide +kernel
theorem x48_108 {E : ME} {ls : MLs} {st : List MV} {g : MG} {μ : MU} {Q : Option MV → MG → MU → Prop} {a : Nat} : Wp E 48 108 ls (.inr (.inr (.inl a)) :: st) g μ Q = ((mKd g a).1 = 5 ∧ Wp E 48 111 ls (mRv (mRf g a 1) :: st) g μ Q) := Wp_getR k48_108 f5_19 (by decide) (by decide)
theorem k48_111 : mCode 48 111 = some (.getfield 120, 3) := by decide +kernel
theorem x48_111 {E : ME} {ls : MLs} {st : List MV} {g : MG} {μ : MU} {Q : Option MV → MG → MU → Prop} {a : Nat} : Wp E 48 111 ls (.inr (.inr (.inl a)) :: st) g μ Q = ((mKd g a).1 = 3 ∧ Wp E 48 114 ls (mRv (mRf g a 9) :: st) g μ Q) := Wp_getR k48_111 f5_120 (by decide) (by decide)
theorem k48_114 : mCode 48 114 = some (.iload_n 1, 1) := by decide +kernel
theorem x48_114 {E : ME} {ls : MLs} {st : List MV} {g : MG} {μ : MU} {Q : Option MV → MG → MU → Prop} {l0 : Option MV} {v : Int} : Wp E 48 114 (l0 :: some (.inl v) :: ls) st g μ Q = Wp E 48 115 (l0 :: some (.inl v) :: ls) (.inl v :: st) g μ Q := Wp_nx k48_114 rfl
theorem k48_115 : mCode 48 115 = some (.iaload, 1) := by decide +kernel
theorem x48_115 {E : ME} {ls : MLs} {st : List MV} {g : MG} {μ : MU} {Q : Option MV → MG → MU → Prop} {a : Nat} {j : Int} : Wp E 48 115 ls (.inl j :: .inr (.inr (.inl a)) :: st) g μ Q = (((mKd g a).1 = 10 ∧ 0 ≤ j ∧ j < (mKd g a).2) ∧ Wp E 48 116 ls (.inl (μ a j.toNat) :: st) g μ Q) := Wp_ald k48_115 (fun _ => rfl)
theorem k48_116 : mCode 48 116 = some (.ireturn, 1) := by decide +kernel
theorem x48_116 {E : ME} {ls : MLs} {g : MG} {μ : MU} {Q : Option MV → MG → MU → Prop} {v : Int} : Wp E 48 116 ls [.inl v] g μ Q = Q (some (.inl v)) g μ := Wp_retI k48_116 (by decide)
theorem k48_117 : mCode 48 117 = some (.aload_n 0, 1) := by decide +kernel
theorem x48_117 {E : ME} {ls : MLs} {st : List MV} {g : MG} {μ : MU} {Q : Option MV → MG → MU → Prop} {v : Nat ⊕ Nat} : Wp E 48 117 (some (.inr (.inr v)) :: ls) st g μ Q = Wp E 48 118 (some (.inr (.inr v)) :: ls) (.inr (.inr v) :: st) g μ Q := Wp_nx k48_117 rfl
theorem k48_118 : mCode 48 118 = some (.aload_n 0, 1) := by decide +kernel
theorem x48_118 {E : ME} {ls : MLs} {st : List MV} {g : MG} {μ : MU} {Q : Option MV → MG → MU → Prop} {v : Nat ⊕ Nat} : Wp E 48 118 (some (.inr (.inr v)) :: ls) st g μ Q = Wp E 48 119 (some (.inr (.inr v)) :: ls) (.inr (.inr v) :: st) g μ Q := Wp_nx k48_118 rfl
theorem k48_119 : mCode 48 119 = some (.getfield 19, 3) := by decide +kernel
theorem x48_119 {E : ME} {ls : MLs} {st : List MV} {g : MG} {μ : MU} {Q : Option MV → MG → MU → Prop} {a : Nat} : Wp E 48 119 ls (.inr (.inr (.inl a)) :: st) g μ Q = ((mKd g a).1 = 5 ∧ Wp E 48 122 ls (mRv (mRf g a 1) :: st) g μ Q) := Wp_getR k48_119 f5_19 (by decide) (by decide)
theorem k48_122 : mCode 48 122 = some (.getfield 123, 3) := by decide +kernel
theorem x48_122 {E : ME} {ls : MLs} {st : List MV} {g : MG} {μ : MU} {Q : Option MV → MG → MU → Prop} {a : Nat} : Wp E 48 122 ls (.inr (.inr (.inl a)) :: st) g μ Q = ((mKd g a).1 = 3 ∧ Wp E 48 125 ls (mRv (mRf g a 8) :: st) g μ Q) := Wp_getR k48_122 f5_123 (by decide) (by decide)
theorem k48_125 : mCode 48 125 = some (.aload_n 0, 1) := by decide +kernel
theorem x48_125 {E : ME} {ls : MLs} {st : List MV} {g : MG} {μ : MU} {Q : Option MV → MG → MU → Prop} {v : Nat ⊕ Nat} : Wp E 48 125 (some (.inr (.inr v)) :: ls) st g μ Q = Wp E 48 126 (some (.inr (.inr v)) :: ls) (.inr (.inr v) :: st) g μ Q := Wp_nx k48_125 rfl
theorem k48_126 : mCode 48 126 = some (.getfield 10, 3) := by decide +kernel
theorem x48_126 {E : ME} {ls : MLs} {st : List MV} {g : MG} {μ : MU} {Q : Option MV → MG → MU → Prop} {a : Nat} : Wp E 48 126 ls (.inr (.inr (.inl a)) :: st) g μ Q = ((mKd g a).1 = 5 ∧ Wp E 48 129 ls (mRv (mRf g a 0) :: st) g μ Q) := Wp_getR k48_126 f5_10 (by decide) (by decide)
theorem k48_129 : mCode 48 129 = some (.getfield 113, 3) := by decide +kernel
theorem x48_129 {E : ME} {ls : MLs} {st : List MV} {g : MG} {μ : MU} {Q : Option MV → MG → MU → Prop} {a : Nat} : Wp E 48 129 ls (.inr (.inr (.inl a)) :: st) g μ Q = ((mKd g a).1 = 0 ∧ Wp E 48 132 ls (mRv (mRf g a 8) :: st) g μ Q) := Wp_getR k48_129 f5_113 (by decide) (by decide)
theorem k48_132 : mCode 48 132 = some (.iload_n 1, 1) := by decide +kernel
theorem x48_132 {E : ME} {ls : MLs} {st : List MV} {g : MG} {μ : MU} {Q : Option MV → MG → MU → Prop} {l0 : Option MV} {v : Int} : Wp E 48 132 (l0 :: some (.inl v) :: ls) st g μ Q = Wp E 48 133 (l0 :: some (.inl v) :: ls) (.inl v :: st) g μ Q := Wp_nx k48_132 rfl
theorem k48_133 : mCode 48 133 = some (.invokevirtual 126, 3) := by decide +kernel
theorem x48_133 {E : ME} {ls : MLs} {st : List MV} {g : MG} {μ : MU} {Q : Option MV → MG → MU → Prop} {r : Nat} {a0 : Nat ⊕ Nat} {a1 : Nat ⊕ Nat} {a2 : Int} : Wp E 48 133 ls (.inl a2 :: .inr (.inr a1) :: .inr (.inr a0) :: .inr (.inr (.inl r)) :: st) g μ Q = ((st.length ≤ 4 ∧ ((mKd g r).1 == 5) = true) ∧ Wp E 58 0 [some (.inr (.inr (.inl r))), some (.inr (.inr a0)), some (.inr (.inr a1)), some (.inl a2), none, none] [] g μ (fun r g' μ' => (g'.1 = g.1 ∧ g'.2.1 = g.2.1) ∧ Wp E 48 136 ls (mPush r st) g' μ' Q)) := Wp_cV k48_133 m5_126 (by decide) (as := [.inr (.inr (.inl r)), .inr (.inr a0), .inr (.inr a1), .inl a2]) rfl rfl rfl ⟨Nat.le_of_ble_eq_true rfl, by decide⟩
theorem k48_136 : mCode 48 136 = some (.ireturn, 1) := by decide +kernel
theorem x48_136 {E : ME} {ls : MLs} {g : MG} {μ : MU} {Q : Option MV → MG → MU → Prop} {v : Int} : Wp E 48 136 ls [.inl v] g μ Q = Q (some (.inl v)) g μ := Wp_retI k48_136 (by decide)
theorem k48_137 : mCode 48 137 = some (.bipush (-2), 2) := by decide +kernel
theorem x48_137 {E : ME} {ls : MLs} {st : List MV} {g : MG} {μ : MU} {Q : Option MV → MG → MU → Prop} : Wp E 48 137 ls st g μ Q = Wp E 48 139 ls (.inl (-2) :: st) g μ Q := Wp_nx k48_137 rfl
theorem k48_139 : mCode 48 139 = some (.ireturn, 1) := by decide +kernel
theorem x48_139 {E : ME} {ls : MLs} {g : MG} {μ : MU} {Q : Option MV → MG → MU → Prop} {v : Int} : Wp E 48 139 ls [.inl v] g μ Q = Q (some (.inl v)) g μ := Wp_retI k48_139 (by decide)
theorem k49_0 : mCode 49 0 = some (.aload_n 0, 1) := by decide +kernel
theorem x49_0 {E : ME} {ls : MLs} {st : List MV} {g : MG} {μ : MU} {Q : Option MV → MG → MU → Prop} {v : Nat ⊕ Nat} : Wp E 49 0 (some (.inr (.inr v)) :: ls) st g μ Q = Wp E 49 1 (some (.inr (.inr v)) :: ls) (.inr (.inr v) :: st) g μ Q := Wp_nx k49_0 rfl
theorem k49_1 : mCode 49 1 = some (.getfield 10, 3) := by decide +kernel
theorem x49_1 {E : ME} {ls : MLs} {st : List MV} {g : MG} {μ : MU} {Q : Option MV → MG → MU → Prop} {a : Nat} : Wp E 49 1 ls (.inr (.inr (.inl a)) :: st) g μ Q = ((mKd g a).1 = 5 ∧ Wp E 49 4 ls (mRv (mRf g a 0) :: st) g μ Q) := Wp_getR k49_1 f5_10 (by decide) (by decide)
theorem k49_4 : mCode 49 4 = some (.iload_n 1, 1) := by decide +kernel
theorem x49_4 {E : ME} {ls : MLs} {st : List MV} {g : MG} {μ : MU} {Q : Option MV → MG → MU → Prop} {l0 : Option MV} {v : Int} : Wp E 49 4 (l0 :: some (.inl v) :: ls) st g μ Q = Wp E 49 5 (l0 :: some (.inl v) :: ls) (.inl v :: st) g μ Q := Wp_nx k49_4 rfl
theorem k49_5 : mCode 49 5 = some (.invokevirtual 130, 3) := by decide +kernel
theorem x49_5 {E : ME} {ls : MLs} {st : List MV} {g : MG} {μ : MU} {Q : Option MV → MG → MU → Prop} {r : Nat} {a0 : Int} : Wp E 49 5 ls (.inl a0 :: .inr (.inr (.inl r)) :: st) g μ Q = ((st.length ≤ 4 ∧ ((mKd g r).1 == 0) = true) ∧ Wp E 4 0 [some (.inr (.inr (.inl r))), some (.inl a0)] [] g μ (fun r g' μ' => (g'.1 = g.1 ∧ g'.2.1 = g.2.1) ∧ Wp E 49 8 ls (mPush r st) g' μ' Q)) := Wp_cV k49_5 m5_130 (by decide) (as := [.inr (.inr (.inl r)), .inl a0]) rfl rfl rfl ⟨Nat.le_of_ble_eq_true rfl, by decide⟩
theorem k49_8 : mCode 49 8 = some (.ifCond .ne 5, 3) := by decide +kernel
theorem x49_8 {E : ME} {ls : MLs} {st : List MV} {g : MG} {μ : MU} {Q : Option MV → MG → MU → Prop} {a : Int} : Wp E 49 8 ls (.inl a :: st) g μ Q = ((¬ a = 0 → Wp E 49 13 ls st g μ Q) ∧ (a = 0 → Wp E 49 11 ls st g μ Q)) := Wp_if_ne k49_8 (by decide)
theorem k49_11 : mCode 49 11 = some (.iconst (-1), 1) := by decide +kernel
theorem x49_11 {E : ME} {ls : MLs} {st : List MV} {g : MG} {μ : MU} {Q : Option MV → MG → MU → Prop} : Wp E 49 11 ls st g μ Q = Wp E 49 12 ls (.inl (-1) :: st) g μ Q := Wp_nx k49_11 rfl
theorem k49_12 : mCode 49 12 = some (.ireturn, 1) := by decide +kernel
theorem x49_12 {E : ME} {ls : MLs} {g : MG} {μ : MU} {Q : Option MV → MG → MU → Prop} {v : Int} : Wp E 49 12 ls [.inl v] g μ Q = Q (some (.inl v)) g μ := Wp_retI k49_12 (by decide)
theorem k49_13 : mCode 49 13 = some (.aload_n 0, 1) := by decide +kernel
theorem x49_13 {E : ME} {ls : MLs} {st : List MV} {g : MG} {μ : MU} {Q : Option MV → MG → MU → Prop} {v : Nat ⊕ Nat} : Wp E 49 13 (some (.inr (.inr v)) :: ls) st g μ Q = Wp E 49 14 (some (.inr (.inr v)) :: ls) (.inr (.inr v) :: st) g μ Q := Wp_nx k49_13 rfl
theorem k49_14 : mCode 49 14 = some (.getfield 19, 3) := by decide +kernel
theorem x49_14 {E : ME} {ls : MLs} {st : List MV} {g : MG} {μ : MU} {Q : Option MV → MG → MU → Prop} {a : Nat} : Wp E 49 14 ls (.inr (.inr (.inl a)) :: st) g μ Q = ((mKd g a).1 = 5 ∧ Wp E 49 17 ls (mRv (mRf g a 1) :: st) g μ Q) := Wp_getR k49_14 f5_19 (by decide) (by decide)
theorem k49_17 : mCode 49 17 = some (.aload_n 0, 1) := by decide +kernel
theorem x49_17 {E : ME} {ls : MLs} {st : List MV} {g : MG} {μ : MU} {Q : Option MV → MG → MU → Prop} {v : Nat ⊕ Nat} : Wp E 49 17 (some (.inr (.inr v)) :: ls) st g μ Q = Wp E 49 18 (some (.inr (.inr v)) :: ls) (.inr (.inr v) :: st) g μ Q := Wp_nx k49_17 rfl
theorem k49_18 : mCode 49 18 = some (.getfield 10, 3) := by decide +kernel
theorem x49_18 {E : ME} {ls : MLs} {st : List MV} {g : MG} {μ : MU} {Q : Option MV → MG → MU → Prop} {a : Nat} : Wp E 49 18 ls (.inr (.inr (.inl a)) :: st) g μ Q = ((mKd g a).1 = 5 ∧ Wp E 49 21 ls (mRv (mRf g a 0) :: st) g μ Q) := Wp_getR k49_18 f5_10 (by decide) (by decide)
theorem k49_21 : mCode 49 21 = some (.invokevirtual 100, 3) := by decide +kernel
theorem x49_21 {E : ME} {ls : MLs} {st : List MV} {g : MG} {μ : MU} {Q : Option MV → MG → MU → Prop} {r : Nat} {a0 : Nat ⊕ Nat} : Wp E 49 21 ls (.inr (.inr a0) :: .inr (.inr (.inl r)) :: st) g μ Q = ((st.length ≤ 4 ∧ ((mKd g r).1 == 3) = true) ∧ Wp E 28 0 [some (.inr (.inr (.inl r))), some (.inr (.inr a0)), none] [] g μ (fun r g' μ' => (g'.1 = g.1 ∧ g'.2.1 = g.2.1) ∧ Wp E 49 24 ls (mPush r st) g' μ' Q)) := Wp_cV k49_21 m5_100 (by decide) (as := [.inr (.inr (.inl r)), .inr (.inr a0)]) rfl rfl rfl ⟨Nat.le_of_ble_eq_true rfl, by decide⟩
theorem k49_24 : mCode 49 24 = some (.iload_n 2, 1) := by decide +kernel
theorem x49_24 {E : ME} {ls : MLs} {st : List MV} {g : MG} {μ : MU} {Q : Option MV → MG → MU → Prop} {l0 l1 : Option MV} {v : Int} : Wp E 49 24 (l0 :: l1 :: some (.inl v) :: ls) st g μ Q = Wp E 49 25 (l0 :: l1 :: some (.inl v) :: ls) (.inl v :: st) g μ Q := Wp_nx k49_24 rfl
theorem k49_25 : mCode 49 25 = some (.tableswitch 197 0 11 #[63, 73, 83, 93, 103, 113, 123, 133, 143, 153, 173, 183], 63) := by decide +kernel
theorem x49_25_0 {E : ME} {ls : MLs} {st : List MV} {g : MG} {μ : MU} {Q : Option MV → MG → MU → Prop} : Wp E 49 25 ls (.inl 0 :: st) g μ Q = Wp E 49 88 ls st g μ Q := Wp_nx k49_25 rfl
theorem x49_25_1 {E : ME} {ls : MLs} {st : List MV} {g : MG} {μ : MU} {Q : Option MV → MG → MU → Prop} : Wp E 49 25 ls (.inl 1 :: st) g μ Q = Wp E 49 98 ls st g μ Q := Wp_nx k49_25 rfl
theorem x49_25_2 {E : ME} {ls : MLs} {st : List MV} {g : MG} {μ : MU} {Q : Option MV → MG → MU → Prop} : Wp E 49 25 ls (.inl 2 :: st) g μ Q = Wp E 49 108 ls st g μ Q := Wp_nx k49_25 rfl
theorem x49_25_3 {E : ME} {ls : MLs} {st : List MV} {g : MG} {μ : MU} {Q : Option MV → MG → MU → Prop} : Wp E 49 25 ls (.inl 3 :: st) g μ Q = Wp E 49 118 ls st g μ Q := Wp_nx k49_25 rfl
theorem x49_25_4 {E : ME} {ls : MLs} {st : List MV} {g : MG} {μ : MU} {Q : Option MV → MG → MU → Prop} : Wp E 49 25 ls (.inl 4 :: st) g μ Q = Wp E 49 128 ls st g μ Q := Wp_nx k49_25 rfl
theorem x49_25_5 {E : ME} {ls : MLs} {st : List MV} {g : MG} {μ : MU} {Q : Option MV → MG → MU → Prop} : Wp E 49 25 ls (.inl 5 :: st) g μ Q = Wp E 49 138 ls st g μ Q := Wp_nx k49_25 rfl
theorem x49_25_6 {E : ME} {ls : MLs} {st : List MV} {g : MG} {μ : MU} {Q : Option MV → MG → MU → Prop} : Wp E 49 25 ls (.inl 6 :: st) g μ Q = Wp E 49 148 ls st g μ Q := Wp_nx k49_25 rfl
theorem x49_25_7 {E : ME} {ls : MLs} {st : List MV} {g : MG} {μ : MU} {Q : Option MV → MG → MU → Prop} : Wp E 49 25 ls (.inl 7 :: st) g μ Q = Wp E 49 158 ls st g μ Q := Wp_nx k49_25 rfl
theorem x49_25_8 {E : ME} {ls : MLs} {st : List MV} {g : MG} {μ : MU} {Q : Option MV → MG → MU → Prop} : Wp E 49 25 ls (.inl 8 :: st) g μ Q = Wp E 49 168 ls st g μ Q := Wp_nx k49_25 rfl
theorem x49_25_9 {E : ME} {ls : MLs} {st : List MV} {g : MG} {μ : MU} {Q : Option MV → MG → MU → Prop} : Wp E 49 25 ls (.inl 9 :: st) g μ Q = Wp E 49 178 ls st g μ Q := Wp_nx k49_25 rfl
theorem x49_25_10 {E : ME} {ls : MLs} {st : List MV} {g : MG} {μ : MU} {Q : Option MV → MG → MU → Prop} : Wp E 49 25 ls (.inl 10 :: st) g μ Q = Wp E 49 198 ls st g μ Q := Wp_nx k49_25 rfl
theorem x49_25_11 {E : ME} {ls : MLs} {st : List MV} {g : MG} {μ : MU} {Q : Option MV → MG → MU → Prop} : Wp E 49 25 ls (.inl 11 :: st) g μ Q = Wp E 49 208 ls st g μ Q := Wp_nx k49_25 rfl
theorem x49_25_d {E : ME} {ls : MLs} {st : List MV} {g : MG} {μ : MU} {Q : Option MV → MG → MU → Prop} {a : Int} (h : a < 0 ∨ 11 < a) : Wp E 49 25 ls (.inl a :: st) g μ Q = Wp E 49 222 ls st g μ Q := Wp_tswD k49_25 h (by decide)
theorem k49_88 : mCode 49 88 = some (.aload_n 0, 1) := by decide +kernel
theorem x49_88 {E : ME} {ls : MLs} {st : List MV} {g : MG} {μ : MU} {Q : Option MV → MG → MU → Prop} {v : Nat ⊕ Nat} : Wp E 49 88 (some (.inr (.inr v)) :: ls) st g μ Q = Wp E 49 89 (some (.inr (.inr v)) :: ls) (.inr (.inr v) :: st) g μ Q := Wp_nx k49_88 rfl
theorem k49_89 : mCode 49 89 = some (.getfield 10, 3) := by decide +kernel
theorem x49_89 {E : ME} {ls : MLs} {st : List MV} {g : MG} {μ : MU} {Q : Option MV → MG → MU → Prop} {a : Nat} : Wp E 49 89 ls (.inr (.inr (.inl a)) :: st) g μ Q = ((mKd g a).1 = 5 ∧ Wp E 49 92 ls (mRv (mRf g a 0) :: st) g μ Q) := Wp_getR k49_89 f5_10 (by decide) (by decide)
theorem k49_92 : mCode 49 92 = some (.getfield 113, 3) := by decide +kernel
theorem x49_92 {E : ME} {ls : MLs} {st : List MV} {g : MG} {μ : MU} {Q : Option MV → MG → MU → Prop} {a : Nat} : Wp E 49 92 ls (.inr (.inr (.inl a)) :: st) g μ Q = ((mKd g a).1 = 0 ∧ Wp E 49 95 ls (mRv (mRf g a 8) :: st) g μ Q) := Wp_getR k49_92 f5_113 (by decide) (by decide)
theorem k49_95 : mCode 49 95 = some (.iload_n 1, 1) := by decide +kernel
theorem x49_95 {E : ME} {ls : MLs} {st : List MV} {g : MG} {μ : MU} {Q : Option MV → MG → MU → Prop} {l0 : Option MV} {v : Int} : Wp E 49 95 (l0 :: some (.inl v) :: ls) st g μ Q = Wp E 49 96 (l0 :: some (.inl v) :: ls) (.inl v :: st) g μ Q := Wp_nx k49_95 rfl
theorem k49_96 : mCode 49 96 = some (.iaload, 1) := by decide +kernel
theorem x49_96 {E : ME} {ls : MLs} {st : List MV} {g : MG} {μ : MU} {Q : Option MV → MG → MU → Prop} {a : Nat} {j : Int} : Wp E 49 96 ls (.inl j :: .inr (.inr (.inl a)) :: st) g μ Q = (((mKd g a).1 = 10 ∧ 0 ≤ j ∧ j < (mKd g a).2) ∧ Wp E 49 97 ls (.inl (μ a j.toNat) :: st) g μ Q) := Wp_ald k49_96 (fun _ => rfl)
theorem k49_97 : mCode 49 97 = some (.ireturn, 1) := by decide +kernel
theorem x49_97 {E : ME} {ls : MLs} {g : MG} {μ : MU} {Q : Option MV → MG → MU → Prop} {v : Int} : Wp E 49 97 ls [.inl v] g μ Q = Q (some (.inl v)) g μ := Wp_retI k49_97 (by decide)
theorem k49_98 : mCode 49 98 = some (.aload_n 0, 1) := by decide +kernel
theorem x49_98 {E : ME} {ls : MLs} {st : List MV} {g : MG} {μ : MU} {Q : Option MV → MG → MU → Prop} {v : Nat ⊕ Nat} : Wp E 49 98 (some (.inr (.inr v)) :: ls) st g μ Q = Wp E 49 99 (some (.inr (.inr v)) :: ls) (.inr (.inr v) :: st) g μ Q := Wp_nx k49_98 rfl
theorem k49_99 : mCode 49 99 = some (.getfield 10, 3) := by decide +kernel
theorem x49_99 {E : ME} {ls : MLs} {st : List MV} {g : MG} {μ : MU} {Q : Option MV → MG → MU → Prop} {a : Nat} : Wp E 49 99 ls (.inr (.inr (.inl a)) :: st) g μ Q = ((mKd g a).1 = 5 ∧ Wp E 49 102 ls (mRv (mRf g a 0) :: st) g μ Q) := Wp_getR k49_99 f5_10 (by decide) (by decide)
theorem k49_102 : mCode 49 102 = some (.getfield 133, 3) := by decide +kernel
theorem x49_102 {E : ME} {ls : MLs} {st : List MV} {g : MG} {μ : MU} {Q : Option MV → MG → MU → Prop} {a : Nat} : Wp E 49 102 ls (.inr (.inr (.inl a)) :: st) g μ Q = ((mKd g a).1 = 0 ∧ Wp E 49 105 ls (mRv (mRf g a 9) :: st) g μ Q) := Wp_getR k49_102 f5_133 (by decide) (by decide)
theorem k49_105 : mCode 49 105 = some (.iload_n 1, 1) := by decide +kernel
theorem x49_105 {E : ME} {ls : MLs} {st : List MV} {g : MG} {μ : MU} {Q : Option MV → MG → MU → Prop} {l0 : Option MV} {v : Int} : Wp E 49 105 (l0 :: some (.inl v) :: ls) st g μ Q = Wp E 49 106 (l0 :: some (.inl v) :: ls) (.inl v :: st) g μ Q := Wp_nx k49_105 rfl
theorem k49_106 : mCode 49 106 = some (.iaload, 1) := by decide +kernel
theorem x49_106 {E : ME} {ls : MLs} {st : List MV} {g : MG} {μ : MU} {Q : Option MV → MG → MU → Prop} {a : Nat} {j : Int} : Wp E 49 106 ls (.inl j :: .inr (.inr (.inl a)) :: st) g μ Q = (((mKd g a).1 = 10 ∧ 0 ≤ j ∧ j < (mKd g a).2) ∧ Wp E 49 107 ls (.inl (μ a j.toNat) :: st) g μ Q) := Wp_ald k49_106 (fun _ => rfl)
theorem k49_107 : mCode 49 107 = some (.ireturn, 1) := by decide +kernel
theorem x49_107 {E : ME} {ls : MLs} {g : MG} {μ : MU} {Q : Option MV → MG → MU → Prop} {v : Int} : Wp E 49 107 ls [.inl v] g μ Q = Q (some (.inl v)) g μ := Wp_retI k49_107 (by decide)
theorem k49_108 : mCode 49 108 = some (.aload_n 0, 1) := by decide +kernel
theorem x49_108 {E : ME} {ls : MLs} {st : List MV} {g : MG} {μ : MU} {Q : Option MV → MG → MU → Prop} {v : Nat ⊕ Nat} : Wp E 49 108 (some (.inr (.inr v)) :: ls) st g μ Q = Wp E 49 109 (some (.inr (.inr v)) :: ls) (.inr (.inr v) :: st) g μ Q := Wp_nx k49_108 rfl
theorem k49_109 : mCode 49 109 = some (.getfield 10, 3) := by decide +kernel
theorem x49_109 {E : ME} {ls : MLs} {st : List MV} {g : MG} {μ : MU} {Q : Option MV → MG → MU → Prop} {a : Nat} : Wp E 49 109 ls (.inr (.inr (.inl a)) :: st) g μ Q = ((mKd g a).1 = 5 ∧ Wp E 49 112 ls (mRv (mRf g a 0) :: st) g μ Q) := Wp_getR k49_109 f5_10 (by decide) (by decide)
theorem k49_112 : mCode 49 112 = some (.getfield 136, 3) := by decide +kernel
theorem x49_112 {E : ME} {ls : MLs} {st : List MV} {g : MG} {μ : MU} {Q : Option MV → MG → MU → Prop} {a : Nat} : Wp E 49 112 ls (.inr (.inr (.inl a)) :: st) g μ Q = ((mKd g a).1 = 0 ∧ Wp E 49 115 ls (mRv (mRf g a 10) :: st) g μ Q) := Wp_getR k49_112 f5_136 (by decide) (by decide)
theorem k49_115 : mCode 49 115 = some (.iload_n 1, 1) := by decide +kernel
theorem x49_115 {E : ME} {ls : MLs} {st : List MV} {g : MG} {μ : MU} {Q : Option MV → MG → MU → Prop} {l0 : Option MV} {v : Int} : Wp E 49 115 (l0 :: some (.inl v) :: ls) st g μ Q = Wp E 49 116 (l0 :: some (.inl v) :: ls) (.inl v :: st) g μ Q := Wp_nx k49_115 rfl
theorem k49_116 : mCode 49 116 = some (.iaload, 1) := by decide +kernel
theorem x49_116 {E : ME} {ls : MLs} {st : List MV} {g : MG} {μ : MU} {Q : Option MV → MG → MU → Prop} {a : Nat} {j : Int} : Wp E 49 116 ls (.inl j :: .inr (.inr (.inl a)) :: st) g μ Q = (((mKd g a).1 = 10 ∧ 0 ≤ j ∧ j < (mKd g a).2) ∧ Wp E 49 117 ls (.inl (μ a j.toNat) :: st) g μ Q) := Wp_ald k49_116 (fun _ => rfl)
theorem k49_117 : mCode 49 117 = some (.ireturn, 1) := by decide +kernel
theorem x49_117 {E : ME} {ls : MLs} {g : MG} {μ : MU} {Q : Option MV → MG → MU → Prop} {v : Int} : Wp E 49 117 ls [.inl v] g μ Q = Q (some (.inl v)) g μ := Wp_retI k49_117 (by decide)
theorem k49_118 : mCode 49 118 = some (.aload_n 0, 1) := by decide +kernel
theorem x49_118 {E : ME} {ls : MLs} {st : List MV} {g : MG} {μ : MU} {Q : Option MV → MG → MU → Prop} {v : Nat ⊕ Nat} : Wp E 49 118 (some (.inr (.inr v)) :: ls) st g μ Q = Wp E 49 119 (some (.inr (.inr v)) :: ls) (.inr (.inr v) :: st) g μ Q := Wp_nx k49_118 rfl
theorem k49_119 : mCode 49 119 = some (.getfield 10, 3) := by decide +kernel
theorem x49_119 {E : ME} {ls : MLs} {st : List MV} {g : MG} {μ : MU} {Q : Option MV → MG → MU → Prop} {a : Nat} : Wp E 49 119 ls (.inr (.inr (.inl a)) :: st) g μ Q = ((mKd g a).1 = 5 ∧ Wp E 49 122 ls (mRv (mRf g a 0) :: st) g μ Q) := Wp_getR k49_119 f5_10 (by decide) (by decide)
theorem k49_122 : mCode 49 122 = some (.getfield 139, 3) := by decide +kernel
theorem x49_122 {E : ME} {ls : MLs} {st : List MV} {g : MG} {μ : MU} {Q : Option MV → MG → MU → Prop} {a : Nat} : Wp E 49 122 ls (.inr (.inr (.inl a)) :: st) g μ Q = ((mKd g a).1 = 0 ∧ Wp E 49 125 ls (mRv (mRf g a 11) :: st) g μ Q) := Wp_getR k49_122 f5_139 (by decide) (by decide)
theorem k49_125 : mCode 49 125 = some (.iload_n 1, 1) := by decide +kernel
theorem x49_125 {E : ME} {ls : MLs} {st : List MV} {g : MG} {μ : MU} {Q : Option MV → MG → MU → Prop} {l0 : Option MV} {v : Int} : Wp E 49 125 (l0 :: some (.inl v) :: ls) st g μ Q = Wp E 49 126 (l0 :: some (.inl v) :: ls) (.inl v :: st) g μ Q := Wp_nx k49_125 rfl
theorem k49_126 : mCode 49 126 = some (.iaload, 1) := by decide +kernel
theorem x49_126 {E : ME} {ls : MLs} {st : List MV} {g : MG} {μ : MU} {Q : Option MV → MG → MU → Prop} {a : Nat} {j : Int} : Wp E 49 126 ls (.inl j :: .inr (.inr (.inl a)) :: st) g μ Q = (((mKd g a).1 = 10 ∧ 0 ≤ j ∧ j < (mKd g a).2) ∧ Wp E 49 127 ls (.inl (μ a j.toNat) :: st) g μ Q) := Wp_ald k49_126 (fun _ => rfl)
theorem k49_127 : mCode 49 127 = some (.ireturn, 1) := by decide +kernel
theorem x49_127 {E : ME} {ls : MLs} {g : MG} {μ : MU} {Q : Option MV → MG → MU → Prop} {v : Int} : Wp E 49 127 ls [.inl v] g μ Q = Q (some (.inl v)) g μ := Wp_retI k49_127 (by decide)
theorem k49_128 : mCode 49 128 = some (.aload_n 0, 1) := by decide +kernel
theorem x49_128 {E : ME} {ls : MLs} {st : List MV} {g : MG} {μ : MU} {Q : Option MV → MG → MU → Prop} {v : Nat ⊕ Nat} : Wp E 49 128 (some (.inr (.inr v)) :: ls) st g μ Q = Wp E 49 129 (some (.inr (.inr v)) :: ls) (.inr (.inr v) :: st) g μ Q := Wp_nx k49_128 rfl
theorem k49_129 : mCode 49 129 = some (.getfield 19, 3) := by decide +kernel
theorem x49_129 {E : ME} {ls : MLs} {st : List MV} {g : MG} {μ : MU} {Q : Option MV → MG → MU → Prop} {a : Nat} : Wp E 49 129 ls (.inr (.inr (.inl a)) :: st) g μ Q = ((mKd g a).1 = 5 ∧ Wp E 49 132 ls (mRv (mRf g a 1) :: st) g μ Q) := Wp_getR k49_129 f5_19 (by decide) (by decide)
theorem k49_132 : mCode 49 132 = some (.getfield 142, 3) := by decide +kernel
theorem x49_132 {E : ME} {ls : MLs} {st : List MV} {g : MG} {μ : MU} {Q : Option MV → MG → MU → Prop} {a : Nat} : Wp E 49 132 ls (.inr (.inr (.inl a)) :: st) g μ Q = ((mKd g a).1 = 3 ∧ Wp E 49 135 ls (mRv (mRf g a 1) :: st) g μ Q) := Wp_getR k49_132 f5_142 (by decide) (by decide)
theorem k49_135 : mCode 49 135 = some (.iload_n 1, 1) := by decide +kernel
theorem x49_135 {E : ME} {ls : MLs} {st : List MV} {g : MG} {μ : MU} {Q : Option MV → MG → MU → Prop} {l0 : Option MV} {v : Int} : Wp E 49 135 (l0 :: some (.inl v) :: ls) st g μ Q = Wp E 49 136 (l0 :: some (.inl v) :: ls) (.inl v :: st) g μ Q := Wp_nx k49_135 rfl
theorem k49_136 : mCode 49 136 = some (.iaload, 1) := by decide +kernel
theorem x49_136 {E : ME} {ls : MLs} {st : List MV} {g : MG} {μ : MU} {Q : Option MV → MG → MU → Prop} {a : Nat} {j : Int} : Wp E 49 136 ls (.inl j :: .inr (.inr (.inl a)) :: st) g μ Q = (((mKd g a).1 = 10 ∧ 0 ≤ j ∧ j < (mKd g a).2) ∧ Wp E 49 137 ls (.inl (μ a j.toNat) :: st) g μ Q) := Wp_ald k49_136 (fun _ => rfl)
theorem k49_137 : mCode 49 137 = some (.ireturn, 1) := by decide +kernel
theorem x49_137 {E : ME} {ls : MLs} {g : MG} {μ : MU} {Q : Option MV → MG → MU → Prop} {v : Int} : Wp E 49 137 ls [.inl v] g μ Q = Q (some (.inl v)) g μ := Wp_retI k49_137 (by decide)
theorem k49_138 : mCode 49 138 = some (.aload_n 0, 1) := by decide +kernel
theorem x49_138 {E : ME} {ls : MLs} {st : List MV} {g : MG} {μ : MU} {Q : Option MV → MG → MU → Prop} {v : Nat ⊕ Nat} : Wp E 49 138 (some (.inr (.inr v)) :: ls) st g μ Q = Wp E 49 139 (some (.inr (.inr v)) :: ls) (.inr (.inr v) :: st) g μ Q := Wp_nx k49_138 rfl
theorem k49_139 : mCode 49 139 = some (.getfield 19, 3) := by decide +kernel
theorem x49_139 {E : ME} {ls : MLs} {st : List MV} {g : MG} {μ : MU} {Q : Option MV → MG → MU → Prop} {a : Nat} : Wp E 49 139 ls (.inr (.inr (.inl a)) :: st) g μ Q = ((mKd g a).1 = 5 ∧ Wp E 49 142 ls (mRv (mRf g a 1) :: st) g μ Q) := Wp_getR k49_139 f5_19 (by decide) (by decide)
theorem k49_142 : mCode 49 142 = some (.getfield 145, 3) := by decide +kernel
theorem x49_142 {E : ME} {ls : MLs} {st : List MV} {g : MG} {μ : MU} {Q : Option MV → MG → MU → Prop} {a : Nat} : Wp E 49 142 ls (.inr (.inr (.inl a)) :: st) g μ Q = ((mKd g a).1 = 3 ∧ Wp E 49 145 ls (mRv (mRf g a 2) :: st) g μ Q) := Wp_getR k49_142 f5_145 (by decide) (by decide)
theorem k49_145 : mCode 49 145 = some (.iload_n 1, 1) := by decide +kernel
theorem x49_145 {E : ME} {ls : MLs} {st : List MV} {g : MG} {μ : MU} {Q : Option MV → MG → MU → Prop} {l0 : Option MV} {v : Int} : Wp E 49 145 (l0 :: some (.inl v) :: ls) st g μ Q = Wp E 49 146 (l0 :: some (.inl v) :: ls) (.inl v :: st) g μ Q := Wp_nx k49_145 rfl
theorem k49_146 : mCode 49 146 = some (.iaload, 1) := by decide +kernel
theorem x49_146 {E : ME} {ls : MLs} {st : List MV} {g : MG} {μ : MU} {Q : Option MV → MG → MU → Prop} {a : Nat} {j : Int} : Wp E 49 146 ls (.inl j :: .inr (.inr (.inl a)) :: st) g μ Q = (((mKd g a).1 = 10 ∧ 0 ≤ j ∧ j < (mKd g a).2) ∧ Wp E 49 147 ls (.inl (μ a j.toNat) :: st) g μ Q) := Wp_ald k49_146 (fun _ => rfl)
theorem k49_147 : mCode 49 147 = some (.ireturn, 1) := by decide +kernel
theorem x49_147 {E : ME} {ls : MLs} {g : MG} {μ : MU} {Q : Option MV → MG → MU → Prop} {v : Int} : Wp E 49 147 ls [.inl v] g μ Q = Q (some (.inl v)) g μ := Wp_retI k49_147 (by decide)
theorem k49_148 : mCode 49 148 = some (.aload_n 0, 1) := by decide +kernel
theorem x49_148 {E : ME} {ls : MLs} {st : List MV} {g : MG} {μ : MU} {Q : Option MV → MG → MU → Prop} {v : Nat ⊕ Nat} : Wp E 49 148 (some (.inr (.inr v)) :: ls) st g μ Q = Wp E 49 149 (some (.inr (.inr v)) :: ls) (.inr (.inr v) :: st) g μ Q := Wp_nx k49_148 rfl
theorem k49_149 : mCode 49 149 = some (.getfield 19, 3) := by decide +kernel
theorem x49_149 {E : ME} {ls : MLs} {st : List MV} {g : MG} {μ : MU} {Q : Option MV → MG → MU → Prop} {a : Nat} : Wp E 49 149 ls (.inr (.inr (.inl a)) :: st) g μ Q = ((mKd g a).1 = 5 ∧ Wp E 49 152 ls (mRv (mRf g a 1) :: st) g μ Q) := Wp_getR k49_149 f5_19 (by decide) (by decide)
theorem k49_152 : mCode 49 152 = some (.getfield 148, 3) := by decide +kernel
theorem x49_152 {E : ME} {ls : MLs} {st : List MV} {g : MG} {μ : MU} {Q : Option MV → MG → MU → Prop} {a : Nat} : Wp E 49 152 ls (.inr (.inr (.inl a)) :: st) g μ Q = ((mKd g a).1 = 3 ∧ Wp E 49 155 ls (mRv (mRf g a 3) :: st) g μ Q) := Wp_getR k49_152 f5_148 (by decide) (by decide)
theorem k49_155 : mCode 49 155 = some (.iload_n 1, 1) := by decide +kernel
theorem x49_155 {E : ME} {ls : MLs} {st : List MV} {g : MG} {μ : MU} {Q : Option MV → MG → MU → Prop} {l0 : Option MV} {v : Int} : Wp E 49 155 (l0 :: some (.inl v) :: ls) st g μ Q = Wp E 49 156 (l0 :: some (.inl v) :: ls) (.inl v :: st) g μ Q := Wp_nx k49_155 rfl
theorem k49_156 : mCode 49 156 = some (.iaload, 1) := by decide +kernel
theorem x49_156 {E : ME} {ls : MLs} {st : List MV} {g : MG} {μ : MU} {Q : Option MV → MG → MU → Prop} {a : Nat} {j : Int} : Wp E 49 156 ls (.inl j :: .inr (.inr (.inl a)) :: st) g μ Q = (((mKd g a).1 = 10 ∧ 0 ≤ j ∧ j < (mKd g a).2) ∧ Wp E 49 157 ls (.inl (μ a j.toNat) :: st) g μ Q) := Wp_ald k49_156 (fun _ => rfl)
theorem k49_157 : mCode 49 157 = some (.ireturn, 1) := by decide +kernel
theorem x49_157 {E : ME} {ls : MLs} {g : MG} {μ : MU} {Q : Option MV → MG → MU → Prop} {v : Int} : Wp E 49 157 ls [.inl v] g μ Q = Q (some (.inl v)) g μ := Wp_retI k49_157 (by decide)
theorem k49_158 : mCode 49 158 = some (.aload_n 0, 1) := by decide +kernel
theorem x49_158 {E : ME} {ls : MLs} {st : List MV} {g : MG} {μ : MU} {Q : Option MV → MG → MU → Prop} {v : Nat ⊕ Nat} : Wp E 49 158 (some (.inr (.inr v)) :: ls) st g μ Q = Wp E 49 159 (some (.inr (.inr v)) :: ls) (.inr (.inr v) :: st) g μ Q := Wp_nx k49_158 rfl
theorem k49_159 : mCode 49 159 = some (.getfield 19, 3) := by decide +kernel
theorem x49_159 {E : ME} {ls : MLs} {st : List MV} {g : MG} {μ : MU} {Q : Option MV → MG → MU → Prop} {a : Nat} : Wp E 49 159 ls (.inr (.inr (.inl a)) :: st) g μ Q = ((mKd g a).1 = 5 ∧ Wp E 49 162 ls (mRv (mRf g a 1) :: st) g μ Q) := Wp_getR k49_159 f5_19 (by decide) (by decide)
theorem k49_162 : mCode 49 162 = some (.getfield 151, 3) := by decide +kernel
theorem x49_162 {E : ME} {ls : MLs} {st : List MV} {g : MG} {μ : MU} {Q : Option MV → MG → MU → Prop} {a : Nat} : Wp E 49 162 ls (.inr (.inr (.inl a)) :: st) g μ Q = ((mKd g a).1 = 3 ∧ Wp E 49 165 ls (mRv (mRf g a 4) :: st) g μ Q) := Wp_getR k49_162 f5_151 (by decide) (by decide)
theorem k49_165 : mCode 49 165 = some (.iload_n 1, 1) := by decide +kernel
theorem x49_165 {E : ME} {ls : MLs} {st : List MV} {g : MG} {μ : MU} {Q : Option MV → MG → MU → Prop} {l0 : Option MV} {v : Int} : Wp E 49 165 (l0 :: some (.inl v) :: ls) st g μ Q = Wp E 49 166 (l0 :: some (.inl v) :: ls) (.inl v :: st) g μ Q := Wp_nx k49_165 rfl
theorem k49_166 : mCode 49 166 = some (.iaload, 1) := by decide +kernel
theorem x49_166 {E : ME} {ls : MLs} {st : List MV} {g : MG} {μ : MU} {Q : Option MV → MG → MU → Prop} {a : Nat} {j : Int} : Wp E 49 166 ls (.inl j :: .inr (.inr (.inl a)) :: st) g μ Q = (((mKd g a).1 = 10 ∧ 0 ≤ j ∧ j < (mKd g a).2) ∧ Wp E 49 167 ls (.inl (μ a j.toNat) :: st) g μ Q) := Wp_ald k49_166 (fun _ => rfl)
theorem k49_167 : mCode 49 167 = some (.ireturn, 1) := by decide +kernel
theorem x49_167 {E : ME} {ls : MLs} {g : MG} {μ : MU} {Q : Option MV → MG → MU → Prop} {v : Int} : Wp E 49 167 ls [.inl v] g μ Q = Q (some (.inl v)) g μ := Wp_retI k49_167 (by decide)
theorem k49_168 : mCode 49 168 = some (.aload_n 0, 1) := by decide +kernel
theorem x49_168 {E : ME} {ls : MLs} {st : List MV} {g : MG} {μ : MU} {Q : Option MV → MG → MU → Prop} {v : Nat ⊕ Nat} : Wp E 49 168 (some (.inr (.inr v)) :: ls) st g μ Q = Wp E 49 169 (some (.inr (.inr v)) :: ls) (.inr (.inr v) :: st) g μ Q := Wp_nx k49_168 rfl
theorem k49_169 : mCode 49 169 = some (.getfield 19, 3) := by decide +kernel
theorem x49_169 {E : ME} {ls : MLs} {st : List MV} {g : MG} {μ : MU} {Q : Option MV → MG → MU → Prop} {a : Nat} : Wp E 49 169 ls (.inr (.inr (.inl a)) :: st) g μ Q = ((mKd g a).1 = 5 ∧ Wp E 49 172 ls (mRv (mRf g a 1) :: st) g μ Q) := Wp_getR k49_169 f5_19 (by decide) (by decide)
theorem k49_172 : mCode 49 172 = some (.getfield 154, 3) := by decide +kernel
theorem x49_172 {E : ME} {ls : MLs} {st : List MV} {g : MG} {μ : MU} {Q : Option MV → MG → MU → Prop} {a : Nat} : Wp E 49 172 ls (.inr (.inr (.inl a)) :: st) g μ Q = ((mKd g a).1 = 3 ∧ Wp E 49 175 ls (mRv (mRf g a 6) :: st) g μ Q) := Wp_getR k49_172 f5_154 (by decide) (by decide)
theorem k49_175 : mCode 49 175 = some (.iload_n 1, 1) := by decide +kernel
theorem x49_175 {E : ME} {ls : MLs} {st : List MV} {g : MG} {μ : MU} {Q : Option MV → MG → MU → Prop} {l0 : Option MV} {v : Int} : Wp E 49 175 (l0 :: some (.inl v) :: ls) st g μ Q = Wp E 49 176 (l0 :: some (.inl v) :: ls) (.inl v :: st) g μ Q := Wp_nx k49_175 rfl
theorem k49_176 : mCode 49 176 = some (.iaload, 1) := by decide +kernel
theorem x49_176 {E : ME} {ls : MLs} {st : List MV} {g : MG} {μ : MU} {Q : Option MV → MG → MU → Prop} {a : Nat} {j : Int} : Wp E 49 176 ls (.inl j :: .inr (.inr (.inl a)) :: st) g μ Q = (((mKd g a).1 = 10 ∧ 0 ≤ j ∧ j < (mKd g a).2) ∧ Wp E 49 177 ls (.inl (μ a j.toNat) :: st) g μ Q) := Wp_ald k49_176 (fun _ => rfl)
theorem k49_177 : mCode 49 177 = some (.ireturn, 1) := by decide +kernel
theorem x49_177 {E : ME} {ls : MLs} {g : MG} {μ : MU} {Q : Option MV → MG → MU → Prop} {v : Int} : Wp E 49 177 ls [.inl v] g μ Q = Q (some (.inl v)) g μ := Wp_retI k49_177 (by decide)
theorem k49_178 : mCode 49 178 = some (.aload_n 0, 1) := by decide +kernel
theorem x49_178 {E : ME} {ls : MLs} {st : List MV} {g : MG} {μ : MU} {Q : Option MV → MG → MU → Prop} {v : Nat ⊕ Nat} : Wp E 49 178 (some (.inr (.inr v)) :: ls) st g μ Q = Wp E 49 179 (some (.inr (.inr v)) :: ls) (.inr (.inr v) :: st) g μ Q := Wp_nx k49_178 rfl
theorem k49_179 : mCode 49 179 = some (.getfield 19, 3) := by decide +kernel
theorem x49_179 {E : ME} {ls : MLs} {st : List MV} {g : MG} {μ : MU} {Q : Option MV → MG → MU → Prop} {a : Nat} : Wp E 49 179 ls (.inr (.inr (.inl a)) :: st) g μ Q = ((mKd g a).1 = 5 ∧ Wp E 49 182 ls (mRv (mRf g a 1) :: st) g μ Q) := Wp_getR k49_179 f5_19 (by decide) (by decide)
theorem k49_182 : mCode 49 182 = some (.getfield 154, 3) := by decide +kernel
theorem x49_182 {E : ME} {ls : MLs} {st : List MV} {g : MG} {μ : MU} {Q : Option MV → MG → MU → Prop} {a : Nat} : Wp E 49 182 ls (.inr (.inr (.inl a)) :: st) g μ Q = ((mKd g a).1 = 3 ∧ Wp E 49 185 ls (mRv (mRf g a 6) :: st) g μ Q) := Wp_getR k49_182 f5_154 (by decide) (by decide)
theorem k49_185 : mCode 49 185 = some (.iload_n 1, 1) := by decide +kernel
theorem x49_185 {E : ME} {ls : MLs} {st : List MV} {g : MG} {μ : MU} {Q : Option MV → MG → MU → Prop} {l0 : Option MV} {v : Int} : Wp E 49 185 (l0 :: some (.inl v) :: ls) st g μ Q = Wp E 49 186 (l0 :: some (.inl v) :: ls) (.inl v :: st) g μ Q := Wp_nx k49_185 rfl
theorem k49_186 : mCode 49 186 = some (.iaload, 1) := by decide +kernel
theorem x49_186 {E : ME} {ls : MLs} {st : List MV} {g : MG} {μ : MU} {Q : Option MV → MG → MU → Prop} {a : Nat} {j : Int} : Wp E 49 186 ls (.inl j :: .inr (.inr (.inl a)) :: st) g μ Q = (((mKd g a).1 = 10 ∧ 0 ≤ j ∧ j < (mKd g a).2) ∧ Wp E 49 187 ls (.inl (μ a j.toNat) :: st) g μ Q) := Wp_ald k49_186 (fun _ => rfl)
theorem k49_187 : mCode 49 187 = some (.aload_n 0, 1) := by decide +kernel
theorem x49_187 {E : ME} {ls : MLs} {st : List MV} {g : MG} {μ : MU} {Q : Option MV → MG → MU → Prop} {v : Nat ⊕ Nat} : Wp E 49 187 (some (.inr (.inr v)) :: ls) st g μ Q = Wp E 49 188 (some (.inr (.inr v)) :: ls) (.inr (.inr v) :: st) g μ Q := Wp_nx k49_187 rfl
theorem k49_188 : mCode 49 188 = some (.getfield 19, 3) := by decide +kernel
theorem x49_188 {E : ME} {ls : MLs} {st : List MV} {g : MG} {μ : MU} {Q : Option MV → MG → MU → Prop} {a : Nat} : Wp E 49 188 ls (.inr (.inr (.inl a)) :: st) g μ Q = ((mKd g a).1 = 5 ∧ Wp E 49 191 ls (mRv (mRf g a 1) :: st) g μ Q) := Wp_getR k49_188 f5_19 (by decide) (by decide)
theorem k49_191 : mCode 49 191 = some (.getfield 157, 3) := by decide +kernel
theorem x49_191 {E : ME} {ls : MLs} {st : List MV} {g : MG} {μ : MU} {Q : Option MV → MG → MU → Prop} {a : Nat} : Wp E 49 191 ls (.inr (.inr (.inl a)) :: st) g μ Q = ((mKd g a).1 = 3 ∧ Wp E 49 194 ls (mRv (mRf g a 7) :: st) g μ Q) := Wp_getR k49_191 f5_157 (by decide) (by decide)
theorem k49_194 : mCode 49 194 = some (.iload_n 1, 1) := by decide +kernel
theorem x49_194 {E : ME} {ls : MLs} {st : List MV} {g : MG} {μ : MU} {Q : Option MV → MG → MU → Prop} {l0 : Option MV} {v : Int} : Wp E 49 194 (l0 :: some (.inl v) :: ls) st g μ Q = Wp E 49 195 (l0 :: some (.inl v) :: ls) (.inl v :: st) g μ Q := Wp_nx k49_194 rfl
theorem k49_195 : mCode 49 195 = some (.iaload, 1) := by decide +kernel
theorem x49_195 {E : ME} {ls : MLs} {st : List MV} {g : MG} {μ : MU} {Q : Option MV → MG → MU → Prop} {a : Nat} {j : Int} : Wp E 49 195 ls (.inl j :: .inr (.inr (.inl a)) :: st) g μ Q = (((mKd g a).1 = 10 ∧ 0 ≤ j ∧ j < (mKd g a).2) ∧ Wp E 49 196 ls (.inl (μ a j.toNat) :: st) g μ Q) := Wp_ald k49_195 (fun _ => rfl)
theorem k49_196 : mCode 49 196 = some (.isub, 1) := by decide +kernel
theorem x49_196 {E : ME} {ls : MLs} {st : List MV} {g : MG} {μ : MU} {Q : Option MV → MG → MU → Prop} {a b : Int} : Wp E 49 196 ls (.inl b :: .inl a :: st) g μ Q = Wp E 49 197 ls (.inl (mWr (a - b)) :: st) g μ Q := Wp_nx k49_196 rfl
theorem k49_197 : mCode 49 197 = some (.ireturn, 1) := by decide +kernel
theorem x49_197 {E : ME} {ls : MLs} {g : MG} {μ : MU} {Q : Option MV → MG → MU → Prop} {v : Int} : Wp E 49 197 ls [.inl v] g μ Q = Q (some (.inl v)) g μ := Wp_retI k49_197 (by decide)
theorem k49_198 : mCode 49 198 = some (.aload_n 0, 1) := by decide +kernel
theorem x49_198 {E : ME} {ls : MLs} {st : List MV} {g : MG} {μ : MU} {Q : Option MV → MG → MU → Prop} {v : Nat ⊕ Nat} : Wp E 49 198 (some (.inr (.inr v)) :: ls) st g μ Q = Wp E 49 199 (some (.inr (.inr v)) :: ls) (.inr (.inr v) :: st) g μ Q := Wp_nx k49_198 rfl
theorem k49_199 : mCode 49 199 = some (.getfield 19, 3) := by decide +kernel
theorem x49_199 {E : ME} {ls : MLs} {st : List MV} {g : MG} {μ : MU} {Q : Option MV → MG → MU → Prop} {a : Nat} : Wp E 49 199 ls (.inr (.inr (.inl a)) :: st) g μ Q = ((mKd g a).1 = 5 ∧ Wp E 49 202 ls (mRv (mRf g a 1) :: st) g μ Q) := Wp_getR k49_199 f5_19 (by decide) (by decide)
theorem k49_202 : mCode 49 202 = some (.getfield 123, 3) := by decide +kernel
theorem x49_202 {E : ME} {ls : MLs} {st : List MV} {g : MG} {μ : MU} {Q : Option MV → MG → MU → Prop} {a : Nat} : Wp E 49 202 ls (.inr (.inr (.inl a)) :: st) g μ Q = ((mKd g a).1 = 3 ∧ Wp E 49 205 ls (mRv (mRf g a 8) :: st) g μ Q) := Wp_getR k49_202 f5_123 (by decide) (by decide)
theorem k49_205 : mCode 49 205 = some (.iload_n 1, 1) := by decide +kernel
theorem x49_205 {E : ME} {ls : MLs} {st : List MV} {g : MG} {μ : MU} {Q : Option MV → MG → MU → Prop} {l0 : Option MV} {v : Int} : Wp E 49 205 (l0 :: some (.inl v) :: ls) st g μ Q = Wp E 49 206 (l0 :: some (.inl v) :: ls) (.inl v :: st) g μ Q := Wp_nx k49_205 rfl
theorem k49_206 : mCode 49 206 = some (.iaload, 1) := by decide +kernel
theorem x49_206 {E : ME} {ls : MLs} {st : List MV} {g : MG} {μ : MU} {Q : Option MV → MG → MU → Prop} {a : Nat} {j : Int} : Wp E 49 206 ls (.inl j :: .inr (.inr (.inl a)) :: st) g μ Q = (((mKd g a).1 = 10 ∧ 0 ≤ j ∧ j < (mKd g a).2) ∧ Wp E 49 207 ls (.inl (μ a j.toNat) :: st) g μ Q) := Wp_ald k49_206 (fun _ => rfl)
theorem k49_207 : mCode 49 207 = some (.ireturn, 1) := by decide +kernel
theorem x49_207 {E : ME} {ls : MLs} {g : MG} {μ : MU} {Q : Option MV → MG → MU → Prop} {v : Int} : Wp E 49 207 ls [.inl v] g μ Q = Q (some (.inl v)) g μ := Wp_retI k49_207 (by decide)
theorem k49_208 : mCode 49 208 = some (.aload_n 0, 1) := by decide +kernel
theorem x49_208 {E : ME} {ls : MLs} {st : List MV} {g : MG} {μ : MU} {Q : Option MV → MG → MU → Prop} {v : Nat ⊕ Nat} : Wp E 49 208 (some (.inr (.inr v)) :: ls) st g μ Q = Wp E 49 209 (some (.inr (.inr v)) :: ls) (.inr (.inr v) :: st) g μ Q := Wp_nx k49_208 rfl
theorem k49_209 : mCode 49 209 = some (.aload_n 0, 1) := by decide +kernel
theorem x49_209 {E : ME} {ls : MLs} {st : List MV} {g : MG} {μ : MU} {Q : Option MV → MG → MU → Prop} {v : Nat ⊕ Nat} : Wp E 49 209 (some (.inr (.inr v)) :: ls) st g μ Q = Wp E 49 210 (some (.inr (.inr v)) :: ls) (.inr (.inr v) :: st) g μ Q := Wp_nx k49_209 rfl
theorem k49_210 : mCode 49 210 = some (.getfield 19, 3) := by decide +kernel
theorem x49_210 {E : ME} {ls : MLs} {st : List MV} {g : MG} {μ : MU} {Q : Option MV → MG → MU → Prop} {a : Nat} : Wp E 49 210 ls (.inr (.inr (.inl a)) :: st) g μ Q = ((mKd g a).1 = 5 ∧ Wp E 49 213 ls (mRv (mRf g a 1) :: st) g μ Q) := Wp_getR k49_210 f5_19 (by decide) (by decide)
theorem k49_213 : mCode 49 213 = some (.getfield 142, 3) := by decide +kernel
theorem x49_213 {E : ME} {ls : MLs} {st : List MV} {g : MG} {μ : MU} {Q : Option MV → MG → MU → Prop} {a : Nat} : Wp E 49 213 ls (.inr (.inr (.inl a)) :: st) g μ Q = ((mKd g a).1 = 3 ∧ Wp E 49 216 ls (mRv (mRf g a 1) :: st) g μ Q) := Wp_getR k49_213 f5_142 (by decide) (by decide)
theorem k49_216 : mCode 49 216 = some (.iload_n 1, 1) := by decide +kernel
theorem x49_216 {E : ME} {ls : MLs} {st : List MV} {g : MG} {μ : MU} {Q : Option MV → MG → MU → Prop} {l0 : Option MV} {v : Int} : Wp E 49 216 (l0 :: some (.inl v) :: ls) st g μ Q = Wp E 49 217 (l0 :: some (.inl v) :: ls) (.inl v :: st) g μ Q := Wp_nx k49_216 rfl
theorem k49_217 : mCode 49 217 = some (.iaload, 1) := by decide +kernel
theorem x49_217 {E : ME} {ls : MLs} {st : List MV} {g : MG} {μ : MU} {Q : Option MV → MG → MU → Prop} {a : Nat} {j : Int} : Wp E 49 217 ls (.inl j :: .inr (.inr (.inl a)) :: st) g μ Q = (((mKd g a).1 = 10 ∧ 0 ≤ j ∧ j < (mKd g a).2) ∧ Wp E 49 218 ls (.inl (μ a j.toNat) :: st) g μ Q) := Wp_ald k49_217 (fun _ => rfl)
theorem k49_218 : mCode 49 218 = some (.invokevirtual 160, 3) := by decide +kernel
theorem x49_218 {E : ME} {ls : MLs} {st : List MV} {g : MG} {μ : MU} {Q : Option MV → MG → MU → Prop} {r : Nat} {a0 : Int} : Wp E 49 218 ls (.inl a0 :: .inr (.inr (.inl r)) :: st) g μ Q = ((st.length ≤ 4 ∧ ((mKd g r).1 == 5) = true) ∧ Wp E 55 0 [some (.inr (.inr (.inl r))), some (.inl a0), none] [] g μ (fun r g' μ' => (g'.1 = g.1 ∧ g'.2.1 = g.2.1) ∧ Wp E 49 221 ls (mPush r st) g' μ' Q)) := Wp_cV k49_218 m5_160 (by decide) (as := [.inr (.inr (.inl r)), .inl a0]) rfl rfl rfl ⟨Nat.le_of_ble_eq_true rfl, by decide⟩
theorem k49_221 : mCode 49 221 = some (.ireturn, 1) := by decide +kernel
theorem x49_221 {E : ME} {ls : MLs} {g : MG} {μ : MU} {Q : Option MV → MG → MU → Prop} {v : Int} : Wp E 49 221 ls [.inl v] g μ Q = Q (some (.inl v)) g μ := Wp_retI k49_221 (by decide)
theorem k49_222 : mCode 49 222 = some (.bipush (-2), 2) := by decide +kernel
theorem x49_222 {E : ME} {ls : MLs} {st : List MV} {g : MG} {μ : MU} {Q : Option MV → MG → MU → Prop} : Wp E 49 222 ls st g μ Q = Wp E 49 224 ls (.inl (-2) :: st) g μ Q := Wp_nx k49_222 rfl
theorem k49_224 : mCode 49 224 = some (.ireturn, 1) := by decide +kernel
theorem x49_224 {E : ME} {ls : MLs} {g : MG} {μ : MU} {Q : Option MV → MG → MU → Prop} {v : Int} : Wp E 49 224 ls [.inl v] g μ Q = Q (some (.inl v)) g μ := Wp_retI k49_224 (by decide)
theorem k50_0 : mCode 50 0 = some (.aload_n 0, 1) := by decide +kernel
theorem x50_0 {E : ME} {ls : MLs} {st : List MV} {g : MG} {μ : MU} {Q : Option MV → MG → MU → Prop} {v : Nat ⊕ Nat} : Wp E 50 0 (some (.inr (.inr v)) :: ls) st g μ Q = Wp E 50 1 (some (.inr (.inr v)) :: ls) (.inr (.inr v) :: st) g μ Q := Wp_nx k50_0 rfl
theorem k50_1 : mCode 50 1 = some (.getfield 10, 3) := by decide +kernel
theorem x50_1 {E : ME} {ls : MLs} {st : List MV} {g : MG} {μ : MU} {Q : Option MV → MG → MU → Prop} {a : Nat} : Wp E 50 1 ls (.inr (.inr (.inl a)) :: st) g μ Q = ((mKd g a).1 = 5 ∧ Wp E 50 4 ls (mRv (mRf g a 0) :: st) g μ Q) := Wp_getR k50_1 f5_10 (by decide) (by decide)
theorem k50_4 : mCode 50 4 = some (.iload_n 1, 1) := by decide +kernel
theorem x50_4 {E : ME} {ls : MLs} {st : List MV} {g : MG} {μ : MU} {Q : Option MV → MG → MU → Prop} {l0 : Option MV} {v : Int} : Wp E 50 4 (l0 :: some (.inl v) :: ls) st g μ Q = Wp E 50 5 (l0 :: some (.inl v) :: ls) (.inl v :: st) g μ Q := Wp_nx k50_4 rfl
theorem k50_5 : mCode 50 5 = some (.invokevirtual 130, 3) := by decide +kernel
theorem x50_5 {E : ME} {ls : MLs} {st : List MV} {g : MG} {μ : MU} {Q : Option MV → MG → MU → Prop} {r : Nat} {a0 : Int} : Wp E 50 5 ls (.inl a0 :: .inr (.inr (.inl r)) :: st) g μ Q = ((st.length ≤ 4 ∧ ((mKd g r).1 == 0) = true) ∧ Wp E 4 0 [some (.inr (.inr (.inl r))), some (.inl a0)] [] g μ (fun r g' μ' => (g'.1 = g.1 ∧ g'.2.1 = g.2.1) ∧ Wp E 50 8 ls (mPush r st) g' μ' Q)) := Wp_cV k50_5 m5_130 (by decide) (as := [.inr (.inr (.inl r)), .inl a0]) rfl rfl rfl ⟨Nat.le_of_ble_eq_true rfl, by decide⟩
theorem k50_8 : mCode 50 8 = some (.ifCond .eq 23, 3) := by decide +kernel
theorem x50_8 {E : ME} {ls : MLs} {st : List MV} {g : MG} {μ : MU} {Q : Option MV → MG → MU → Prop} {a : Int} : Wp E 50 8 ls (.inl a :: st) g μ Q = ((a = 0 → Wp E 50 31 ls st g μ Q) ∧ (¬ a = 0 → Wp E 50 11 ls st g μ Q)) := Wp_if_eq k50_8 (by decide)
theorem k50_11 : mCode 50 11 = some (.aload_n 0, 1) := by decide +kernel
theorem x50_11 {E : ME} {ls : MLs} {st : List MV} {g : MG} {μ : MU} {Q : Option MV → MG → MU → Prop} {v : Nat ⊕ Nat} : Wp E 50 11 (some (.inr (.inr v)) :: ls) st g μ Q = Wp E 50 12 (some (.inr (.inr v)) :: ls) (.inr (.inr v) :: st) g μ Q := Wp_nx k50_11 rfl
theorem k50_12 : mCode 50 12 = some (.getfield 10, 3) := by decide +kernel
theorem x50_12 {E : ME} {ls : MLs} {st : List MV} {g : MG} {μ : MU} {Q : Option MV → MG → MU → Prop} {a : Nat} : Wp E 50 12 ls (.inr (.inr (.inl a)) :: st) g μ Q = ((mKd g a).1 = 5 ∧ Wp E 50 15 ls (mRv (mRf g a 0) :: st) g μ Q) := Wp_getR k50_12 f5_10 (by decide) (by decide)
theorem k50_15 : mCode 50 15 = some (.aload_n 0, 1) := by decide +kernel
theorem x50_15 {E : ME} {ls : MLs} {st : List MV} {g : MG} {μ : MU} {Q : Option MV → MG → MU → Prop} {v : Nat ⊕ Nat} : Wp E 50 15 (some (.inr (.inr v)) :: ls) st g μ Q = Wp E 50 16 (some (.inr (.inr v)) :: ls) (.inr (.inr v) :: st) g μ Q := Wp_nx k50_15 rfl
theorem k50_16 : mCode 50 16 = some (.getfield 10, 3) := by decide +kernel
theorem x50_16 {E : ME} {ls : MLs} {st : List MV} {g : MG} {μ : MU} {Q : Option MV → MG → MU → Prop} {a : Nat} : Wp E 50 16 ls (.inr (.inr (.inl a)) :: st) g μ Q = ((mKd g a).1 = 5 ∧ Wp E 50 19 ls (mRv (mRf g a 0) :: st) g μ Q) := Wp_getR k50_16 f5_10 (by decide) (by decide)
theorem k50_19 : mCode 50 19 = some (.getfield 113, 3) := by decide +kernel
theorem x50_19 {E : ME} {ls : MLs} {st : List MV} {g : MG} {μ : MU} {Q : Option MV → MG → MU → Prop} {a : Nat} : Wp E 50 19 ls (.inr (.inr (.inl a)) :: st) g μ Q = ((mKd g a).1 = 0 ∧ Wp E 50 22 ls (mRv (mRf g a 8) :: st) g μ Q) := Wp_getR k50_19 f5_113 (by decide) (by decide)
theorem k50_22 : mCode 50 22 = some (.iload_n 1, 1) := by decide +kernel
theorem x50_22 {E : ME} {ls : MLs} {st : List MV} {g : MG} {μ : MU} {Q : Option MV → MG → MU → Prop} {l0 : Option MV} {v : Int} : Wp E 50 22 (l0 :: some (.inl v) :: ls) st g μ Q = Wp E 50 23 (l0 :: some (.inl v) :: ls) (.inl v :: st) g μ Q := Wp_nx k50_22 rfl
theorem k50_23 : mCode 50 23 = some (.iaload, 1) := by decide +kernel
theorem x50_23 {E : ME} {ls : MLs} {st : List MV} {g : MG} {μ : MU} {Q : Option MV → MG → MU → Prop} {a : Nat} {j : Int} : Wp E 50 23 ls (.inl j :: .inr (.inr (.inl a)) :: st) g μ Q = (((mKd g a).1 = 10 ∧ 0 ≤ j ∧ j < (mKd g a).2) ∧ Wp E 50 24 ls (.inl (μ a j.toNat) :: st) g μ Q) := Wp_ald k50_23 (fun _ => rfl)
theorem k50_24 : mCode 50 24 = some (.iload_n 2, 1) := by decide +kernel
theorem x50_24 {E : ME} {ls : MLs} {st : List MV} {g : MG} {μ : MU} {Q : Option MV → MG → MU → Prop} {l0 l1 : Option MV} {v : Int} : Wp E 50 24 (l0 :: l1 :: some (.inl v) :: ls) st g μ Q = Wp E 50 25 (l0 :: l1 :: some (.inl v) :: ls) (.inl v :: st) g μ Q := Wp_nx k50_24 rfl
theorem k50_25 : mCode 50 25 = some (.invokevirtual 163, 3) := by decide +kernel
theorem x50_25 {E : ME} {ls : MLs} {st : List MV} {g : MG} {μ : MU} {Q : Option MV → MG → MU → Prop} {r : Nat} {a0 : Int} {a1 : Int} : Wp E 50 25 ls (.inl a1 :: .inl a0 :: .inr (.inr (.inl r)) :: st) g μ Q = ((st.length ≤ 4 ∧ ((mKd g r).1 == 0) = true) ∧ Wp E 3 0 [some (.inr (.inr (.inl r))), some (.inl a0), some (.inl a1)] [] g μ (fun r g' μ' => (g'.1 = g.1 ∧ g'.2.1 = g.2.1) ∧ Wp E 50 28 ls (mPush r st) g' μ' Q)) := Wp_cV k50_25 m5_163 (by decide) (as := [.inr (.inr (.inl r)), .inl a0, .inl a1]) rfl rfl rfl ⟨Nat.le_of_ble_eq_true rfl, by decide⟩
theorem k50_28 : mCode 50 28 = some (.ifCond .ne 5, 3) := by decide +kernel
theorem x50_28 {E : ME} {ls : MLs} {st : List MV} {g : MG} {μ : MU} {Q : Option MV → MG → MU → Prop} {a : Int} : Wp E 50 28 ls (.inl a :: st) g μ Q = ((¬ a = 0 → Wp E 50 33 ls st g μ Q) ∧ (a = 0 → Wp E 50 31 ls st g μ Q)) := Wp_if_ne k50_28 (by decide)
theorem k50_31 : mCode 50 31 = some (.iconst (-1), 1) := by decide +kernel
theorem x50_31 {E : ME} {ls : MLs} {st : List MV} {g : MG} {μ : MU} {Q : Option MV → MG → MU → Prop} : Wp E 50 31 ls st g μ Q = Wp E 50 32 ls (.inl (-1) :: st) g μ Q := Wp_nx k50_31 rfl
theorem k50_32 : mCode 50 32 = some (.ireturn, 1) := by decide +kernel
theorem x50_32 {E : ME} {ls : MLs} {g : MG} {μ : MU} {Q : Option MV → MG → MU → Prop} {v : Int} : Wp E 50 32 ls [.inl v] g μ Q = Q (some (.inl v)) g μ := Wp_retI k50_32 (by decide)
theorem k50_33 : mCode 50 33 = some (.aload_n 0, 1) := by decide +kernel
theorem x50_33 {E : ME} {ls : MLs} {st : List MV} {g : MG} {μ : MU} {Q : Option MV → MG → MU → Prop} {v : Nat ⊕ Nat} : Wp E 50 33 (some (.inr (.inr v)) :: ls) st g μ Q = Wp E 50 34 (some (.inr (.inr v)) :: ls) (.inr (.inr v) :: st) g μ Q := Wp_nx k50_33 rfl
theorem k50_34 : mCode 50 34 = some (.getfield 19, 3) := by decide +kernel
theorem x50_34 {E : ME} {ls : MLs} {st : List MV} {g : MG} {μ : MU} {Q : Option MV → MG → MU → Prop} {a : Nat} : Wp E 50 34 ls (.inr (.inr (.inl a)) :: st) g μ Q = ((mKd g a).1 = 5 ∧ Wp E 50 37 ls (mRv (mRf g a 1) :: st) g μ Q) := Wp_getR k50_34 f5_19 (by decide) (by decide)
theorem k50_37 : mCode 50 37 = some (.aload_n 0, 1) := by decide +kernel
theorem x50_37 {E : ME} {ls : MLs} {st : List MV} {g : MG} {μ : MU} {Q : Option MV → MG → MU → Prop} {v : Nat ⊕ Nat} : Wp E 50 37 (some (.inr (.inr v)) :: ls) st g μ Q = Wp E 50 38 (some (.inr (.inr v)) :: ls) (.inr (.inr v) :: st) g μ Q := Wp_nx k50_37 rfl
theorem k50_38 : mCode 50 38 = some (.getfield 10, 3) := by decide +kernel
theorem x50_38 {E : ME} {ls : MLs} {st : List MV} {g : MG} {μ : MU} {Q : Option MV → MG → MU → Prop} {a : Nat} : Wp E 50 38 ls (.inr (.inr (.inl a)) :: st) g μ Q = ((mKd g a).1 = 5 ∧ Wp E 50 41 ls (mRv (mRf g a 0) :: st) g μ Q) := Wp_getR k50_38 f5_10 (by decide) (by decide)
theorem k50_41 : mCode 50 41 = some (.invokevirtual 100, 3) := by decide +kernel
theorem x50_41 {E : ME} {ls : MLs} {st : List MV} {g : MG} {μ : MU} {Q : Option MV → MG → MU → Prop} {r : Nat} {a0 : Nat ⊕ Nat} : Wp E 50 41 ls (.inr (.inr a0) :: .inr (.inr (.inl r)) :: st) g μ Q = ((st.length ≤ 4 ∧ ((mKd g r).1 == 3) = true) ∧ Wp E 28 0 [some (.inr (.inr (.inl r))), some (.inr (.inr a0)), none] [] g μ (fun r g' μ' => (g'.1 = g.1 ∧ g'.2.1 = g.2.1) ∧ Wp E 50 44 ls (mPush r st) g' μ' Q)) := Wp_cV k50_41 m5_100 (by decide) (as := [.inr (.inr (.inl r)), .inr (.inr a0)]) rfl rfl rfl ⟨Nat.le_of_ble_eq_true rfl, by decide⟩
theorem k50_44 : mCode 50 44 = some (.aload_n 0, 1) := by decide +kernel
theorem x50_44 {E : ME} {ls : MLs} {st : List MV} {g : MG} {μ : MU} {Q : Option MV → MG → MU → Prop} {v : Nat ⊕ Nat} : Wp E 50 44 (some (.inr (.inr v)) :: ls) st g μ Q = Wp E 50 45 (some (.inr (.inr v)) :: ls) (.inr (.inr v) :: st) g μ Q := Wp_nx k50_44 rfl
theorem k50_45 : mCode 50 45 = some (.getfield 19, 3) := by decide +kernel
theorem x50_45 {E : ME} {ls : MLs} {st : List MV} {g : MG} {μ : MU} {Q : Option MV → MG → MU → Prop} {a : Nat} : Wp E 50 45 ls (.inr (.inr (.inl a)) :: st) g μ Q = ((mKd g a).1 = 5 ∧ Wp E 50 48 ls (mRv (mRf g a 1) :: st) g μ Q) := Wp_getR k50_45 f5_19 (by decide) (by decide)
theorem k50_48 : mCode 50 48 = some (.getfield 167, 3) := by decide +kernel
theorem x50_48 {E : ME} {ls : MLs} {st : List MV} {g : MG} {μ : MU} {Q : Option MV → MG → MU → Prop} {a : Nat} : Wp E 50 48 ls (.inr (.inr (.inl a)) :: st) g μ Q = ((mKd g a).1 = 3 ∧ Wp E 50 51 ls (mRv (mRf g a 5) :: st) g μ Q) := Wp_getR k50_48 f5_167 (by decide) (by decide)
theorem k50_51 : mCode 50 51 = some (.iload_n 1, 1) := by decide +kernel
theorem x50_51 {E : ME} {ls : MLs} {st : List MV} {g : MG} {μ : MU} {Q : Option MV → MG → MU → Prop} {l0 : Option MV} {v : Int} : Wp E 50 51 (l0 :: some (.inl v) :: ls) st g μ Q = Wp E 50 52 (l0 :: some (.inl v) :: ls) (.inl v :: st) g μ Q := Wp_nx k50_51 rfl
theorem k50_52 : mCode 50 52 = some (.bipush 6, 2) := by decide +kernel
theorem x50_52 {E : ME} {ls : MLs} {st : List MV} {g : MG} {μ : MU} {Q : Option MV → MG → MU → Prop} : Wp E 50 52 ls st g μ Q = Wp E 50 54 ls (.inl 6 :: st) g μ Q := Wp_nx k50_52 rfl
theorem k50_54 : mCode 50 54 = some (.imul, 1) := by decide +kernel
theorem x50_54 {E : ME} {ls : MLs} {st : List MV} {g : MG} {μ : MU} {Q : Option MV → MG → MU → Prop} {a b : Int} : Wp E 50 54 ls (.inl b :: .inl a :: st) g μ Q = Wp E 50 55 ls (.inl (mWr (a * b)) :: st) g μ Q := Wp_nx k50_54 rfl
theorem k50_55 : mCode 50 55 = some (.iload_n 2, 1) := by decide +kernel
theorem x50_55 {E : ME} {ls : MLs} {st : List MV} {g : MG} {μ : MU} {Q : Option MV → MG → MU → Prop} {l0 l1 : Option MV} {v : Int} : Wp E 50 55 (l0 :: l1 :: some (.inl v) :: ls) st g μ Q = Wp E 50 56 (l0 :: l1 :: some (.inl v) :: ls) (.inl v :: st) g μ Q := Wp_nx k50_55 rfl
theorem k50_56 : mCode 50 56 = some (.iadd, 1) := by decide +kernel
theorem x50_56 {E : ME} {ls : MLs} {st : List MV} {g : MG} {μ : MU} {Q : Option MV → MG → MU → Prop} {a b : Int} : Wp E 50 56 ls (.inl b :: .inl a :: st) g μ Q = Wp E 50 57 ls (.inl (mWr (a + b)) :: st) g μ Q := Wp_nx k50_56 rfl
theorem k50_57 : mCode 50 57 = some (.iaload, 1) := by decide +kernel
theorem x50_57 {E : ME} {ls : MLs} {st : List MV} {g : MG} {μ : MU} {Q : Option MV → MG → MU → Prop} {a : Nat} {j : Int} : Wp E 50 57 ls (.inl j :: .inr (.inr (.inl a)) :: st) g μ Q = (((mKd g a).1 = 10 ∧ 0 ≤ j ∧ j < (mKd g a).2) ∧ Wp E 50 58 ls (.inl (μ a j.toNat) :: st) g μ Q) := Wp_ald k50_57 (fun _ => rfl)
theorem k50_58 : mCode 50 58 = some (.ireturn, 1) := by decide +kernel
theorem x50_58 {E : ME} {ls : MLs} {g : MG} {μ : MU} {Q : Option MV → MG → MU → Prop} {v : Int} : Wp E 50 58 ls [.inl v] g μ Q = Q (some (.inl v)) g μ := Wp_retI k50_58 (by decide)
theorem k51_0 : mCode 51 0 = some (.aload_n 0, 1) := by decide +kernel
theorem x51_0 {E : ME} {ls : MLs} {st : List MV} {g : MG} {μ : MU} {Q : Option MV → MG → MU → Prop} {v : Nat ⊕ Nat} : Wp E 51 0 (some (.inr (.inr v)) :: ls) st g μ Q = Wp E 51 1 (some (.inr (.inr v)) :: ls) (.inr (.inr v) :: st) g μ Q := Wp_nx k51_0 rfl
theorem k51_1 : mCode 51 1 = some (.getfield 10, 3) := by decide +kernel
theorem x51_1 {E : ME} {ls : MLs} {st : List MV} {g : MG} {μ : MU} {Q : Option MV → MG → MU → Prop} {a : Nat} : Wp E 51 1 ls (.inr (.inr (.inl a)) :: st) g μ Q = ((mKd g a).1 = 5 ∧ Wp E 51 4 ls (mRv (mRf g a 0) :: st) g μ Q) := Wp_getR k51_1 f5_10 (by decide) (by decide)
theorem k51_4 : mCode 51 4 = some (.iload_n 1, 1) := by decide +kernel
theorem x51_4 {E : ME} {ls : MLs} {st : List MV} {g : MG} {μ : MU} {Q : Option MV → MG → MU → Prop} {l0 : Option MV} {v : Int} : Wp E 51 4 (l0 :: some (.inl v) :: ls) st g μ Q = Wp E 51 5 (l0 :: some (.inl v) :: ls) (.inl v :: st) g μ Q := Wp_nx k51_4 rfl
theorem k51_5 : mCode 51 5 = some (.iload_n 2, 1) := by decide +kernel
theorem x51_5 {E : ME} {ls : MLs} {st : List MV} {g : MG} {μ : MU} {Q : Option MV → MG → MU → Prop} {l0 l1 : Option MV} {v : Int} : Wp E 51 5 (l0 :: l1 :: some (.inl v) :: ls) st g μ Q = Wp E 51 6 (l0 :: l1 :: some (.inl v) :: ls) (.inl v :: st) g μ Q := Wp_nx k51_5 rfl
theorem k51_6 : mCode 51 6 = some (.invokevirtual 163, 3) := by decide +kernel
theorem x51_6 {E : ME} {ls : MLs} {st : List MV} {g : MG} {μ : MU} {Q : Option MV → MG → MU → Prop} {r : Nat} {a0 : Int} {a1 : Int} : Wp E 51 6 ls (.inl a1 :: .inl a0 :: .inr (.inr (.inl r)) :: st) g μ Q = ((st.length ≤ 4 ∧ ((mKd g r).1 == 0) = true) ∧ Wp E 3 0 [some (.inr (.inr (.inl r))), some (.inl a0), some (.inl a1)] [] g μ (fun r g' μ' => (g'.1 = g.1 ∧ g'.2.1 = g.2.1) ∧ Wp E 51 9 ls (mPush r st) g' μ' Q)) := Wp_cV k51_6 m5_163 (by decide) (as := [.inr (.inr (.inl r)), .inl a0, .inl a1]) rfl rfl rfl ⟨Nat.le_of_ble_eq_true rfl, by decide⟩
theorem k51_9 : mCode 51 9 = some (.ifCond .ne 5, 3) := by decide +kernel
theorem x51_9 {E : ME} {ls : MLs} {st : List MV} {g : MG} {μ : MU} {Q : Option MV → MG → MU → Prop} {a : Int} : Wp E 51 9 ls (.inl a :: st) g μ Q = ((¬ a = 0 → Wp E 51 14 ls st g μ Q) ∧ (a = 0 → Wp E 51 12 ls st g μ Q)) := Wp_if_ne k51_9 (by decide)
theorem k51_12 : mCode 51 12 = some (.iconst (-1), 1) := by decide +kernel
theorem x51_12 {E : ME} {ls : MLs} {st : List MV} {g : MG} {μ : MU} {Q : Option MV → MG → MU → Prop} : Wp E 51 12 ls st g μ Q = Wp E 51 13 ls (.inl (-1) :: st) g μ Q := Wp_nx k51_12 rfl
theorem k51_13 : mCode 51 13 = some (.ireturn, 1) := by decide +kernel
theorem x51_13 {E : ME} {ls : MLs} {g : MG} {μ : MU} {Q : Option MV → MG → MU → Prop} {v : Int} : Wp E 51 13 ls [.inl v] g μ Q = Q (some (.inl v)) g μ := Wp_retI k51_13 (by decide)
theorem k51_14 : mCode 51 14 = some (.iload_n 3, 1) := by decide +kernel
theorem x51_14 {E : ME} {ls : MLs} {st : List MV} {g : MG} {μ : MU} {Q : Option MV → MG → MU → Prop} {l0 l1 l2 : Option MV} {v : Int} : Wp E 51 14 (l0 :: l1 :: l2 :: some (.inl v) :: ls) st g μ Q = Wp E 51 15 (l0 :: l1 :: l2 :: some (.inl v) :: ls) (.inl v :: st) g μ Q := Wp_nx k51_14 rfl
theorem k51_15 : mCode 51 15 = some (.iconst 0, 1) := by decide +kernel
theorem x51_15 {E : ME} {ls : MLs} {st : List MV} {g : MG} {μ : MU} {Q : Option MV → MG → MU → Prop} : Wp E 51 15 ls st g μ Q = Wp E 51 16 ls (.inl 0 :: st) g μ Q := Wp_nx k51_15 rfl
theorem k51_16 : mCode 51 16 = some (.sipush 9999, 3) := by decide +kernel
theorem x51_16 {E : ME} {ls : MLs} {st : List MV} {g : MG} {μ : MU} {Q : Option MV → MG → MU → Prop} : Wp E 51 16 ls st g μ Q = Wp E 51 19 ls (.inl 9999 :: st) g μ Q := Wp_nx k51_16 rfl
theorem k51_19 : mCode 51 19 = some (.invokestatic 170, 3) := by decide +kernel
theorem x51_19 {E : ME} {ls : MLs} {st : List MV} {g : MG} {μ : MU} {Q : Option MV → MG → MU → Prop} {a0 : Int} {a1 : Int} {a2 : Int} : Wp E 51 19 ls (.inl a2 :: .inl a1 :: .inl a0 :: st) g μ Q = (st.length ≤ 4 ∧ Wp E 74 0 [some (.inl a0), some (.inl a1), some (.inl a2)] [] g μ (fun r g' μ' => (g'.1 = g.1 ∧ g'.2.1 = g.2.1) ∧ Wp E 51 22 ls (mPush r st) g' μ' Q)) := Wp_cS k51_19 m5_170 (by decide) (as := [.inl a0, .inl a1, .inl a2]) rfl rfl rfl ⟨Nat.le_of_ble_eq_true rfl, by decide⟩
theorem k51_22 : mCode 51 22 = some (.ifCond .ne 6, 3) := by decide +kernel
theorem x51_22 {E : ME} {ls : MLs} {st : List MV} {g : MG} {μ : MU} {Q : Option MV → MG → MU → Prop} {a : Int} : Wp E 51 22 ls (.inl a :: st) g μ Q = ((¬ a = 0 → Wp E 51 28 ls st g μ Q) ∧ (a = 0 → Wp E 51 25 ls st g μ Q)) := Wp_if_ne k51_22 (by decide)
theorem k51_25 : mCode 51 25 = some (.bipush (-2), 2) := by decide +kernel
theorem x51_25 {E : ME} {ls : MLs} {st : List MV} {g : MG} {μ : MU} {Q : Option MV → MG → MU → Prop} : Wp E 51 25 ls st g μ Q = Wp E 51 27 ls (.inl (-2) :: st) g μ Q := Wp_nx k51_25 rfl
theorem k51_27 : mCode 51 27 = some (.ireturn, 1) := by decide +kernel
theorem x51_27 {E : ME} {ls : MLs} {g : MG} {μ : MU} {Q : Option MV → MG → MU → Prop} {v : Int} : Wp E 51 27 ls [.inl v] g μ Q = Q (some (.inl v)) g μ := Wp_retI k51_27 (by decide)
theorem k51_28 : mCode 51 28 = some (.aload_n 0, 1) := by decide +kernel
theorem x51_28 {E : ME} {ls : MLs} {st : List MV} {g : MG} {μ : MU} {Q : Option MV → MG → MU → Prop} {v : Nat ⊕ Nat} : Wp E 51 28 (some (.inr (.inr v)) :: ls) st g μ Q = Wp E 51 29 (some (.inr (.inr v)) :: ls) (.inr (.inr v) :: st) g μ Q := Wp_nx k51_28 rfl
theorem k51_29 : mCode 51 29 = some (.getfield 19, 3) := by decide +kernel
theorem x51_29 {E : ME} {ls : MLs} {st : List MV} {g : MG} {μ : MU} {Q : Option MV → MG → MU → Prop} {a : Nat} : Wp E 51 29 ls (.inr (.inr (.inl a)) :: st) g μ Q = ((mKd g a).1 = 5 ∧ Wp E 51 32 ls (mRv (mRf g a 1) :: st) g μ Q) := Wp_getR k51_29 f5_19 (by decide) (by decide)
theorem k51_32 : mCode 51 32 = some (.aload_n 0, 1) := by decide +kernel
theorem x51_32 {E : ME} {ls : MLs} {st : List MV} {g : MG} {μ : MU} {Q : Option MV → MG → MU → Prop} {v : Nat ⊕ Nat} : Wp E 51 32 (some (.inr (.inr v)) :: ls) st g μ Q = Wp E 51 33 (some (.inr (.inr v)) :: ls) (.inr (.inr v) :: st) g μ Q := Wp_nx k51_32 rfl
theorem k51_33 : mCode 51 33 = some (.getfield 10, 3) := by decide +kernel
theorem x51_33 {E : ME} {ls : MLs} {st : List MV} {g : MG} {μ : MU} {Q : Option MV → MG → MU → Prop} {a : Nat} : Wp E 51 33 ls (.inr (.inr (.inl a)) :: st) g μ Q = ((mKd g a).1 = 5 ∧ Wp E 51 36 ls (mRv (mRf g a 0) :: st) g μ Q) := Wp_getR k51_33 f5_10 (by decide) (by decide)
theorem k51_36 : mCode 51 36 = some (.invokevirtual 100, 3) := by decide +kernel
theorem x51_36 {E : ME} {ls : MLs} {st : List MV} {g : MG} {μ : MU} {Q : Option MV → MG → MU → Prop} {r : Nat} {a0 : Nat ⊕ Nat} : Wp E 51 36 ls (.inr (.inr a0) :: .inr (.inr (.inl r)) :: st) g μ Q = ((st.length ≤ 4 ∧ ((mKd g r).1 == 3) = true) ∧ Wp E 28 0 [some (.inr (.inr (.inl r))), some (.inr (.inr a0)), none] [] g μ (fun r g' μ' => (g'.1 = g.1 ∧ g'.2.1 = g.2.1) ∧ Wp E 51 39 ls (mPush r st) g' μ' Q)) := Wp_cV k51_36 m5_100 (by decide) (as := [.inr (.inr (.inl r)), .inr (.inr a0)]) rfl rfl rfl ⟨Nat.le_of_ble_eq_true rfl, by decide⟩
theorem k51_39 : mCode 51 39 = some (.aload_n 0, 1) := by decide +kernel
theorem x51_39 {E : ME} {ls : MLs} {st : List MV} {g : MG} {μ : MU} {Q : Option MV → MG → MU → Prop} {v : Nat ⊕ Nat} : Wp E 51 39 (some (.inr (.inr v)) :: ls) st g μ Q = Wp E 51 40 (some (.inr (.inr v)) :: ls) (.inr (.inr v) :: st) g μ Q := Wp_nx k51_39 rfl
theorem k51_40 : mCode 51 40 = some (.iload_n 1, 1) := by decide +kernel
theorem x51_40 {E : ME} {ls : MLs} {st : List MV} {g : MG} {μ : MU} {Q : Option MV → MG → MU → Prop} {l0 : Option MV} {v : Int} : Wp E 51 40 (l0 :: some (.inl v) :: ls) st g μ Q = Wp E 51 41 (l0 :: some (.inl v) :: ls) (.inl v :: st) g μ Q := Wp_nx k51_40 rfl
theorem k51_41 : mCode 51 41 = some (.iload_n 2, 1) := by decide +kernel
theorem x51_41 {E : ME} {ls : MLs} {st : List MV} {g : MG} {μ : MU} {Q : Option MV → MG → MU → Prop} {l0 l1 : Option MV} {v : Int} : Wp E 51 41 (l0 :: l1 :: some (.inl v) :: ls) st g μ Q = Wp E 51 42 (l0 :: l1 :: some (.inl v) :: ls) (.inl v :: st) g μ Q := Wp_nx k51_41 rfl
theorem k51_42 : mCode 51 42 = some (.iload_n 3, 1) := by decide +kernel
theorem x51_42 {E : ME} {ls : MLs} {st : List MV} {g : MG} {μ : MU} {Q : Option MV → MG → MU → Prop} {l0 l1 l2 : Option MV} {v : Int} : Wp E 51 42 (l0 :: l1 :: l2 :: some (.inl v) :: ls) st g μ Q = Wp E 51 43 (l0 :: l1 :: l2 :: some (.inl v) :: ls) (.inl v :: st) g μ Q := Wp_nx k51_42 rfl
theorem k51_43 : mCode 51 43 = some (.invokevirtual 174, 3) := by decide +kernel
theorem x51_43 {E : ME} {ls : MLs} {st : List MV} {g : MG} {μ : MU} {Q : Option MV → MG → MU → Prop} {r : Nat} {a0 : Int} {a1 : Int} {a2 : Int} : Wp E 51 43 ls (.inl a2 :: .inl a1 :: .inl a0 :: .inr (.inr (.inl r)) :: st) g μ Q = ((st.length ≤ 4 ∧ ((mKd g r).1 == 5) = true) ∧ Wp E 56 0 [some (.inr (.inr (.inl r))), some (.inl a0), some (.inl a1), some (.inl a2), none, none, none, none, none] [] g μ (fun r g' μ' => (g'.1 = g.1 ∧ g'.2.1 = g.2.1) ∧ Wp E 51 46 ls (mPush r st) g' μ' Q)) := Wp_cV k51_43 m5_174 (by decide) (as := [.inr (.inr (.inl r)), .inl a0, .inl a1, .inl a2]) rfl rfl rfl ⟨Nat.le_of_ble_eq_true rfl, by decide⟩
theorem k51_46 : mCode 51 46 = some (.ireturn, 1) := by decide +kernel
theorem x51_46 {E : ME} {ls : MLs} {g : MG} {μ : MU} {Q : Option MV → MG → MU → Prop} {v : Int} : Wp E 51 46 ls [.inl v] g μ Q = Q (some (.inl v)) g μ := Wp_retI k51_46 (by decide)
theorem k52_0 : mCode 52 0 = some (.aload_n 0, 1) := by decide +kernel
theorem x52_0 {E : ME} {ls : MLs} {st : List MV} {g : MG} {μ : MU} {Q : Option MV → MG → MU → Prop} {v : Nat ⊕ Nat} : Wp E 52 0 (some (.inr (.inr v)) :: ls) st g μ Q = Wp E 52 1 (some (.inr (.inr v)) :: ls) (.inr (.inr v) :: st) g μ Q := Wp_nx k52_0 rfl
theorem k52_1 : mCode 52 1 = some (.getfield 19, 3) := by decide +kernel
theorem x52_1 {E : ME} {ls : MLs} {st : List MV} {g : MG} {μ : MU} {Q : Option MV → MG → MU → Prop} {a : Nat} : Wp E 52 1 ls (.inr (.inr (.inl a)) :: st) g μ Q = ((mKd g a).1 = 5 ∧ Wp E 52 4 ls (mRv (mRf g a 1) :: st) g μ Q) := Wp_getR k52_1 f5_19 (by decide) (by decide)
theorem k52_4 : mCode 52 4 = some (.aload_n 0, 1) := by decide +kernel
theorem x52_4 {E : ME} {ls : MLs} {st : List MV} {g : MG} {μ : MU} {Q : Option MV → MG → MU → Prop} {v : Nat ⊕ Nat} : Wp E 52 4 (some (.inr (.inr v)) :: ls) st g μ Q = Wp E 52 5 (some (.inr (.inr v)) :: ls) (.inr (.inr v) :: st) g μ Q := Wp_nx k52_4 rfl
theorem k52_5 : mCode 52 5 = some (.getfield 10, 3) := by decide +kernel
theorem x52_5 {E : ME} {ls : MLs} {st : List MV} {g : MG} {μ : MU} {Q : Option MV → MG → MU → Prop} {a : Nat} : Wp E 52 5 ls (.inr (.inr (.inl a)) :: st) g μ Q = ((mKd g a).1 = 5 ∧ Wp E 52 8 ls (mRv (mRf g a 0) :: st) g μ Q) := Wp_getR k52_5 f5_10 (by decide) (by decide)
theorem k52_8 : mCode 52 8 = some (.invokevirtual 100, 3) := by decide +kernel
theorem x52_8 {E : ME} {ls : MLs} {st : List MV} {g : MG} {μ : MU} {Q : Option MV → MG → MU → Prop} {r : Nat} {a0 : Nat ⊕ Nat} : Wp E 52 8 ls (.inr (.inr a0) :: .inr (.inr (.inl r)) :: st) g μ Q = ((st.length ≤ 4 ∧ ((mKd g r).1 == 3) = true) ∧ Wp E 28 0 [some (.inr (.inr (.inl r))), some (.inr (.inr a0)), none] [] g μ (fun r g' μ' => (g'.1 = g.1 ∧ g'.2.1 = g.2.1) ∧ Wp E 52 11 ls (mPush r st) g' μ' Q)) := Wp_cV k52_8 m5_100 (by decide) (as := [.inr (.inr (.inl r)), .inr (.inr a0)]) rfl rfl rfl ⟨Nat.le_of_ble_eq_true rfl, by decide⟩
theorem k52_11 : mCode 52 11 = some (.iload_n 1, 1) := by decide +kernel
theorem x52_11 {E : ME} {ls : MLs} {st : List MV} {g : MG} {μ : MU} {Q : Option MV → MG → MU → Prop} {l0 : Option MV} {v : Int} : Wp E 52 11 (l0 :: some (.inl v) :: ls) st g μ Q = Wp E 52 12 (l0 :: some (.inl v) :: ls) (.inl v :: st) g μ Q := Wp_nx k52_11 rfl
theorem k52_12 : mCode 52 12 = some (.tableswitch 254 0 14 #[76, 84, 92, 110, 122, 140, 158, 176, 188, 198, 208, 218, 228, 238, 246], 76) := by decide +kernel
theorem x52_12_0 {E : ME} {ls : MLs} {st : List MV} {g : MG} {μ : MU} {Q : Option MV → MG → MU → Prop} : Wp E 52 12 ls (.inl 0 :: st) g μ Q = Wp E 52 88 ls st g μ Q := Wp_nx k52_12 rfl
theorem x52_12_1 {E : ME} {ls : MLs} {st : List MV} {g : MG} {μ : MU} {Q : Option MV → MG → MU → Prop} : Wp E 52 12 ls (.inl 1 :: st) g μ Q = Wp E 52 96 ls st g μ Q := Wp_nx k52_12 rfl
theorem x52_12_2 {E : ME} {ls : MLs} {st : List MV} {g : MG} {μ : MU} {Q : Option MV → MG → MU → Prop} : Wp E 52 12 ls (.inl 2 :: st) g μ Q = Wp E 52 104 ls st g μ Q := Wp_nx k52_12 rfl
theorem x52_12_3 {E : ME} {ls : MLs} {st : List MV} {g : MG} {μ : MU} {Q : Option MV → MG → MU → Prop} : Wp E 52 12 ls (.inl 3 :: st) g μ Q = Wp E 52 122 ls st g μ Q := Wp_nx k52_12 rfl
theorem x52_12_4 {E : ME} {ls : MLs} {st : List MV} {g : MG} {μ : MU} {Q : Option MV → MG → MU → Prop} : Wp E 52 12 ls (.inl 4 :: st) g μ Q = Wp E 52 134 ls st g μ Q := Wp_nx k52_12 rfl
theorem x52_12_5 {E : ME} {ls : MLs} {st : List MV} {g : MG} {μ : MU} {Q : Option MV → MG → MU → Prop} : Wp E 52 12 ls (.inl 5 :: st) g μ Q = Wp E 52 152 ls st g μ Q := Wp_nx k52_12 rfl
theorem x52_12_6 {E : ME} {ls : MLs} {st : List MV} {g : MG} {μ : MU} {Q : Option MV → MG → MU → Prop} : Wp E 52 12 ls (.inl 6 :: st) g μ Q = Wp E 52 170 ls st g μ Q := Wp_nx k52_12 rfl
theorem x52_12_7 {E : ME} {ls : MLs} {st : List MV} {g : MG} {μ : MU} {Q : Option MV → MG → MU → Prop} : Wp E 52 12 ls (.inl 7 :: st) g μ Q = Wp E 52 188 ls st g μ Q := Wp_nx k52_12 rfl
theorem x52_12_8 {E : ME} {ls : MLs} {st : List MV} {g : MG} {μ : MU} {Q : Option MV → MG → MU → Prop} : Wp E 52 12 ls (.inl 8 :: st) g μ Q = Wp E 52 200 ls st g μ Q := Wp_nx k52_12 rfl
theorem x52_12_9 {E : ME} {ls : MLs} {st : List MV} {g : MG} {μ : MU} {Q : Option MV → MG → MU → Prop} : Wp E 52 12 ls (.inl 9 :: st) g μ Q = Wp E 52 210 ls st g μ Q := Wp_nx k52_12 rfl
theorem x52_12_10 {E : ME} {ls : MLs} {st : List MV} {g : MG} {μ : MU} {Q : Option MV → MG → MU → Prop} : Wp E 52 12 ls (.inl 10 :: st) g μ Q = Wp E 52 220 ls st g μ Q := Wp_nx k52_12 rfl
theorem x52_12_11 {E : ME} {ls : MLs} {st : List MV} {g : MG} {μ : MU} {Q : Option MV → MG → MU → Prop} : Wp E 52 12 ls (.inl 11 :: st) g μ Q = Wp E 52 230 ls st g μ Q := Wp_nx k52_12 rfl
theorem x52_12_12 {E : ME} {ls : MLs} {st : List MV} {g : MG} {μ : MU} {Q : Option MV → MG → MU → Prop} : Wp E 52 12 ls (.inl 12 :: st) g μ Q = Wp E 52 240 ls st g μ Q := Wp_nx k52_12 rfl
theorem x52_12_13 {E : ME} {ls : MLs} {st : List MV} {g : MG} {μ : MU} {Q : Option MV → MG → MU → Prop} : Wp E 52 12 ls (.inl 13 :: st) g μ Q = Wp E 52 250 ls st g μ Q := Wp_nx k52_12 rfl
theorem x52_12_14 {E : ME} {ls : MLs} {st : List MV} {g : MG} {μ : MU} {Q : Option MV → MG → MU → Prop} : Wp E 52 12 ls (.inl 14 :: st) g μ Q = Wp E 52 258 ls st g μ Q := Wp_nx k52_12 rfl
theorem x52_12_d {E : ME} {ls : MLs} {st : List MV} {g : MG} {μ : MU} {Q : Option MV → MG → MU → Prop} {a : Int} (h : a < 0 ∨ 14 < a) : Wp E 52 12 ls (.inl a :: st) g μ Q = Wp E 52 266 ls st g μ Q := Wp_tswD k52_12 h (by decide)
theorem k52_88 : mCode 52 88 = some (.aload_n 0, 1) := by decide +kernel
theorem x52_88 {E : ME} {ls : MLs} {st : List MV} {g : MG} {μ : MU} {Q : Option MV → MG → MU → Prop} {v : Nat ⊕ Nat} : Wp E 52 88 (some (.inr (.inr v)) :: ls) st g μ Q = Wp E 52 89 (some (.inr (.inr v)) :: ls) (.inr (.inr v) :: st) g μ Q := Wp_nx k52_88 rfl
theorem k52_89 : mCode 52 89 = some (.getfield 10, 3) := by decide +kernel
theorem x52_89 {E : ME} {ls : MLs} {st : List MV} {g : MG} {μ : MU} {Q : Option MV → MG → MU → Prop} {a : Nat} : Wp E 52 89 ls (.inr (.inr (.inl a)) :: st) g μ Q = ((mKd g a).1 = 5 ∧ Wp E 52 92 ls (mRv (mRf g a 0) :: st) g μ Q) := Wp_getR k52_89 f5_10 (by decide) (by decide)
theorem k52_92 : mCode 52 92 = some (.getfield 177, 3) := by decide +kernel
theorem x52_92 {E : ME} {ls : MLs} {st : List MV} {g : MG} {μ : MU} {Q : Option MV → MG → MU → Prop} {a : Nat} : Wp E 52 92 ls (.inr (.inr (.inl a)) :: st) g μ Q = ((mKd g a).1 = 0 ∧ Wp E 52 95 ls (.inl (μ a 2) :: st) g μ Q) := Wp_getI k52_92 f5_177 (by decide) (by decide)
theorem k52_95 : mCode 52 95 = some (.ireturn, 1) := by decide +kernel
theorem x52_95 {E : ME} {ls : MLs} {g : MG} {μ : MU} {Q : Option MV → MG → MU → Prop} {v : Int} : Wp E 52 95 ls [.inl v] g μ Q = Q (some (.inl v)) g μ := Wp_retI k52_95 (by decide)
theorem k52_96 : mCode 52 96 = some (.aload_n 0, 1) := by decide +kernel
theorem x52_96 {E : ME} {ls : MLs} {st : List MV} {g : MG} {μ : MU} {Q : Option MV → MG → MU → Prop} {v : Nat ⊕ Nat} : Wp E 52 96 (some (.inr (.inr v)) :: ls) st g μ Q = Wp E 52 97 (some (.inr (.inr v)) :: ls) (.inr (.inr v) :: st) g μ Q := Wp_nx k52_96 rfl
theorem k52_97 : mCode 52 97 = some (.getfield 10, 3) := by decide +kernel
theorem x52_97 {E : ME} {ls : MLs} {st : List MV} {g : MG} {μ : MU} {Q : Option MV → MG → MU → Prop} {a : Nat} : Wp E 52 97 ls (.inr (.inr (.inl a)) :: st) g μ Q = ((mKd g a).1 = 5 ∧ Wp E 52 100 ls (mRv (mRf g a 0) :: st) g μ Q) := Wp_getR k52_97 f5_10 (by decide) (by decide)
theorem k52_100 : mCode 52 100 = some (.getfield 181, 3) := by decide +kernel
theorem x52_100 {E : ME} {ls : MLs} {st : List MV} {g : MG} {μ : MU} {Q : Option MV → MG → MU → Prop} {a : Nat} : Wp E 52 100 ls (.inr (.inr (.inl a)) :: st) g μ Q = ((mKd g a).1 = 0 ∧ Wp E 52 103 ls (.inl (μ a 7) :: st) g μ Q) := Wp_getI k52_100 f5_181 (by decide) (by decide)
theorem k52_103 : mCode 52 103 = some (.ireturn, 1) := by decide +kernel
theorem x52_103 {E : ME} {ls : MLs} {g : MG} {μ : MU} {Q : Option MV → MG → MU → Prop} {v : Int} : Wp E 52 103 ls [.inl v] g μ Q = Q (some (.inl v)) g μ := Wp_retI k52_103 (by decide)
theorem k52_104 : mCode 52 104 = some (.aload_n 0, 1) := by decide +kernel
theorem x52_104 {E : ME} {ls : MLs} {st : List MV} {g : MG} {μ : MU} {Q : Option MV → MG → MU → Prop} {v : Nat ⊕ Nat} : Wp E 52 104 (some (.inr (.inr v)) :: ls) st g μ Q = Wp E 52 105 (some (.inr (.inr v)) :: ls) (.inr (.inr v) :: st) g μ Q := Wp_nx k52_104 rfl
theorem k52_105 : mCode 52 105 = some (.getfield 19, 3) := by decide +kernel
theorem x52_105 {E : ME} {ls : MLs} {st : List MV} {g : MG} {μ : MU} {Q : Option MV → MG → MU → Prop} {a : Nat} : Wp E 52 105 ls (.inr (.inr (.inl a)) :: st) g μ Q = ((mKd g a).1 = 5 ∧ Wp E 52 108 ls (mRv (mRf g a 1) :: st) g μ Q) := Wp_getR k52_105 f5_19 (by decide) (by decide)
theorem k52_108 : mCode 52 108 = some (.getfield 148, 3) := by decide +kernel
theorem x52_108 {E : ME} {ls : MLs} {st : List MV} {g : MG} {μ : MU} {Q : Option MV → MG → MU → Prop} {a : Nat} : Wp E 52 108 ls (.inr (.inr (.inl a)) :: st) g μ Q = ((mKd g a).1 = 3 ∧ Wp E 52 111 ls (mRv (mRf g a 3) :: st) g μ Q) := Wp_getR k52_108 f5_148 (by decide) (by decide)
theorem k52_111 : mCode 52 111 = some (.aload_n 0, 1) := by decide +kernel
theorem x52_111 {E : ME} {ls : MLs} {st : List MV} {g : MG} {μ : MU} {Q : Option MV → MG → MU → Prop} {v : Nat ⊕ Nat} : Wp E 52 111 (some (.inr (.inr v)) :: ls) st g μ Q = Wp E 52 112 (some (.inr (.inr v)) :: ls) (.inr (.inr v) :: st) g μ Q := Wp_nx k52_111 rfl
theorem k52_112 : mCode 52 112 = some (.getfield 10, 3) := by decide +kernel
theorem x52_112 {E : ME} {ls : MLs} {st : List MV} {g : MG} {μ : MU} {Q : Option MV → MG → MU → Prop} {a : Nat} : Wp E 52 112 ls (.inr (.inr (.inl a)) :: st) g μ Q = ((mKd g a).1 = 5 ∧ Wp E 52 115 ls (mRv (mRf g a 0) :: st) g μ Q) := Wp_getR k52_112 f5_10 (by decide) (by decide)
theorem k52_115 : mCode 52 115 = some (.getfield 181, 3) := by decide +kernel
theorem x52_115 {E : ME} {ls : MLs} {st : List MV} {g : MG} {μ : MU} {Q : Option MV → MG → MU → Prop} {a : Nat} : Wp E 52 115 ls (.inr (.inr (.inl a)) :: st) g μ Q = ((mKd g a).1 = 0 ∧ Wp E 52 118 ls (.inl (μ a 7) :: st) g μ Q) := Wp_getI k52_115 f5_181 (by decide) (by decide)
theorem k52_118 : mCode 52 118 = some (.invokestatic 184, 3) := by decide +kernel
theorem x52_118 {E : ME} {ls : MLs} {st : List MV} {g : MG} {μ : MU} {Q : Option MV → MG → MU → Prop} {a0 : Nat ⊕ Nat} {a1 : Int} : Wp E 52 118 ls (.inl a1 :: .inr (.inr a0) :: st) g μ Q = (st.length ≤ 4 ∧ Wp E 59 0 [some (.inr (.inr a0)), some (.inl a1), none, none] [] g μ (fun r g' μ' => (g'.1 = g.1 ∧ g'.2.1 = g.2.1) ∧ Wp E 52 121 ls (mPush r st) g' μ' Q)) := Wp_cS k52_118 m5_184 (by decide) (as := [.inr (.inr a0), .inl a1]) rfl rfl rfl ⟨Nat.le_of_ble_eq_true rfl, by decide⟩
theorem k52_121 : mCode 52 121 = some (.ireturn, 1) := by decide +kernel
theorem x52_121 {E : ME} {ls : MLs} {g : MG} {μ : MU} {Q : Option MV → MG → MU → Prop} {v : Int} : Wp E 52 121 ls [.inl v] g μ Q = Q (some (.inl v)) g μ := Wp_retI k52_121 (by decide)
theorem k52_122 : mCode 52 122 = some (.aload_n 0, 1) := by decide +kernel
theorem x52_122 {E : ME} {ls : MLs} {st : List MV} {g : MG} {μ : MU} {Q : Option MV → MG → MU → Prop} {v : Nat ⊕ Nat} : Wp E 52 122 (some (.inr (.inr v)) :: ls) st g μ Q = Wp E 52 123 (some (.inr (.inr v)) :: ls) (.inr (.inr v) :: st) g μ Q := Wp_nx k52_122 rfl
theorem k52_123 : mCode 52 123 = some (.getfield 19, 3) := by decide +kernel
theorem x52_123 {E : ME} {ls : MLs} {st : List MV} {g : MG} {μ : MU} {Q : Option MV → MG → MU → Prop} {a : Nat} : Wp E 52 123 ls (.inr (.inr (.inl a)) :: st) g μ Q = ((mKd g a).1 = 5 ∧ Wp E 52 126 ls (mRv (mRf g a 1) :: st) g μ Q) := Wp_getR k52_123 f5_19 (by decide) (by decide)
theorem k52_126 : mCode 52 126 = some (.aload_n 0, 1) := by decide +kernel
theorem x52_126 {E : ME} {ls : MLs} {st : List MV} {g : MG} {μ : MU} {Q : Option MV → MG → MU → Prop} {v : Nat ⊕ Nat} : Wp E 52 126 (some (.inr (.inr v)) :: ls) st g μ Q = Wp E 52 127 (some (.inr (.inr v)) :: ls) (.inr (.inr v) :: st) g μ Q := Wp_nx k52_126 rfl
theorem k52_127 : mCode 52 127 = some (.getfield 10, 3) := by decide +kernel
theorem x52_127 {E : ME} {ls : MLs} {st : List MV} {g : MG} {μ : MU} {Q : Option MV → MG → MU → Prop} {a : Nat} : Wp E 52 127 ls (.inr (.inr (.inl a)) :: st) g μ Q = ((mKd g a).1 = 5 ∧ Wp E 52 130 ls (mRv (mRf g a 0) :: st) g μ Q) := Wp_getR k52_127 f5_10 (by decide) (by decide)
theorem k52_130 : mCode 52 130 = some (.invokevirtual 187, 3) := by decide +kernel
theorem x52_130 {E : ME} {ls : MLs} {st : List MV} {g : MG} {μ : MU} {Q : Option MV → MG → MU → Prop} {r : Nat} {a0 : Nat ⊕ Nat} : Wp E 52 130 ls (.inr (.inr a0) :: .inr (.inr (.inl r)) :: st) g μ Q = ((st.length ≤ 4 ∧ ((mKd g r).1 == 3) = true) ∧ Wp E 32 0 [some (.inr (.inr (.inl r))), some (.inr (.inr a0)), none, none] [] g μ (fun r g' μ' => (g'.1 = g.1 ∧ g'.2.1 = g.2.1) ∧ Wp E 52 133 ls (mPush r st) g' μ' Q)) := Wp_cV k52_130 m5_187 (by decide) (as := [.inr (.inr (.inl r)), .inr (.inr a0)]) rfl rfl rfl ⟨Nat.le_of_ble_eq_true rfl, by decide⟩
theorem k52_133 : mCode 52 133 = some (.ireturn, 1) := by decide +kernel
theorem x52_133 {E : ME} {ls : MLs} {g : MG} {μ : MU} {Q : Option MV → MG → MU → Prop} {v : Int} : Wp E 52 133 ls [.inl v] g μ Q = Q (some (.inl v)) g μ := Wp_retI k52_133 (by decide)
theorem k52_134 : mCode 52 134 = some (.aload_n 0, 1) := by decide +kernel
theorem x52_134 {E : ME} {ls : MLs} {st : List MV} {g : MG} {μ : MU} {Q : Option MV → MG → MU → Prop} {v : Nat ⊕ Nat} : Wp E 52 134 (some (.inr (.inr v)) :: ls) st g μ Q = Wp E 52 135 (some (.inr (.inr v)) :: ls) (.inr (.inr v) :: st) g μ Q := Wp_nx k52_134 rfl
theorem k52_135 : mCode 52 135 = some (.getfield 19, 3) := by decide +kernel
theorem x52_135 {E : ME} {ls : MLs} {st : List MV} {g : MG} {μ : MU} {Q : Option MV → MG → MU → Prop} {a : Nat} : Wp E 52 135 ls (.inr (.inr (.inl a)) :: st) g μ Q = ((mKd g a).1 = 5 ∧ Wp E 52 138 ls (mRv (mRf g a 1) :: st) g μ Q) := Wp_getR k52_135 f5_19 (by decide) (by decide)
theorem k52_138 : mCode 52 138 = some (.getfield 120, 3) := by decide +kernel
theorem x52_138 {E : ME} {ls : MLs} {st : List MV} {g : MG} {μ : MU} {Q : Option MV → MG → MU → Prop} {a : Nat} : Wp E 52 138 ls (.inr (.inr (.inl a)) :: st) g μ Q = ((mKd g a).1 = 3 ∧ Wp E 52 141 ls (mRv (mRf g a 9) :: st) g μ Q) := Wp_getR k52_138 f5_120 (by decide) (by decide)
theorem k52_141 : mCode 52 141 = some (.aload_n 0, 1) := by decide +kernel
theorem x52_141 {E : ME} {ls : MLs} {st : List MV} {g : MG} {μ : MU} {Q : Option MV → MG → MU → Prop} {v : Nat ⊕ Nat} : Wp E 52 141 (some (.inr (.inr v)) :: ls) st g μ Q = Wp E 52 142 (some (.inr (.inr v)) :: ls) (.inr (.inr v) :: st) g μ Q := Wp_nx k52_141 rfl
theorem k52_142 : mCode 52 142 = some (.getfield 10, 3) := by decide +kernel
theorem x52_142 {E : ME} {ls : MLs} {st : List MV} {g : MG} {μ : MU} {Q : Option MV → MG → MU → Prop} {a : Nat} : Wp E 52 142 ls (.inr (.inr (.inl a)) :: st) g μ Q = ((mKd g a).1 = 5 ∧ Wp E 52 145 ls (mRv (mRf g a 0) :: st) g μ Q) := Wp_getR k52_142 f5_10 (by decide) (by decide)
theorem k52_145 : mCode 52 145 = some (.getfield 177, 3) := by decide +kernel
theorem x52_145 {E : ME} {ls : MLs} {st : List MV} {g : MG} {μ : MU} {Q : Option MV → MG → MU → Prop} {a : Nat} : Wp E 52 145 ls (.inr (.inr (.inl a)) :: st) g μ Q = ((mKd g a).1 = 0 ∧ Wp E 52 148 ls (.inl (μ a 2) :: st) g μ Q) := Wp_getI k52_145 f5_177 (by decide) (by decide)
theorem k52_148 : mCode 52 148 = some (.invokestatic 184, 3) := by decide +kernel
theorem x52_148 {E : ME} {ls : MLs} {st : List MV} {g : MG} {μ : MU} {Q : Option MV → MG → MU → Prop} {a0 : Nat ⊕ Nat} {a1 : Int} : Wp E 52 148 ls (.inl a1 :: .inr (.inr a0) :: st) g μ Q = (st.length ≤ 4 ∧ Wp E 59 0 [some (.inr (.inr a0)), some (.inl a1), none, none] [] g μ (fun r g' μ' => (g'.1 = g.1 ∧ g'.2.1 = g.2.1) ∧ Wp E 52 151 ls (mPush r st) g' μ' Q)) := Wp_cS k52_148 m5_184 (by decide) (as := [.inr (.inr a0), .inl a1]) rfl rfl rfl ⟨Nat.le_of_ble_eq_true rfl, by decide⟩
theorem k52_151 : mCode 52 151 = some (.ireturn, 1) := by decide +kernel
theorem x52_151 {E : ME} {ls : MLs} {g : MG} {μ : MU} {Q : Option MV → MG → MU → Prop} {v : Int} : Wp E 52 151 ls [.inl v] g μ Q = Q (some (.inl v)) g μ := Wp_retI k52_151 (by decide)
theorem k52_152 : mCode 52 152 = some (.aload_n 0, 1) := by decide +kernel
theorem x52_152 {E : ME} {ls : MLs} {st : List MV} {g : MG} {μ : MU} {Q : Option MV → MG → MU → Prop} {v : Nat ⊕ Nat} : Wp E 52 152 (some (.inr (.inr v)) :: ls) st g μ Q = Wp E 52 153 (some (.inr (.inr v)) :: ls) (.inr (.inr v) :: st) g μ Q := Wp_nx k52_152 rfl
theorem k52_153 : mCode 52 153 = some (.getfield 19, 3) := by decide +kernel
theorem x52_153 {E : ME} {ls : MLs} {st : List MV} {g : MG} {μ : MU} {Q : Option MV → MG → MU → Prop} {a : Nat} : Wp E 52 153 ls (.inr (.inr (.inl a)) :: st) g μ Q = ((mKd g a).1 = 5 ∧ Wp E 52 156 ls (mRv (mRf g a 1) :: st) g μ Q) := Wp_getR k52_153 f5_19 (by decide) (by decide)
theorem k52_156 : mCode 52 156 = some (.getfield 157, 3) := by decide +kernel
theorem x52_156 {E : ME} {ls : MLs} {st : List MV} {g : MG} {μ : MU} {Q : Option MV → MG → MU → Prop} {a : Nat} : Wp E 52 156 ls (.inr (.inr (.inl a)) :: st) g μ Q = ((mKd g a).1 = 3 ∧ Wp E 52 159 ls (mRv (mRf g a 7) :: st) g μ Q) := Wp_getR k52_156 f5_157 (by decide) (by decide)
theorem k52_159 : mCode 52 159 = some (.aload_n 0, 1) := by decide +kernel
theorem x52_159 {E : ME} {ls : MLs} {st : List MV} {g : MG} {μ : MU} {Q : Option MV → MG → MU → Prop} {v : Nat ⊕ Nat} : Wp E 52 159 (some (.inr (.inr v)) :: ls) st g μ Q = Wp E 52 160 (some (.inr (.inr v)) :: ls) (.inr (.inr v) :: st) g μ Q := Wp_nx k52_159 rfl
theorem k52_160 : mCode 52 160 = some (.getfield 10, 3) := by decide +kernel
theorem x52_160 {E : ME} {ls : MLs} {st : List MV} {g : MG} {μ : MU} {Q : Option MV → MG → MU → Prop} {a : Nat} : Wp E 52 160 ls (.inr (.inr (.inl a)) :: st) g μ Q = ((mKd g a).1 = 5 ∧ Wp E 52 163 ls (mRv (mRf g a 0) :: st) g μ Q) := Wp_getR k52_160 f5_10 (by decide) (by decide)
theorem k52_163 : mCode 52 163 = some (.getfield 181, 3) := by decide +kernel
theorem x52_163 {E : ME} {ls : MLs} {st : List MV} {g : MG} {μ : MU} {Q : Option MV → MG → MU → Prop} {a : Nat} : Wp E 52 163 ls (.inr (.inr (.inl a)) :: st) g μ Q = ((mKd g a).1 = 0 ∧ Wp E 52 166 ls (.inl (μ a 7) :: st) g μ Q) := Wp_getI k52_163 f5_181 (by decide) (by decide)
theorem k52_166 : mCode 52 166 = some (.invokestatic 184, 3) := by decide +kernel
theorem x52_166 {E : ME} {ls : MLs} {st : List MV} {g : MG} {μ : MU} {Q : Option MV → MG → MU → Prop} {a0 : Nat ⊕ Nat} {a1 : Int} : Wp E 52 166 ls (.inl a1 :: .inr (.inr a0) :: st) g μ Q = (st.length ≤ 4 ∧ Wp E 59 0 [some (.inr (.inr a0)), some (.inl a1), none, none] [] g μ (fun r g' μ' => (g'.1 = g.1 ∧ g'.2.1 = g.2.1) ∧ Wp E 52 169 ls (mPush r st) g' μ' Q)) := Wp_cS k52_166 m5_184 (by decide) (as := [.inr (.inr a0), .inl a1]) rfl rfl rfl ⟨Nat.le_of_ble_eq_true rfl, by decide⟩
theorem k52_169 : mCode 52 169 = some (.ireturn, 1) := by decide +kernel
theorem x52_169 {E : ME} {ls : MLs} {g : MG} {μ : MU} {Q : Option MV → MG → MU → Prop} {v : Int} : Wp E 52 169 ls [.inl v] g μ Q = Q (some (.inl v)) g μ := Wp_retI k52_169 (by decide)
theorem k52_170 : mCode 52 170 = some (.aload_n 0, 1) := by decide +kernel
theorem x52_170 {E : ME} {ls : MLs} {st : List MV} {g : MG} {μ : MU} {Q : Option MV → MG → MU → Prop} {v : Nat ⊕ Nat} : Wp E 52 170 (some (.inr (.inr v)) :: ls) st g μ Q = Wp E 52 171 (some (.inr (.inr v)) :: ls) (.inr (.inr v) :: st) g μ Q := Wp_nx k52_170 rfl
theorem k52_171 : mCode 52 171 = some (.getfield 19, 3) := by decide +kernel
theorem x52_171 {E : ME} {ls : MLs} {st : List MV} {g : MG} {μ : MU} {Q : Option MV → MG → MU → Prop} {a : Nat} : Wp E 52 171 ls (.inr (.inr (.inl a)) :: st) g μ Q = ((mKd g a).1 = 5 ∧ Wp E 52 174 ls (mRv (mRf g a 1) :: st) g μ Q) := Wp_getR k52_171 f5_19 (by decide) (by decide)
theorem k52_174 : mCode 52 174 = some (.getfield 123, 3) := by decide +kernel
theorem x52_174 {E : ME} {ls : MLs} {st : List MV} {g : MG} {μ : MU} {Q : Option MV → MG → MU → Prop} {a : Nat} : Wp E 52 174 ls (.inr (.inr (.inl a)) :: st) g μ Q = ((mKd g a).1 = 3 ∧ Wp E 52 177 ls (mRv (mRf g a 8) :: st) g μ Q) := Wp_getR k52_174 f5_123 (by decide) (by decide)
theorem k52_177 : mCode 52 177 = some (.aload_n 0, 1) := by decide +kernel
theorem x52_177 {E : ME} {ls : MLs} {st : List MV} {g : MG} {μ : MU} {Q : Option MV → MG → MU → Prop} {v : Nat ⊕ Nat} : Wp E 52 177 (some (.inr (.inr v)) :: ls) st g μ Q = Wp E 52 178 (some (.inr (.inr v)) :: ls) (.inr (.inr v) :: st) g μ Q := Wp_nx k52_177 rfl
theorem k52_178 : mCode 52 178 = some (.getfield 10, 3) := by decide +kernel
theorem x52_178 {E : ME} {ls : MLs} {st : List MV} {g : MG} {μ : MU} {Q : Option MV → MG → MU → Prop} {a : Nat} : Wp E 52 178 ls (.inr (.inr (.inl a)) :: st) g μ Q = ((mKd g a).1 = 5 ∧ Wp E 52 181 ls (mRv (mRf g a 0) :: st) g μ Q) := Wp_getR k52_178 f5_10 (by decide) (by decide)
theorem k52_181 : mCode 52 181 = some (.getfield 181, 3) := by decide +kernel
theorem x52_181 {E : ME} {ls : MLs} {st : List MV} {g : MG} {μ : MU} {Q : Option MV → MG → MU → Prop} {a : Nat} : Wp E 52 181 ls (.inr (.inr (.inl a)) :: st) g μ Q = ((mKd g a).1 = 0 ∧ Wp E 52 184 ls (.inl (μ a 7) :: st) g μ Q) := Wp_getI k52_181 f5_181 (by decide) (by decide)
theorem k52_184 : mCode 52 184 = some (.invokestatic 184, 3) := by decide +kernel
theorem x52_184 {E : ME} {ls : MLs} {st : List MV} {g : MG} {μ : MU} {Q : Option MV → MG → MU → Prop} {a0 : Nat ⊕ Nat} {a1 : Int} : Wp E 52 184 ls (.inl a1 :: .inr (.inr a0) :: st) g μ Q = (st.length ≤ 4 ∧ Wp E 59 0 [some (.inr (.inr a0)), some (.inl a1), none, none] [] g μ (fun r g' μ' => (g'.1 = g.1 ∧ g'.2.1 = g.2.1) ∧ Wp E 52 187 ls (mPush r st) g' μ' Q)) := Wp_cS k52_184 m5_184 (by decide) (as := [.inr (.inr a0), .inl a1]) rfl rfl rfl ⟨Nat.le_of_ble_eq_true rfl, by decide⟩
theorem k52_187 : mCode 52 187 = some (.ireturn, 1) := by decide +kernel
theorem x52_187 {E : ME} {ls : MLs} {g : MG} {μ : MU} {Q : Option MV → MG → MU → Prop} {v : Int} : Wp E 52 187 ls [.inl v] g μ Q = Q (some (.inl v)) g μ := Wp_retI k52_187 (by decide)
theorem k52_188 : mCode 52 188 = some (.aload_n 0, 1) := by decide +kernel
theorem x52_188 {E : ME} {ls : MLs} {st : List MV} {g : MG} {μ : MU} {Q : Option MV → MG → MU → Prop} {v : Nat ⊕ Nat} : Wp E 52 188 (some (.inr (.inr v)) :: ls) st g μ Q = Wp E 52 189 (some (.inr (.inr v)) :: ls) (.inr (.inr v) :: st) g μ Q := Wp_nx k52_188 rfl
theorem k52_189 : mCode 52 189 = some (.getfield 19, 3) := by decide +kernel
theorem x52_189 {E : ME} {ls : MLs} {st : List MV} {g : MG} {μ : MU} {Q : Option MV → MG → MU → Prop} {a : Nat} : Wp E 52 189 ls (.inr (.inr (.inl a)) :: st) g μ Q = ((mKd g a).1 = 5 ∧ Wp E 52 192 ls (mRv (mRf g a 1) :: st) g μ Q) := Wp_getR k52_189 f5_19 (by decide) (by decide)
theorem k52_192 : mCode 52 192 = some (.aload_n 0, 1) := by decide +kernel
theorem x52_192 {E : ME} {ls : MLs} {st : List MV} {g : MG} {μ : MU} {Q : Option MV → MG → MU → Prop} {v : Nat ⊕ Nat} : Wp E 52 192 (some (.inr (.inr v)) :: ls) st g μ Q = Wp E 52 193 (some (.inr (.inr v)) :: ls) (.inr (.inr v) :: st) g μ Q := Wp_nx k52_192 rfl
theorem k52_193 : mCode 52 193 = some (.getfield 10, 3) := by decide +kernel
theorem x52_193 {E : ME} {ls : MLs} {st : List MV} {g : MG} {μ : MU} {Q : Option MV → MG → MU → Prop} {a : Nat} : Wp E 52 193 ls (.inr (.inr (.inl a)) :: st) g μ Q = ((mKd g a).1 = 5 ∧ Wp E 52 196 ls (mRv (mRf g a 0) :: st) g μ Q) := Wp_getR k52_193 f5_10 (by decide) (by decide)
theorem k52_196 : mCode 52 196 = some (.invokevirtual 191, 3) := by decide +kernel
theorem x52_196 {E : ME} {ls : MLs} {st : List MV} {g : MG} {μ : MU} {Q : Option MV → MG → MU → Prop} {r : Nat} {a0 : Nat ⊕ Nat} : Wp E 52 196 ls (.inr (.inr a0) :: .inr (.inr (.inl r)) :: st) g μ Q = ((st.length ≤ 4 ∧ ((mKd g r).1 == 3) = true) ∧ Wp E 33 0 [some (.inr (.inr (.inl r))), some (.inr (.inr a0)), none, none] [] g μ (fun r g' μ' => (g'.1 = g.1 ∧ g'.2.1 = g.2.1) ∧ Wp E 52 199 ls (mPush r st) g' μ' Q)) := Wp_cV k52_196 m5_191 (by decide) (as := [.inr (.inr (.inl r)), .inr (.inr a0)]) rfl rfl rfl ⟨Nat.le_of_ble_eq_true rfl, by decide⟩
theorem k52_199 : mCode 52 199 = some (.ireturn, 1) := by decide +kernel
theorem x52_199 {E : ME} {ls : MLs} {g : MG} {μ : MU} {Q : Option MV → MG → MU → Prop} {v : Int} : Wp E 52 199 ls [.inl v] g μ Q = Q (some (.inl v)) g μ := Wp_retI k52_199 (by decide)
theorem k52_200 : mCode 52 200 = some (.aload_n 0, 1) := by decide +kernel
theorem x52_200 {E : ME} {ls : MLs} {st : List MV} {g : MG} {μ : MU} {Q : Option MV → MG → MU → Prop} {v : Nat ⊕ Nat} : Wp E 52 200 (some (.inr (.inr v)) :: ls) st g μ Q = Wp E 52 201 (some (.inr (.inr v)) :: ls) (.inr (.inr v) :: st) g μ Q := Wp_nx k52_200 rfl
theorem k52_201 : mCode 52 201 = some (.getfield 10, 3) := by decide +kernel
theorem x52_201 {E : ME} {ls : MLs} {st : List MV} {g : MG} {μ : MU} {Q : Option MV → MG → MU → Prop} {a : Nat} : Wp E 52 201 ls (.inr (.inr (.inl a)) :: st) g μ Q = ((mKd g a).1 = 5 ∧ Wp E 52 204 ls (mRv (mRf g a 0) :: st) g μ Q) := Wp_getR k52_201 f5_10 (by decide) (by decide)
theorem k52_204 : mCode 52 204 = some (.getfield 194, 3) := by decide +kernel
theorem x52_204 {E : ME} {ls : MLs} {st : List MV} {g : MG} {μ : MU} {Q : Option MV → MG → MU → Prop} {a : Nat} : Wp E 52 204 ls (.inr (.inr (.inl a)) :: st) g μ Q = ((mKd g a).1 = 0 ∧ Wp E 52 207 ls (mRv (mRf g a 0) :: st) g μ Q) := Wp_getR k52_204 f5_194 (by decide) (by decide)
theorem k52_207 : mCode 52 207 = some (.iconst 0, 1) := by decide +kernel
theorem x52_207 {E : ME} {ls : MLs} {st : List MV} {g : MG} {μ : MU} {Q : Option MV → MG → MU → Prop} : Wp E 52 207 ls st g μ Q = Wp E 52 208 ls (.inl 0 :: st) g μ Q := Wp_nx k52_207 rfl
theorem k52_208 : mCode 52 208 = some (.iaload, 1) := by decide +kernel
theorem x52_208 {E : ME} {ls : MLs} {st : List MV} {g : MG} {μ : MU} {Q : Option MV → MG → MU → Prop} {a : Nat} {j : Int} : Wp E 52 208 ls (.inl j :: .inr (.inr (.inl a)) :: st) g μ Q = (((mKd g a).1 = 10 ∧ 0 ≤ j ∧ j < (mKd g a).2) ∧ Wp E 52 209 ls (.inl (μ a j.toNat) :: st) g μ Q) := Wp_ald k52_208 (fun _ => rfl)
theorem k52_209 : mCode 52 209 = some (.ireturn, 1) := by decide +kernel
theorem x52_209 {E : ME} {ls : MLs} {g : MG} {μ : MU} {Q : Option MV → MG → MU → Prop} {v : Int} : Wp E 52 209 ls [.inl v] g μ Q = Q (some (.inl v)) g μ := Wp_retI k52_209 (by decide)
theorem k52_210 : mCode 52 210 = some (.aload_n 0, 1) := by decide +kernel
theorem x52_210 {E : ME} {ls : MLs} {st : List MV} {g : MG} {μ : MU} {Q : Option MV → MG → MU → Prop} {v : Nat ⊕ Nat} : Wp E 52 210 (some (.inr (.inr v)) :: ls) st g μ Q = Wp E 52 211 (some (.inr (.inr v)) :: ls) (.inr (.inr v) :: st) g μ Q := Wp_nx k52_210 rfl
theorem k52_211 : mCode 52 211 = some (.getfield 10, 3) := by decide +kernel
theorem x52_211 {E : ME} {ls : MLs} {st : List MV} {g : MG} {μ : MU} {Q : Option MV → MG → MU → Prop} {a : Nat} : Wp E 52 211 ls (.inr (.inr (.inl a)) :: st) g μ Q = ((mKd g a).1 = 5 ∧ Wp E 52 214 ls (mRv (mRf g a 0) :: st) g μ Q) := Wp_getR k52_211 f5_10 (by decide) (by decide)
theorem k52_214 : mCode 52 214 = some (.getfield 194, 3) := by decide +kernel
theorem x52_214 {E : ME} {ls : MLs} {st : List MV} {g : MG} {μ : MU} {Q : Option MV → MG → MU → Prop} {a : Nat} : Wp E 52 214 ls (.inr (.inr (.inl a)) :: st) g μ Q = ((mKd g a).1 = 0 ∧ Wp E 52 217 ls (mRv (mRf g a 0) :: st) g μ Q) := Wp_getR k52_214 f5_194 (by decide) (by decide)
theorem k52_217 : mCode 52 217 = some (.iconst 1, 1) := by decide +kernel
theorem x52_217 {E : ME} {ls : MLs} {st : List MV} {g : MG} {μ : MU} {Q : Option MV → MG → MU → Prop} : Wp E 52 217 ls st g μ Q = Wp E 52 218 ls (.inl 1 :: st) g μ Q := Wp_nx k52_217 rfl
theorem k52_218 : mCode 52 218 = some (.iaload, 1) := by decide +kernel
theorem x52_218 {E : ME} {ls : MLs} {st : List MV} {g : MG} {μ : MU} {Q : Option MV → MG → MU → Prop} {a : Nat} {j : Int} : Wp E 52 218 ls (.inl j :: .inr (.inr (.inl a)) :: st) g μ Q = (((mKd g a).1 = 10 ∧ 0 ≤ j ∧ j < (mKd g a).2) ∧ Wp E 52 219 ls (.inl (μ a j.toNat) :: st) g μ Q) := Wp_ald k52_218 (fun _ => rfl)
theorem k52_219 : mCode 52 219 = some (.ireturn, 1) := by decide +kernel
theorem x52_219 {E : ME} {ls : MLs} {g : MG} {μ : MU} {Q : Option MV → MG → MU → Prop} {v : Int} : Wp E 52 219 ls [.inl v] g μ Q = Q (some (.inl v)) g μ := Wp_retI k52_219 (by decide)
theorem k52_220 : mCode 52 220 = some (.aload_n 0, 1) := by decide +kernel
theorem x52_220 {E : ME} {ls : MLs} {st : List MV} {g : MG} {μ : MU} {Q : Option MV → MG → MU → Prop} {v : Nat ⊕ Nat} : Wp E 52 220 (some (.inr (.inr v)) :: ls) st g μ Q = Wp E 52 221 (some (.inr (.inr v)) :: ls) (.inr (.inr v) :: st) g μ Q := Wp_nx k52_220 rfl
theorem k52_221 : mCode 52 221 = some (.getfield 10, 3) := by decide +kernel
theorem x52_221 {E : ME} {ls : MLs} {st : List MV} {g : MG} {μ : MU} {Q : Option MV → MG → MU → Prop} {a : Nat} : Wp E 52 221 ls (.inr (.inr (.inl a)) :: st) g μ Q = ((mKd g a).1 = 5 ∧ Wp E 52 224 ls (mRv (mRf g a 0) :: st) g μ Q) := Wp_getR k52_221 f5_10 (by decide) (by decide)
theorem k52_224 : mCode 52 224 = some (.getfield 194, 3) := by decide +kernel
theorem x52_224 {E : ME} {ls : MLs} {st : List MV} {g : MG} {μ : MU} {Q : Option MV → MG → MU → Prop} {a : Nat} : Wp E 52 224 ls (.inr (.inr (.inl a)) :: st) g μ Q = ((mKd g a).1 = 0 ∧ Wp E 52 227 ls (mRv (mRf g a 0) :: st) g μ Q) := Wp_getR k52_224 f5_194 (by decide) (by decide)
theorem k52_227 : mCode 52 227 = some (.iconst 2, 1) := by decide +kernel
theorem x52_227 {E : ME} {ls : MLs} {st : List MV} {g : MG} {μ : MU} {Q : Option MV → MG → MU → Prop} : Wp E 52 227 ls st g μ Q = Wp E 52 228 ls (.inl 2 :: st) g μ Q := Wp_nx k52_227 rfl
theorem k52_228 : mCode 52 228 = some (.iaload, 1) := by decide +kernel
theorem x52_228 {E : ME} {ls : MLs} {st : List MV} {g : MG} {μ : MU} {Q : Option MV → MG → MU → Prop} {a : Nat} {j : Int} : Wp E 52 228 ls (.inl j :: .inr (.inr (.inl a)) :: st) g μ Q = (((mKd g a).1 = 10 ∧ 0 ≤ j ∧ j < (mKd g a).2) ∧ Wp E 52 229 ls (.inl (μ a j.toNat) :: st) g μ Q) := Wp_ald k52_228 (fun _ => rfl)
theorem k52_229 : mCode 52 229 = some (.ireturn, 1) := by decide +kernel
theorem x52_229 {E : ME} {ls : MLs} {g : MG} {μ : MU} {Q : Option MV → MG → MU → Prop} {v : Int} : Wp E 52 229 ls [.inl v] g μ Q = Q (some (.inl v)) g μ := Wp_retI k52_229 (by decide)
theorem k52_230 : mCode 52 230 = some (.aload_n 0, 1) := by decide +kernel
theorem x52_230 {E : ME} {ls : MLs} {st : List MV} {g : MG} {μ : MU} {Q : Option MV → MG → MU → Prop} {v : Nat ⊕ Nat} : Wp E 52 230 (some (.inr (.inr v)) :: ls) st g μ Q = Wp E 52 231 (some (.inr (.inr v)) :: ls) (.inr (.inr v) :: st) g μ Q := Wp_nx k52_230 rfl
theorem k52_231 : mCode 52 231 = some (.getfield 10, 3) := by decide +kernel
theorem x52_231 {E : ME} {ls : MLs} {st : List MV} {g : MG} {μ : MU} {Q : Option MV → MG → MU → Prop} {a : Nat} : Wp E 52 231 ls (.inr (.inr (.inl a)) :: st) g μ Q = ((mKd g a).1 = 5 ∧ Wp E 52 234 ls (mRv (mRf g a 0) :: st) g μ Q) := Wp_getR k52_231 f5_10 (by decide) (by decide)
theorem k52_234 : mCode 52 234 = some (.getfield 194, 3) := by decide +kernel
theorem x52_234 {E : ME} {ls : MLs} {st : List MV} {g : MG} {μ : MU} {Q : Option MV → MG → MU → Prop} {a : Nat} : Wp E 52 234 ls (.inr (.inr (.inl a)) :: st) g μ Q = ((mKd g a).1 = 0 ∧ Wp E 52 237 ls (mRv (mRf g a 0) :: st) g μ Q) := Wp_getR k52_234 f5_194 (by decide) (by decide)
theorem k52_237 : mCode 52 237 = some (.iconst 3, 1) := by decide +kernel
theorem x52_237 {E : ME} {ls : MLs} {st : List MV} {g : MG} {μ : MU} {Q : Option MV → MG → MU → Prop} : Wp E 52 237 ls st g μ Q = Wp E 52 238 ls (.inl 3 :: st) g μ Q := Wp_nx k52_237 rfl
theorem k52_238 : mCode 52 238 = some (.iaload, 1) := by decide +kernel
theorem x52_238 {E : ME} {ls : MLs} {st : List MV} {g : MG} {μ : MU} {Q : Option MV → MG → MU → Prop} {a : Nat} {j : Int} : Wp E 52 238 ls (.inl j :: .inr (.inr (.inl a)) :: st) g μ Q = (((mKd g a).1 = 10 ∧ 0 ≤ j ∧ j < (mKd g a).2) ∧ Wp E 52 239 ls (.inl (μ a j.toNat) :: st) g μ Q) := Wp_ald k52_238 (fun _ => rfl)
theorem k52_239 : mCode 52 239 = some (.ireturn, 1) := by decide +kernel
theorem x52_239 {E : ME} {ls : MLs} {g : MG} {μ : MU} {Q : Option MV → MG → MU → Prop} {v : Int} : Wp E 52 239 ls [.inl v] g μ Q = Q (some (.inl v)) g μ := Wp_retI k52_239 (by decide)
theorem k52_240 : mCode 52 240 = some (.aload_n 0, 1) := by decide +kernel
theorem x52_240 {E : ME} {ls : MLs} {st : List MV} {g : MG} {μ : MU} {Q : Option MV → MG → MU → Prop} {v : Nat ⊕ Nat} : Wp E 52 240 (some (.inr (.inr v)) :: ls) st g μ Q = Wp E 52 241 (some (.inr (.inr v)) :: ls) (.inr (.inr v) :: st) g μ Q := Wp_nx k52_240 rfl
theorem k52_241 : mCode 52 241 = some (.getfield 10, 3) := by decide +kernel
theorem x52_241 {E : ME} {ls : MLs} {st : List MV} {g : MG} {μ : MU} {Q : Option MV → MG → MU → Prop} {a : Nat} : Wp E 52 241 ls (.inr (.inr (.inl a)) :: st) g μ Q = ((mKd g a).1 = 5 ∧ Wp E 52 244 ls (mRv (mRf g a 0) :: st) g μ Q) := Wp_getR k52_241 f5_10 (by decide) (by decide)
theorem k52_244 : mCode 52 244 = some (.getfield 194, 3) := by decide +kernel
theorem x52_244 {E : ME} {ls : MLs} {st : List MV} {g : MG} {μ : MU} {Q : Option MV → MG → MU → Prop} {a : Nat} : Wp E 52 244 ls (.inr (.inr (.inl a)) :: st) g μ Q = ((mKd g a).1 = 0 ∧ Wp E 52 247 ls (mRv (mRf g a 0) :: st) g μ Q) := Wp_getR k52_244 f5_194 (by decide) (by decide)
theorem k52_247 : mCode 52 247 = some (.iconst 4, 1) := by decide +kernel
theorem x52_247 {E : ME} {ls : MLs} {st : List MV} {g : MG} {μ : MU} {Q : Option MV → MG → MU → Prop} : Wp E 52 247 ls st g μ Q = Wp E 52 248 ls (.inl 4 :: st) g μ Q := Wp_nx k52_247 rfl
theorem k52_248 : mCode 52 248 = some (.iaload, 1) := by decide +kernel
theorem x52_248 {E : ME} {ls : MLs} {st : List MV} {g : MG} {μ : MU} {Q : Option MV → MG → MU → Prop} {a : Nat} {j : Int} : Wp E 52 248 ls (.inl j :: .inr (.inr (.inl a)) :: st) g μ Q = (((mKd g a).1 = 10 ∧ 0 ≤ j ∧ j < (mKd g a).2) ∧ Wp E 52 249 ls (.inl (μ a j.toNat) :: st) g μ Q) := Wp_ald k52_248 (fun _ => rfl)
theorem k52_249 : mCode 52 249 = some (.ireturn, 1) := by decide +kernel
theorem x52_249 {E : ME} {ls : MLs} {g : MG} {μ : MU} {Q : Option MV → MG → MU → Prop} {v : Int} : Wp E 52 249 ls [.inl v] g μ Q = Q (some (.inl v)) g μ := Wp_retI k52_249 (by decide)
theorem k52_250 : mCode 52 250 = some (.aload_n 0, 1) := by decide +kernel
theorem x52_250 {E : ME} {ls : MLs} {st : List MV} {g : MG} {μ : MU} {Q : Option MV → MG → MU → Prop} {v : Nat ⊕ Nat} : Wp E 52 250 (some (.inr (.inr v)) :: ls) st g μ Q = Wp E 52 251 (some (.inr (.inr v)) :: ls) (.inr (.inr v) :: st) g μ Q := Wp_nx k52_250 rfl
theorem k52_251 : mCode 52 251 = some (.getfield 33, 3) := by decide +kernel
theorem x52_251 {E : ME} {ls : MLs} {st : List MV} {g : MG} {μ : MU} {Q : Option MV → MG → MU → Prop} {a : Nat} : Wp E 52 251 ls (.inr (.inr (.inl a)) :: st) g μ Q = ((mKd g a).1 = 5 ∧ Wp E 52 254 ls (mRv (mRf g a 3) :: st) g μ Q) := Wp_getR k52_251 f5_33 (by decide) (by decide)
theorem k52_254 : mCode 52 254 = some (.getfield 197, 3) := by decide +kernel
theorem x52_254 {E : ME} {ls : MLs} {st : List MV} {g : MG} {μ : MU} {Q : Option MV → MG → MU → Prop} {a : Nat} : Wp E 52 254 ls (.inr (.inr (.inl a)) :: st) g μ Q = ((mKd g a).1 = 2 ∧ Wp E 52 257 ls (.inl (μ a 2) :: st) g μ Q) := Wp_getI k52_254 f5_197 (by decide) (by decide)
theorem k52_257 : mCode 52 257 = some (.ireturn, 1) := by decide +kernel
theorem x52_257 {E : ME} {ls : MLs} {g : MG} {μ : MU} {Q : Option MV → MG → MU → Prop} {v : Int} : Wp E 52 257 ls [.inl v] g μ Q = Q (some (.inl v)) g μ := Wp_retI k52_257 (by decide)
theorem k52_258 : mCode 52 258 = some (.aload_n 0, 1) := by decide +kernel
theorem x52_258 {E : ME} {ls : MLs} {st : List MV} {g : MG} {μ : MU} {Q : Option MV → MG → MU → Prop} {v : Nat ⊕ Nat} : Wp E 52 258 (some (.inr (.inr v)) :: ls) st g μ Q = Wp E 52 259 (some (.inr (.inr v)) :: ls) (.inr (.inr v) :: st) g μ Q := Wp_nx k52_258 rfl
theorem k52_259 : mCode 52 259 = some (.getfield 26, 3) := by decide +kernel
theorem x52_259 {E : ME} {ls : MLs} {st : List MV} {g : MG} {μ : MU} {Q : Option MV → MG → MU → Prop} {a : Nat} : Wp E 52 259 ls (.inr (.inr (.inl a)) :: st) g μ Q = ((mKd g a).1 = 5 ∧ Wp E 52 262 ls (mRv (mRf g a 2) :: st) g μ Q) := Wp_getR k52_259 f5_26 (by decide) (by decide)
theorem k52_262 : mCode 52 262 = some (.getfield 200, 3) := by decide +kernel
theorem x52_262 {E : ME} {ls : MLs} {st : List MV} {g : MG} {μ : MU} {Q : Option MV → MG → MU → Prop} {a : Nat} : Wp E 52 262 ls (.inr (.inr (.inl a)) :: st) g μ Q = ((mKd g a).1 = 1 ∧ Wp E 52 265 ls (.inl (μ a 2) :: st) g μ Q) := Wp_getI k52_262 f5_200 (by decide) (by decide)
theorem k52_265 : mCode 52 265 = some (.ireturn, 1) := by decide +kernel
theorem x52_265 {E : ME} {ls : MLs} {g : MG} {μ : MU} {Q : Option MV → MG → MU → Prop} {v : Int} : Wp E 52 265 ls [.inl v] g μ Q = Q (some (.inl v)) g μ := Wp_retI k52_265 (by decide)
theorem k52_266 : mCode 52 266 = some (.bipush (-2), 2) := by decide +kernel
theorem x52_266 {E : ME} {ls : MLs} {st : List MV} {g : MG} {μ : MU} {Q : Option MV → MG → MU → Prop} : Wp E 52 266 ls st g μ Q = Wp E 52 268 ls (.inl (-2) :: st) g μ Q := Wp_nx k52_266 rfl
theorem k52_268 : mCode 52 268 = some (.ireturn, 1) := by decide +kernel
theorem x52_268 {E : ME} {ls : MLs} {g : MG} {μ : MU} {Q : Option MV → MG → MU → Prop} {v : Int} : Wp E 52 268 ls [.inl v] g μ Q = Q (some (.inl v)) g μ := Wp_retI k52_268 (by decide)
theorem k53_0 : mCode 53 0 = some (.iload_n 1, 1) := by decide +kernel
theorem x53_0 {E : ME} {ls : MLs} {st : List MV} {g : MG} {μ : MU} {Q : Option MV → MG → MU → Prop} {l0 : Option MV} {v : Int} : Wp E 53 0 (l0 :: some (.inl v) :: ls) st g μ Q = Wp E 53 1 (l0 :: some (.inl v) :: ls) (.inl v :: st) g μ Q := Wp_nx k53_0 rfl
theorem k53_1 : mCode 53 1 = some (.invokestatic 203, 3) := by decide +kernel
theorem x53_1 {E : ME} {ls : MLs} {st : List MV} {g : MG} {μ : MU} {Q : Option MV → MG → MU → Prop} {a0 : Int} : Wp E 53 1 ls (.inl a0 :: st) g μ Q = (st.length ≤ 4 ∧ Wp E 75 0 [some (.inl a0)] [] g μ (fun r g' μ' => (g'.1 = g.1 ∧ g'.2.1 = g.2.1) ∧ Wp E 53 4 ls (mPush r st) g' μ' Q)) := Wp_cS k53_1 m5_203 (by decide) (as := [.inl a0]) rfl rfl rfl ⟨Nat.le_of_ble_eq_true rfl, by decide⟩
theorem k53_4 : mCode 53 4 = some (.ifCond .ne 5, 3) := by decide +kernel
theorem x53_4 {E : ME} {ls : MLs} {st : List MV} {g : MG} {μ : MU} {Q : Option MV → MG → MU → Prop} {a : Int} : Wp E 53 4 ls (.inl a :: st) g μ Q = ((¬ a = 0 → Wp E 53 9 ls st g μ Q) ∧ (a = 0 → Wp E 53 7 ls st g μ Q)) := Wp_if_ne k53_4 (by decide)
theorem k53_7 : mCode 53 7 = some (.iconst (-1), 1) := by decide +kernel
theorem x53_7 {E : ME} {ls : MLs} {st : List MV} {g : MG} {μ : MU} {Q : Option MV → MG → MU → Prop} : Wp E 53 7 ls st g μ Q = Wp E 53 8 ls (.inl (-1) :: st) g μ Q := Wp_nx k53_7 rfl
theorem k53_8 : mCode 53 8 = some (.ireturn, 1) := by decide +kernel
theorem x53_8 {E : ME} {ls : MLs} {g : MG} {μ : MU} {Q : Option MV → MG → MU → Prop} {v : Int} : Wp E 53 8 ls [.inl v] g μ Q = Q (some (.inl v)) g μ := Wp_retI k53_8 (by decide)
theorem k53_9 : mCode 53 9 = some (.aload_n 0, 1) := by decide +kernel
theorem x53_9 {E : ME} {ls : MLs} {st : List MV} {g : MG} {μ : MU} {Q : Option MV → MG → MU → Prop} {v : Nat ⊕ Nat} : Wp E 53 9 (some (.inr (.inr v)) :: ls) st g μ Q = Wp E 53 10 (some (.inr (.inr v)) :: ls) (.inr (.inr v) :: st) g μ Q := Wp_nx k53_9 rfl
theorem k53_10 : mCode 53 10 = some (.getfield 19, 3) := by decide +kernel
theorem x53_10 {E : ME} {ls : MLs} {st : List MV} {g : MG} {μ : MU} {Q : Option MV → MG → MU → Prop} {a : Nat} : Wp E 53 10 ls (.inr (.inr (.inl a)) :: st) g μ Q = ((mKd g a).1 = 5 ∧ Wp E 53 13 ls (mRv (mRf g a 1) :: st) g μ Q) := Wp_getR k53_10 f5_19 (by decide) (by decide)
theorem k53_13 : mCode 53 13 = some (.aload_n 0, 1) := by decide +kernel
theorem x53_13 {E : ME} {ls : MLs} {st : List MV} {g : MG} {μ : MU} {Q : Option MV → MG → MU → Prop} {v : Nat ⊕ Nat} : Wp E 53 13 (some (.inr (.inr v)) :: ls) st g μ Q = Wp E 53 14 (some (.inr (.inr v)) :: ls) (.inr (.inr v) :: st) g μ Q := Wp_nx k53_13 rfl
theorem k53_14 : mCode 53 14 = some (.getfield 10, 3) := by decide +kernel
theorem x53_14 {E : ME} {ls : MLs} {st : List MV} {g : MG} {μ : MU} {Q : Option MV → MG → MU → Prop} {a : Nat} : Wp E 53 14 ls (.inr (.inr (.inl a)) :: st) g μ Q = ((mKd g a).1 = 5 ∧ Wp E 53 17 ls (mRv (mRf g a 0) :: st) g μ Q) := Wp_getR k53_14 f5_10 (by decide) (by decide)
theorem k53_17 : mCode 53 17 = some (.invokevirtual 100, 3) := by decide +kernel
theorem x53_17 {E : ME} {ls : MLs} {st : List MV} {g : MG} {μ : MU} {Q : Option MV → MG → MU → Prop} {r : Nat} {a0 : Nat ⊕ Nat} : Wp E 53 17 ls (.inr (.inr a0) :: .inr (.inr (.inl r)) :: st) g μ Q = ((st.length ≤ 4 ∧ ((mKd g r).1 == 3) = true) ∧ Wp E 28 0 [some (.inr (.inr (.inl r))), some (.inr (.inr a0)), none] [] g μ (fun r g' μ' => (g'.1 = g.1 ∧ g'.2.1 = g.2.1) ∧ Wp E 53 20 ls (mPush r st) g' μ' Q)) := Wp_cV k53_17 m5_100 (by decide) (as := [.inr (.inr (.inl r)), .inr (.inr a0)]) rfl rfl rfl ⟨Nat.le_of_ble_eq_true rfl, by decide⟩
theorem k53_20 : mCode 53 20 = some (.iload_n 2, 1) := by decide +kernel
theorem x53_20 {E : ME} {ls : MLs} {st : List MV} {g : MG} {μ : MU} {Q : Option MV → MG → MU → Prop} {l0 l1 : Option MV} {v : Int} : Wp E 53 20 (l0 :: l1 :: some (.inl v) :: ls) st g μ Q = Wp E 53 21 (l0 :: l1 :: some (.inl v) :: ls) (.inl v :: st) g μ Q := Wp_nx k53_20 rfl
theorem k53_21 : mCode 53 21 = some (.tableswitch 104 0 3 #[31, 44, 64, 84], 31) := by decide +kernel
theorem x53_21_0 {E : ME} {ls : MLs} {st : List MV} {g : MG} {μ : MU} {Q : Option MV → MG → MU → Prop} : Wp E 53 21 ls (.inl 0 :: st) g μ Q = Wp E 53 52 ls st g μ Q := Wp_nx k53_21 rfl
theorem x53_21_1 {E : ME} {ls : MLs} {st : List MV} {g : MG} {μ : MU} {Q : Option MV → MG → MU → Prop} : Wp E 53 21 ls (.inl 1 :: st) g μ Q = Wp E 53 65 ls st g μ Q := Wp_nx k53_21 rfl
theorem x53_21_2 {E : ME} {ls : MLs} {st : List MV} {g : MG} {μ : MU} {Q : Option MV → MG → MU → Prop} : Wp E 53 21 ls (.inl 2 :: st) g μ Q = Wp E 53 85 ls st g μ Q := Wp_nx k53_21 rfl
theorem x53_21_3 {E : ME} {ls : MLs} {st : List MV} {g : MG} {μ : MU} {Q : Option MV → MG → MU → Prop} : Wp E 53 21 ls (.inl 3 :: st) g μ Q = Wp E 53 105 ls st g μ Q := Wp_nx k53_21 rfl
theorem x53_21_d {E : ME} {ls : MLs} {st : List MV} {g : MG} {μ : MU} {Q : Option MV → MG → MU → Prop} {a : Int} (h : a < 0 ∨ 3 < a) : Wp E 53 21 ls (.inl a :: st) g μ Q = Wp E 53 125 ls st g μ Q := Wp_tswD k53_21 h (by decide)
theorem k53_52 : mCode 53 52 = some (.aload_n 0, 1) := by decide +kernel
theorem x53_52 {E : ME} {ls : MLs} {st : List MV} {g : MG} {μ : MU} {Q : Option MV → MG → MU → Prop} {v : Nat ⊕ Nat} : Wp E 53 52 (some (.inr (.inr v)) :: ls) st g μ Q = Wp E 53 53 (some (.inr (.inr v)) :: ls) (.inr (.inr v) :: st) g μ Q := Wp_nx k53_52 rfl
theorem k53_53 : mCode 53 53 = some (.aload_n 0, 1) := by decide +kernel
theorem x53_53 {E : ME} {ls : MLs} {st : List MV} {g : MG} {μ : MU} {Q : Option MV → MG → MU → Prop} {v : Nat ⊕ Nat} : Wp E 53 53 (some (.inr (.inr v)) :: ls) st g μ Q = Wp E 53 54 (some (.inr (.inr v)) :: ls) (.inr (.inr v) :: st) g μ Q := Wp_nx k53_53 rfl
theorem k53_54 : mCode 53 54 = some (.getfield 10, 3) := by decide +kernel
theorem x53_54 {E : ME} {ls : MLs} {st : List MV} {g : MG} {μ : MU} {Q : Option MV → MG → MU → Prop} {a : Nat} : Wp E 53 54 ls (.inr (.inr (.inl a)) :: st) g μ Q = ((mKd g a).1 = 5 ∧ Wp E 53 57 ls (mRv (mRf g a 0) :: st) g μ Q) := Wp_getR k53_54 f5_10 (by decide) (by decide)
theorem k53_57 : mCode 53 57 = some (.getfield 133, 3) := by decide +kernel
theorem x53_57 {E : ME} {ls : MLs} {st : List MV} {g : MG} {μ : MU} {Q : Option MV → MG → MU → Prop} {a : Nat} : Wp E 53 57 ls (.inr (.inr (.inl a)) :: st) g μ Q = ((mKd g a).1 = 0 ∧ Wp E 53 60 ls (mRv (mRf g a 9) :: st) g μ Q) := Wp_getR k53_57 f5_133 (by decide) (by decide)
theorem k53_60 : mCode 53 60 = some (.iload_n 1, 1) := by decide +kernel
theorem x53_60 {E : ME} {ls : MLs} {st : List MV} {g : MG} {μ : MU} {Q : Option MV → MG → MU → Prop} {l0 : Option MV} {v : Int} : Wp E 53 60 (l0 :: some (.inl v) :: ls) st g μ Q = Wp E 53 61 (l0 :: some (.inl v) :: ls) (.inl v :: st) g μ Q := Wp_nx k53_60 rfl
theorem k53_61 : mCode 53 61 = some (.invokevirtual 116, 3) := by decide +kernel
theorem x53_61 {E : ME} {ls : MLs} {st : List MV} {g : MG} {μ : MU} {Q : Option MV → MG → MU → Prop} {r : Nat} {a0 : Nat ⊕ Nat} {a1 : Int} : Wp E 53 61 ls (.inl a1 :: .inr (.inr a0) :: .inr (.inr (.inl r)) :: st) g μ Q = ((st.length ≤ 4 ∧ ((mKd g r).1 == 5) = true) ∧ Wp E 57 0 [some (.inr (.inr (.inl r))), some (.inr (.inr a0)), some (.inl a1), none, none] [] g μ (fun r g' μ' => (g'.1 = g.1 ∧ g'.2.1 = g.2.1) ∧ Wp E 53 64 ls (mPush r st) g' μ' Q)) := Wp_cV k53_61 m5_116 (by decide) (as := [.inr (.inr (.inl r)), .inr (.inr a0), .inl a1]) rfl rfl rfl ⟨Nat.le_of_ble_eq_true rfl, by decide⟩
theorem k53_64 : mCode 53 64 = some (.ireturn, 1) := by decide +kernel
theorem x53_64 {E : ME} {ls : MLs} {g : MG} {μ : MU} {Q : Option MV → MG → MU → Prop} {v : Int} : Wp E 53 64 ls [.inl v] g μ Q = Q (some (.inl v)) g μ := Wp_retI k53_64 (by decide)
theorem k53_65 : mCode 53 65 = some (.aload_n 0, 1) := by decide +kernel
theorem x53_65 {E : ME} {ls : MLs} {st : List MV} {g : MG} {μ : MU} {Q : Option MV → MG → MU → Prop} {v : Nat ⊕ Nat} : Wp E 53 65 (some (.inr (.inr v)) :: ls) st g μ Q = Wp E 53 66 (some (.inr (.inr v)) :: ls) (.inr (.inr v) :: st) g μ Q := Wp_nx k53_65 rfl
theorem k53_66 : mCode 53 66 = some (.aload_n 0, 1) := by decide +kernel
theorem x53_66 {E : ME} {ls : MLs} {st : List MV} {g : MG} {μ : MU} {Q : Option MV → MG → MU → Prop} {v : Nat ⊕ Nat} : Wp E 53 66 (some (.inr (.inr v)) :: ls) st g μ Q = Wp E 53 67 (some (.inr (.inr v)) :: ls) (.inr (.inr v) :: st) g μ Q := Wp_nx k53_66 rfl
theorem k53_67 : mCode 53 67 = some (.getfield 19, 3) := by decide +kernel
theorem x53_67 {E : ME} {ls : MLs} {st : List MV} {g : MG} {μ : MU} {Q : Option MV → MG → MU → Prop} {a : Nat} : Wp E 53 67 ls (.inr (.inr (.inl a)) :: st) g μ Q = ((mKd g a).1 = 5 ∧ Wp E 53 70 ls (mRv (mRf g a 1) :: st) g μ Q) := Wp_getR k53_67 f5_19 (by decide) (by decide)
theorem k53_70 : mCode 53 70 = some (.getfield 157, 3) := by decide +kernel
theorem x53_70 {E : ME} {ls : MLs} {st : List MV} {g : MG} {μ : MU} {Q : Option MV → MG → MU → Prop} {a : Nat} : Wp E 53 70 ls (.inr (.inr (.inl a)) :: st) g μ Q = ((mKd g a).1 = 3 ∧ Wp E 53 73 ls (mRv (mRf g a 7) :: st) g μ Q) := Wp_getR k53_70 f5_157 (by decide) (by decide)
theorem k53_73 : mCode 53 73 = some (.aload_n 0, 1) := by decide +kernel
theorem x53_73 {E : ME} {ls : MLs} {st : List MV} {g : MG} {μ : MU} {Q : Option MV → MG → MU → Prop} {v : Nat ⊕ Nat} : Wp E 53 73 (some (.inr (.inr v)) :: ls) st g μ Q = Wp E 53 74 (some (.inr (.inr v)) :: ls) (.inr (.inr v) :: st) g μ Q := Wp_nx k53_73 rfl
theorem k53_74 : mCode 53 74 = some (.getfield 10, 3) := by decide +kernel
theorem x53_74 {E : ME} {ls : MLs} {st : List MV} {g : MG} {μ : MU} {Q : Option MV → MG → MU → Prop} {a : Nat} : Wp E 53 74 ls (.inr (.inr (.inl a)) :: st) g μ Q = ((mKd g a).1 = 5 ∧ Wp E 53 77 ls (mRv (mRf g a 0) :: st) g μ Q) := Wp_getR k53_74 f5_10 (by decide) (by decide)
theorem k53_77 : mCode 53 77 = some (.getfield 133, 3) := by decide +kernel
theorem x53_77 {E : ME} {ls : MLs} {st : List MV} {g : MG} {μ : MU} {Q : Option MV → MG → MU → Prop} {a : Nat} : Wp E 53 77 ls (.inr (.inr (.inl a)) :: st) g μ Q = ((mKd g a).1 = 0 ∧ Wp E 53 80 ls (mRv (mRf g a 9) :: st) g μ Q) := Wp_getR k53_77 f5_133 (by decide) (by decide)
theorem k53_80 : mCode 53 80 = some (.iload_n 1, 1) := by decide +kernel
theorem x53_80 {E : ME} {ls : MLs} {st : List MV} {g : MG} {μ : MU} {Q : Option MV → MG → MU → Prop} {l0 : Option MV} {v : Int} : Wp E 53 80 (l0 :: some (.inl v) :: ls) st g μ Q = Wp E 53 81 (l0 :: some (.inl v) :: ls) (.inl v :: st) g μ Q := Wp_nx k53_80 rfl
theorem k53_81 : mCode 53 81 = some (.invokevirtual 126, 3) := by decide +kernel
theorem x53_81 {E : ME} {ls : MLs} {st : List MV} {g : MG} {μ : MU} {Q : Option MV → MG → MU → Prop} {r : Nat} {a0 : Nat ⊕ Nat} {a1 : Nat ⊕ Nat} {a2 : Int} : Wp E 53 81 ls (.inl a2 :: .inr (.inr a1) :: .inr (.inr a0) :: .inr (.inr (.inl r)) :: st) g μ Q = ((st.length ≤ 4 ∧ ((mKd g r).1 == 5) = true) ∧ Wp E 58 0 [some (.inr (.inr (.inl r))), some (.inr (.inr a0)), some (.inr (.inr a1)), some (.inl a2), none, none] [] g μ (fun r g' μ' => (g'.1 = g.1 ∧ g'.2.1 = g.2.1) ∧ Wp E 53 84 ls (mPush r st) g' μ' Q)) := Wp_cV k53_81 m5_126 (by decide) (as := [.inr (.inr (.inl r)), .inr (.inr a0), .inr (.inr a1), .inl a2]) rfl rfl rfl ⟨Nat.le_of_ble_eq_true rfl, by decide⟩
theorem k53_84 : mCode 53 84 = some (.ireturn, 1) := by decide +kernel
theorem x53_84 {E : ME} {ls : MLs} {g : MG} {μ : MU} {Q : Option MV → MG → MU → Prop} {v : Int} : Wp E 53 84 ls [.inl v] g μ Q = Q (some (.inl v)) g μ := Wp_retI k53_84 (by decide)
theorem k53_85 : mCode 53 85 = some (.aload_n 0, 1) := by decide +kernel
theorem x53_85 {E : ME} {ls : MLs} {st : List MV} {g : MG} {μ : MU} {Q : Option MV → MG → MU → Prop} {v : Nat ⊕ Nat} : Wp E 53 85 (some (.inr (.inr v)) :: ls) st g μ Q = Wp E 53 86 (some (.inr (.inr v)) :: ls) (.inr (.inr v) :: st) g μ Q := Wp_nx k53_85 rfl
theorem k53_86 : mCode 53 86 = some (.aload_n 0, 1) := by decide +kernel
theorem x53_86 {E : ME} {ls : MLs} {st : List MV} {g : MG} {μ : MU} {Q : Option MV → MG → MU → Prop} {v : Nat ⊕ Nat} : Wp E 53 86 (some (.inr (.inr v)) :: ls) st g μ Q = Wp E 53 87 (some (.inr (.inr v)) :: ls) (.inr (.inr v) :: st) g μ Q := Wp_nx k53_86 rfl
theorem k53_87 : mCode 53 87 = some (.getfield 19, 3) := by decide +kernel
theorem x53_87 {E : ME} {ls : MLs} {st : List MV} {g : MG} {μ : MU} {Q : Option MV → MG → MU → Prop} {a : Nat} : Wp E 53 87 ls (.inr (.inr (.inl a)) :: st) g μ Q = ((mKd g a).1 = 5 ∧ Wp E 53 90 ls (mRv (mRf g a 1) :: st) g μ Q) := Wp_getR k53_87 f5_19 (by decide) (by decide)
theorem k53_90 : mCode 53 90 = some (.getfield 123, 3) := by decide +kernel
theorem x53_90 {E : ME} {ls : MLs} {st : List MV} {g : MG} {μ : MU} {Q : Option MV → MG → MU → Prop} {a : Nat} : Wp E 53 90 ls (.inr (.inr (.inl a)) :: st) g μ Q = ((mKd g a).1 = 3 ∧ Wp E 53 93 ls (mRv (mRf g a 8) :: st) g μ Q) := Wp_getR k53_90 f5_123 (by decide) (by decide)
theorem k53_93 : mCode 53 93 = some (.aload_n 0, 1) := by decide +kernel
theorem x53_93 {E : ME} {ls : MLs} {st : List MV} {g : MG} {μ : MU} {Q : Option MV → MG → MU → Prop} {v : Nat ⊕ Nat} : Wp E 53 93 (some (.inr (.inr v)) :: ls) st g μ Q = Wp E 53 94 (some (.inr (.inr v)) :: ls) (.inr (.inr v) :: st) g μ Q := Wp_nx k53_93 rfl
theorem k53_94 : mCode 53 94 = some (.getfield 10, 3) := by decide +kernel
theorem x53_94 {E : ME} {ls : MLs} {st : List MV} {g : MG} {μ : MU} {Q : Option MV → MG → MU → Prop} {a : Nat} : Wp E 53 94 ls (.inr (.inr (.inl a)) :: st) g μ Q = ((mKd g a).1 = 5 ∧ Wp E 53 97 ls (mRv (mRf g a 0) :: st) g μ Q) := Wp_getR k53_94 f5_10 (by decide) (by decide)
theorem k53_97 : mCode 53 97 = some (.getfield 133, 3) := by decide +kernel
theorem x53_97 {E : ME} {ls : MLs} {st : List MV} {g : MG} {μ : MU} {Q : Option MV → MG → MU → Prop} {a : Nat} : Wp E 53 97 ls (.inr (.inr (.inl a)) :: st) g μ Q = ((mKd g a).1 = 0 ∧ Wp E 53 100 ls (mRv (mRf g a 9) :: st) g μ Q) := Wp_getR k53_97 f5_133 (by decide) (by decide)
theorem k53_100 : mCode 53 100 = some (.iload_n 1, 1) := by decide +kernel
theorem x53_100 {E : ME} {ls : MLs} {st : List MV} {g : MG} {μ : MU} {Q : Option MV → MG → MU → Prop} {l0 : Option MV} {v : Int} : Wp E 53 100 (l0 :: some (.inl v) :: ls) st g μ Q = Wp E 53 101 (l0 :: some (.inl v) :: ls) (.inl v :: st) g μ Q := Wp_nx k53_100 rfl
theorem k53_101 : mCode 53 101 = some (.invokevirtual 126, 3) := by decide +kernel
theorem x53_101 {E : ME} {ls : MLs} {st : List MV} {g : MG} {μ : MU} {Q : Option MV → MG → MU → Prop} {r : Nat} {a0 : Nat ⊕ Nat} {a1 : Nat ⊕ Nat} {a2 : Int} : Wp E 53 101 ls (.inl a2 :: .inr (.inr a1) :: .inr (.inr a0) :: .inr (.inr (.inl r)) :: st) g μ Q = ((st.length ≤ 4 ∧ ((mKd g r).1 == 5) = true) ∧ Wp E 58 0 [some (.inr (.inr (.inl r))), some (.inr (.inr a0)), some (.inr (.inr a1)), some (.inl a2), none, none] [] g μ (fun r g' μ' => (g'.1 = g.1 ∧ g'.2.1 = g.2.1) ∧ Wp E 53 104 ls (mPush r st) g' μ' Q)) := Wp_cV k53_101 m5_126 (by decide) (as := [.inr (.inr (.inl r)), .inr (.inr a0), .inr (.inr a1), .inl a2]) rfl rfl rfl ⟨Nat.le_of_ble_eq_true rfl, by decide⟩
theorem k53_104 : mCode 53 104 = some (.ireturn, 1) := by decide +kernel
theorem x53_104 {E : ME} {ls : MLs} {g : MG} {μ : MU} {Q : Option MV → MG → MU → Prop} {v : Int} : Wp E 53 104 ls [.inl v] g μ Q = Q (some (.inl v)) g μ := Wp_retI k53_104 (by decide)
theorem k53_105 : mCode 53 105 = some (.aload_n 0, 1) := by decide +kernel
theorem x53_105 {E : ME} {ls : MLs} {st : List MV} {g : MG} {μ : MU} {Q : Option MV → MG → MU → Prop} {v : Nat ⊕ Nat} : Wp E 53 105 (some (.inr (.inr v)) :: ls) st g μ Q = Wp E 53 106 (some (.inr (.inr v)) :: ls) (.inr (.inr v) :: st) g μ Q := Wp_nx k53_105 rfl
theorem k53_106 : mCode 53 106 = some (.aload_n 0, 1) := by decide +kernel
theorem x53_106 {E : ME} {ls : MLs} {st : List MV} {g : MG} {μ : MU} {Q : Option MV → MG → MU → Prop} {v : Nat ⊕ Nat} : Wp E 53 106 (some (.inr (.inr v)) :: ls) st g μ Q = Wp E 53 107 (some (.inr (.inr v)) :: ls) (.inr (.inr v) :: st) g μ Q := Wp_nx k53_106 rfl
theorem k53_107 : mCode 53 107 = some (.getfield 19, 3) := by decide +kernel
theorem x53_107 {E : ME} {ls : MLs} {st : List MV} {g : MG} {μ : MU} {Q : Option MV → MG → MU → Prop} {a : Nat} : Wp E 53 107 ls (.inr (.inr (.inl a)) :: st) g μ Q = ((mKd g a).1 = 5 ∧ Wp E 53 110 ls (mRv (mRf g a 1) :: st) g μ Q) := Wp_getR k53_107 f5_19 (by decide) (by decide)
theorem k53_110 : mCode 53 110 = some (.getfield 148, 3) := by decide +kernel
theorem x53_110 {E : ME} {ls : MLs} {st : List MV} {g : MG} {μ : MU} {Q : Option MV → MG → MU → Prop} {a : Nat} : Wp E 53 110 ls (.inr (.inr (.inl a)) :: st) g μ Q = ((mKd g a).1 = 3 ∧ Wp E 53 113 ls (mRv (mRf g a 3) :: st) g μ Q) := Wp_getR k53_110 f5_148 (by decide) (by decide)
theorem k53_113 : mCode 53 113 = some (.aload_n 0, 1) := by decide +kernel
theorem x53_113 {E : ME} {ls : MLs} {st : List MV} {g : MG} {μ : MU} {Q : Option MV → MG → MU → Prop} {v : Nat ⊕ Nat} : Wp E 53 113 (some (.inr (.inr v)) :: ls) st g μ Q = Wp E 53 114 (some (.inr (.inr v)) :: ls) (.inr (.inr v) :: st) g μ Q := Wp_nx k53_113 rfl
theorem k53_114 : mCode 53 114 = some (.getfield 10, 3) := by decide +kernel
theorem x53_114 {E : ME} {ls : MLs} {st : List MV} {g : MG} {μ : MU} {Q : Option MV → MG → MU → Prop} {a : Nat} : Wp E 53 114 ls (.inr (.inr (.inl a)) :: st) g μ Q = ((mKd g a).1 = 5 ∧ Wp E 53 117 ls (mRv (mRf g a 0) :: st) g μ Q) := Wp_getR k53_114 f5_10 (by decide) (by decide)
theorem k53_117 : mCode 53 117 = some (.getfield 133, 3) := by decide +kernel
theorem x53_117 {E : ME} {ls : MLs} {st : List MV} {g : MG} {μ : MU} {Q : Option MV → MG → MU → Prop} {a : Nat} : Wp E 53 117 ls (.inr (.inr (.inl a)) :: st) g μ Q = ((mKd g a).1 = 0 ∧ Wp E 53 120 ls (mRv (mRf g a 9) :: st) g μ Q) := Wp_getR k53_117 f5_133 (by decide) (by decide)
theorem k53_120 : mCode 53 120 = some (.iload_n 1, 1) := by decide +kernel
theorem x53_120 {E : ME} {ls : MLs} {st : List MV} {g : MG} {μ : MU} {Q : Option MV → MG → MU → Prop} {l0 : Option MV} {v : Int} : Wp E 53 120 (l0 :: some (.inl v) :: ls) st g μ Q = Wp E 53 121 (l0 :: some (.inl v) :: ls) (.inl v :: st) g μ Q := Wp_nx k53_120 rfl
theorem k53_121 : mCode 53 121 = some (.invokevirtual 126, 3) := by decide +kernel
theorem x53_121 {E : ME} {ls : MLs} {st : List MV} {g : MG} {μ : MU} {Q : Option MV → MG → MU → Prop} {r : Nat} {a0 : Nat ⊕ Nat} {a1 : Nat ⊕ Nat} {a2 : Int} : Wp E 53 121 ls (.inl a2 :: .inr (.inr a1) :: .inr (.inr a0) :: .inr (.inr (.inl r)) :: st) g μ Q = ((st.length ≤ 4 ∧ ((mKd g r).1 == 5) = true) ∧ Wp E 58 0 [some (.inr (.inr (.inl r))), some (.inr (.inr a0)), some (.inr (.inr a1)), some (.inl a2), none, none] [] g μ (fun r g' μ' => (g'.1 = g.1 ∧ g'.2.1 = g.2.1) ∧ Wp E 53 124 ls (mPush r st) g' μ' Q)) := Wp_cV k53_121 m5_126 (by decide) (as := [.inr (.inr (.inl r)), .inr (.inr a0), .inr (.inr a1), .inl a2]) rfl rfl rfl ⟨Nat.le_of_ble_eq_true rfl, by decide⟩
theorem k53_124 : mCode 53 124 = some (.ireturn, 1) := by decide +kernel
theorem x53_124 {E : ME} {ls : MLs} {g : MG} {μ : MU} {Q : Option MV → MG → MU → Prop} {v : Int} : Wp E 53 124 ls [.inl v] g μ Q = Q (some (.inl v)) g μ := Wp_retI k53_124 (by decide)
theorem k53_125 : mCode 53 125 = some (.bipush (-2), 2) := by decide +kernel
theorem x53_125 {E : ME} {ls : MLs} {st : List MV} {g : MG} {μ : MU} {Q : Option MV → MG → MU → Prop} : Wp E 53 125 ls st g μ Q = Wp E 53 127 ls (.inl (-2) :: st) g μ Q := Wp_nx k53_125 rfl
theorem k53_127 : mCode 53 127 = some (.ireturn, 1) := by decide +kernel
theorem x53_127 {E : ME} {ls : MLs} {g : MG} {μ : MU} {Q : Option MV → MG → MU → Prop} {v : Int} : Wp E 53 127 ls [.inl v] g μ Q = Q (some (.inl v)) g μ := Wp_retI k53_127 (by decide)
theorem k54_0 : mCode 54 0 = some (.iload_n 1, 1) := by decide +kernel
theorem x54_0 {E : ME} {ls : MLs} {st : List MV} {g : MG} {μ : MU} {Q : Option MV → MG → MU → Prop} {l0 : Option MV} {v : Int} : Wp E 54 0 (l0 :: some (.inl v) :: ls) st g μ Q = Wp E 54 1 (l0 :: some (.inl v) :: ls) (.inl v :: st) g μ Q := Wp_nx k54_0 rfl
theorem k54_1 : mCode 54 1 = some (.iconst 0, 1) := by decide +kernel
theorem x54_1 {E : ME} {ls : MLs} {st : List MV} {g : MG} {μ : MU} {Q : Option MV → MG → MU → Prop} : Wp E 54 1 ls st g μ Q = Wp E 54 2 ls (.inl 0 :: st) g μ Q := Wp_nx k54_1 rfl
theorem k54_2 : mCode 54 2 = some (.bipush 6, 2) := by decide +kernel
theorem x54_2 {E : ME} {ls : MLs} {st : List MV} {g : MG} {μ : MU} {Q : Option MV → MG → MU → Prop} : Wp E 54 2 ls st g μ Q = Wp E 54 4 ls (.inl 6 :: st) g μ Q := Wp_nx k54_2 rfl
theorem k54_4 : mCode 54 4 = some (.invokestatic 170, 3) := by decide +kernel
theorem x54_4 {E : ME} {ls : MLs} {st : List MV} {g : MG} {μ : MU} {Q : Option MV → MG → MU → Prop} {a0 : Int} {a1 : Int} {a2 : Int} : Wp E 54 4 ls (.inl a2 :: .inl a1 :: .inl a0 :: st) g μ Q = (st.length ≤ 4 ∧ Wp E 74 0 [some (.inl a0), some (.inl a1), some (.inl a2)] [] g μ (fun r g' μ' => (g'.1 = g.1 ∧ g'.2.1 = g.2.1) ∧ Wp E 54 7 ls (mPush r st) g' μ' Q)) := Wp_cS k54_4 m5_170 (by decide) (as := [.inl a0, .inl a1, .inl a2]) rfl rfl rfl ⟨Nat.le_of_ble_eq_true rfl, by decide⟩
theorem k54_7 : mCode 54 7 = some (.ifCond .ne 5, 3) := by decide +kernel
theorem x54_7 {E : ME} {ls : MLs} {st : List MV} {g : MG} {μ : MU} {Q : Option MV → MG → MU → Prop} {a : Int} : Wp E 54 7 ls (.inl a :: st) g μ Q = ((¬ a = 0 → Wp E 54 12 ls st g μ Q) ∧ (a = 0 → Wp E 54 10 ls st g μ Q)) := Wp_if_ne k54_7 (by decide)
theorem k54_10 : mCode 54 10 = some (.iconst (-1), 1) := by decide +kernel
theorem x54_10 {E : ME} {ls : MLs} {st : List MV} {g : MG} {μ : MU} {Q : Option MV → MG → MU → Prop} : Wp E 54 10 ls st g μ Q = Wp E 54 11 ls (.inl (-1) :: st) g μ Q := Wp_nx k54_10 rfl
theorem k54_11 : mCode 54 11 = some (.ireturn, 1) := by decide +kernel
theorem x54_11 {E : ME} {ls : MLs} {g : MG} {μ : MU} {Q : Option MV → MG → MU → Prop} {v : Int} : Wp E 54 11 ls [.inl v] g μ Q = Q (some (.inl v)) g μ := Wp_retI k54_11 (by decide)
theorem k54_12 : mCode 54 12 = some (.aload_n 0, 1) := by decide +kernel
theorem x54_12 {E : ME} {ls : MLs} {st : List MV} {g : MG} {μ : MU} {Q : Option MV → MG → MU → Prop} {v : Nat ⊕ Nat} : Wp E 54 12 (some (.inr (.inr v)) :: ls) st g μ Q = Wp E 54 13 (some (.inr (.inr v)) :: ls) (.inr (.inr v) :: st) g μ Q := Wp_nx k54_12 rfl
theorem k54_13 : mCode 54 13 = some (.getfield 10, 3) := by decide +kernel
theorem x54_13 {E : ME} {ls : MLs} {st : List MV} {g : MG} {μ : MU} {Q : Option MV → MG → MU → Prop} {a : Nat} : Wp E 54 13 ls (.inr (.inr (.inl a)) :: st) g μ Q = ((mKd g a).1 = 5 ∧ Wp E 54 16 ls (mRv (mRf g a 0) :: st) g μ Q) := Wp_getR k54_13 f5_10 (by decide) (by decide)
theorem k54_16 : mCode 54 16 = some (.getfield 181, 3) := by decide +kernel
theorem x54_16 {E : ME} {ls : MLs} {st : List MV} {g : MG} {μ : MU} {Q : Option MV → MG → MU → Prop} {a : Nat} : Wp E 54 16 ls (.inr (.inr (.inl a)) :: st) g μ Q = ((mKd g a).1 = 0 ∧ Wp E 54 19 ls (.inl (μ a 7) :: st) g μ Q) := Wp_getI k54_16 f5_181 (by decide) (by decide)
theorem k54_19 : mCode 54 19 = some (.aload_n 0, 1) := by decide +kernel
theorem x54_19 {E : ME} {ls : MLs} {st : List MV} {g : MG} {μ : MU} {Q : Option MV → MG → MU → Prop} {v : Nat ⊕ Nat} : Wp E 54 19 (some (.inr (.inr v)) :: ls) st g μ Q = Wp E 54 20 (some (.inr (.inr v)) :: ls) (.inr (.inr v) :: st) g μ Q := Wp_nx k54_19 rfl
theorem k54_20 : mCode 54 20 = some (.getfield 10, 3) := by decide +kernel
theorem x54_20 {E : ME} {ls : MLs} {st : List MV} {g : MG} {μ : MU} {Q : Option MV → MG → MU → Prop} {a : Nat} : Wp E 54 20 ls (.inr (.inr (.inl a)) :: st) g μ Q = ((mKd g a).1 = 5 ∧ Wp E 54 23 ls (mRv (mRf g a 0) :: st) g μ Q) := Wp_getR k54_20 f5_10 (by decide) (by decide)
theorem k54_23 : mCode 54 23 = some (.getfield 194, 3) := by decide +kernel
theorem x54_23 {E : ME} {ls : MLs} {st : List MV} {g : MG} {μ : MU} {Q : Option MV → MG → MU → Prop} {a : Nat} : Wp E 54 23 ls (.inr (.inr (.inl a)) :: st) g μ Q = ((mKd g a).1 = 0 ∧ Wp E 54 26 ls (mRv (mRf g a 0) :: st) g μ Q) := Wp_getR k54_23 f5_194 (by decide) (by decide)
theorem k54_26 : mCode 54 26 = some (.iconst 3, 1) := by decide +kernel
theorem x54_26 {E : ME} {ls : MLs} {st : List MV} {g : MG} {μ : MU} {Q : Option MV → MG → MU → Prop} : Wp E 54 26 ls st g μ Q = Wp E 54 27 ls (.inl 3 :: st) g μ Q := Wp_nx k54_26 rfl
theorem k54_27 : mCode 54 27 = some (.iaload, 1) := by decide +kernel
theorem x54_27 {E : ME} {ls : MLs} {st : List MV} {g : MG} {μ : MU} {Q : Option MV → MG → MU → Prop} {a : Nat} {j : Int} : Wp E 54 27 ls (.inl j :: .inr (.inr (.inl a)) :: st) g μ Q = (((mKd g a).1 = 10 ∧ 0 ≤ j ∧ j < (mKd g a).2) ∧ Wp E 54 28 ls (.inl (μ a j.toNat) :: st) g μ Q) := Wp_ald k54_27 (fun _ => rfl)
theorem k54_28 : mCode 54 28 = some (.imul, 1) := by decide +kernel
theorem x54_28 {E : ME} {ls : MLs} {st : List MV} {g : MG} {μ : MU} {Q : Option MV → MG → MU → Prop} {a b : Int} : Wp E 54 28 ls (.inl b :: .inl a :: st) g μ Q = Wp E 54 29 ls (.inl (mWr (a * b)) :: st) g μ Q := Wp_nx k54_28 rfl
theorem k54_29 : mCode 54 29 = some (.istore_n 2, 1) := by decide +kernel
theorem x54_29 {E : ME} {ls : MLs} {st : List MV} {g : MG} {μ : MU} {Q : Option MV → MG → MU → Prop} {l0 l1 : Option MV} {lk : Option MV} {v : Int} : Wp E 54 29 (l0 :: l1 :: lk :: ls) (.inl v :: st) g μ Q = ((mNl (some l1) = true ∧ mNl (some lk) = true) ∧ Wp E 54 30 (l0 :: l1 :: some (.inl v) :: ls) st g μ Q) := Wp_sti k54_29 (fun _ => rfl) rfl rfl rfl
theorem k54_30 : mCode 54 30 = some (.iload_n 2, 1) := by decide +kernel
theorem x54_30 {E : ME} {ls : MLs} {st : List MV} {g : MG} {μ : MU} {Q : Option MV → MG → MU → Prop} {l0 l1 : Option MV} {v : Int} : Wp E 54 30 (l0 :: l1 :: some (.inl v) :: ls) st g μ Q = Wp E 54 31 (l0 :: l1 :: some (.inl v) :: ls) (.inl v :: st) g μ Q := Wp_nx k54_30 rfl
theorem k54_31 : mCode 54 31 = some (.bipush 7, 2) := by decide +kernel
theorem x54_31 {E : ME} {ls : MLs} {st : List MV} {g : MG} {μ : MU} {Q : Option MV → MG → MU → Prop} : Wp E 54 31 ls st g μ Q = Wp E 54 33 ls (.inl 7 :: st) g μ Q := Wp_nx k54_31 rfl
theorem k54_33 : mCode 54 33 = some (.iadd, 1) := by decide +kernel
theorem x54_33 {E : ME} {ls : MLs} {st : List MV} {g : MG} {μ : MU} {Q : Option MV → MG → MU → Prop} {a b : Int} : Wp E 54 33 ls (.inl b :: .inl a :: st) g μ Q = Wp E 54 34 ls (.inl (mWr (a + b)) :: st) g μ Q := Wp_nx k54_33 rfl
theorem k54_34 : mCode 54 34 = some (.iconst 1, 1) := by decide +kernel
theorem x54_34 {E : ME} {ls : MLs} {st : List MV} {g : MG} {μ : MU} {Q : Option MV → MG → MU → Prop} : Wp E 54 34 ls st g μ Q = Wp E 54 35 ls (.inl 1 :: st) g μ Q := Wp_nx k54_34 rfl
theorem k54_35 : mCode 54 35 = some (.isub, 1) := by decide +kernel
theorem x54_35 {E : ME} {ls : MLs} {st : List MV} {g : MG} {μ : MU} {Q : Option MV → MG → MU → Prop} {a b : Int} : Wp E 54 35 ls (.inl b :: .inl a :: st) g μ Q = Wp E 54 36 ls (.inl (mWr (a - b)) :: st) g μ Q := Wp_nx k54_35 rfl
theorem k54_36 : mCode 54 36 = some (.iload_n 1, 1) := by decide +kernel
theorem x54_36 {E : ME} {ls : MLs} {st : List MV} {g : MG} {μ : MU} {Q : Option MV → MG → MU → Prop} {l0 : Option MV} {v : Int} : Wp E 54 36 (l0 :: some (.inl v) :: ls) st g μ Q = Wp E 54 37 (l0 :: some (.inl v) :: ls) (.inl v :: st) g μ Q := Wp_nx k54_36 rfl
theorem k54_37 : mCode 54 37 = some (.isub, 1) := by decide +kernel
theorem x54_37 {E : ME} {ls : MLs} {st : List MV} {g : MG} {μ : MU} {Q : Option MV → MG → MU → Prop} {a b : Int} : Wp E 54 37 ls (.inl b :: .inl a :: st) g μ Q = Wp E 54 38 ls (.inl (mWr (a - b)) :: st) g μ Q := Wp_nx k54_37 rfl
theorem k54_38 : mCode 54 38 = some (.bipush 7, 2) := by decide +kernel
theorem x54_38 {E : ME} {ls : MLs} {st : List MV} {g : MG} {μ : MU} {Q : Option MV → MG → MU → Prop} : Wp E 54 38 ls st g μ Q = Wp E 54 40 ls (.inl 7 :: st) g μ Q := Wp_nx k54_38 rfl
theorem k54_40 : mCode 54 40 = some (.idiv, 1) := by decide +kernel
theorem x54_40 {E : ME} {ls : MLs} {st : List MV} {g : MG} {μ : MU} {Q : Option MV → MG → MU → Prop} {a b : Int} : Wp E 54 40 ls (.inl b :: .inl a :: st) g μ Q = (¬ b = 0 ∧ Wp E 54 41 ls (.inl (mWr (a.tdiv b)) :: st) g μ Q) := Wp_div (f := mIdiv) k54_40 (fun _ => rfl)
theorem k54_41 : mCode 54 41 = some (.ireturn, 1) := by decide +kernel
theorem x54_41 {E : ME} {ls : MLs} {g : MG} {μ : MU} {Q : Option MV → MG → MU → Prop} {v : Int} : Wp E 54 41 ls [.inl v] g μ Q = Q (some (.inl v)) g μ := Wp_retI k54_41 (by decide)
theorem k55_0 : mCode 55 0 = some (.aload_n 0, 1) := by decide +kernel
theorem x55_0 {E : ME} {ls : MLs} {st : List MV} {g : MG} {μ : MU} {Q : Option MV → MG → MU → Prop} {v : Nat ⊕ Nat} : Wp E 55 0 (some (.inr (.inr v)) :: ls) st g μ Q = Wp E 55 1 (some (.inr (.inr v)) :: ls) (.inr (.inr v) :: st) g μ Q := Wp_nx k55_0 rfl
theorem k55_1 : mCode 55 1 = some (.getfield 10, 3) := by decide +kernel
theorem x55_1 {E : ME} {ls : MLs} {st : List MV} {g : MG} {μ : MU} {Q : Option MV → MG → MU → Prop} {a : Nat} : Wp E 55 1 ls (.inr (.inr (.inl a)) :: st) g μ Q = ((mKd g a).1 = 5 ∧ Wp E 55 4 ls (mRv (mRf g a 0) :: st) g μ Q) := Wp_getR k55_1 f5_10 (by decide) (by decide)
theorem k55_4 : mCode 55 4 = some (.getfield 194, 3) := by decide +kernel
theorem x55_4 {E : ME} {ls : MLs} {st : List MV} {g : MG} {μ : MU} {Q : Option MV → MG → MU → Prop} {a : Nat} : Wp E 55 4 ls (.inr (.inr (.inl a)) :: st) g μ Q = ((mKd g a).1 = 0 ∧ Wp E 55 7 ls (mRv (mRf g a 0) :: st) g μ Q) := Wp_getR k55_4 f5_194 (by decide) (by decide)
theorem k55_7 : mCode 55 7 = some (.iconst 3, 1) := by decide +kernel
theorem x55_7 {E : ME} {ls : MLs} {st : List MV} {g : MG} {μ : MU} {Q : Option MV → MG → MU → Prop} : Wp E 55 7 ls st g μ Q = Wp E 55 8 ls (.inl 3 :: st) g μ Q := Wp_nx k55_7 rfl
theorem k55_8 : mCode 55 8 = some (.iaload, 1) := by decide +kernel
theorem x55_8 {E : ME} {ls : MLs} {st : List MV} {g : MG} {μ : MU} {Q : Option MV → MG → MU → Prop} {a : Nat} {j : Int} : Wp E 55 8 ls (.inl j :: .inr (.inr (.inl a)) :: st) g μ Q = (((mKd g a).1 = 10 ∧ 0 ≤ j ∧ j < (mKd g a).2) ∧ Wp E 55 9 ls (.inl (μ a j.toNat) :: st) g μ Q) := Wp_ald k55_8 (fun _ => rfl)
theorem k55_9 : mCode 55 9 = some (.istore_n 2, 1) := by decide +kernel
theorem x55_9 {E : ME} {ls : MLs} {st : List MV} {g : MG} {μ : MU} {Q : Option MV → MG → MU → Prop} {l0 l1 : Option MV} {lk : Option MV} {v : Int} : Wp E 55 9 (l0 :: l1 :: lk :: ls) (.inl v :: st) g μ Q = ((mNl (some l1) = true ∧ mNl (some lk) = true) ∧ Wp E 55 10 (l0 :: l1 :: some (.inl v) :: ls) st g μ Q) := Wp_sti k55_9 (fun _ => rfl) rfl rfl rfl
theorem k55_10 : mCode 55 10 = some (.iload_n 2, 1) := by decide +kernel
theorem x55_10 {E : ME} {ls : MLs} {st : List MV} {g : MG} {μ : MU} {Q : Option MV → MG → MU → Prop} {l0 l1 : Option MV} {v : Int} : Wp E 55 10 (l0 :: l1 :: some (.inl v) :: ls) st g μ Q = Wp E 55 11 (l0 :: l1 :: some (.inl v) :: ls) (.inl v :: st) g μ Q := Wp_nx k55_10 rfl
theorem k55_11 : mCode 55 11 = some (.ifCond .ne 8, 3) := by decide +kernel
theorem x55_11 {E : ME} {ls : MLs} {st : List MV} {g : MG} {μ : MU} {Q : Option MV → MG → MU → Prop} {a : Int} : Wp E 55 11 ls (.inl a :: st) g μ Q = ((¬ a = 0 → Wp E 55 19 ls st g μ Q) ∧ (a = 0 → Wp E 55 14 ls st g μ Q)) := Wp_if_ne k55_11 (by decide)
theorem k55_14 : mCode 55 14 = some (.bipush (-6), 2) := by decide +kernel
theorem x55_14 {E : ME} {ls : MLs} {st : List MV} {g : MG} {μ : MU} {Q : Option MV → MG → MU → Prop} : Wp E 55 14 ls st g μ Q = Wp E 55 16 ls (.inl (-6) :: st) g μ Q := Wp_nx k55_14 rfl
theorem k55_16 : mCode 55 16 = some (.goto 9, 3) := by decide +kernel
theorem x55_16 {E : ME} {ls : MLs} {st : List MV} {g : MG} {μ : MU} {Q : Option MV → MG → MU → Prop} : Wp E 55 16 ls st g μ Q = Wp E 55 25 ls st g μ Q := Wp_goto k55_16 (by decide)
theorem k55_19 : mCode 55 19 = some (.iload_n 1, 1) := by decide +kernel
theorem x55_19 {E : ME} {ls : MLs} {st : List MV} {g : MG} {μ : MU} {Q : Option MV → MG → MU → Prop} {l0 : Option MV} {v : Int} : Wp E 55 19 (l0 :: some (.inl v) :: ls) st g μ Q = Wp E 55 20 (l0 :: some (.inl v) :: ls) (.inl v :: st) g μ Q := Wp_nx k55_19 rfl
theorem k55_20 : mCode 55 20 = some (.iload_n 2, 1) := by decide +kernel
theorem x55_20 {E : ME} {ls : MLs} {st : List MV} {g : MG} {μ : MU} {Q : Option MV → MG → MU → Prop} {l0 l1 : Option MV} {v : Int} : Wp E 55 20 (l0 :: l1 :: some (.inl v) :: ls) st g μ Q = Wp E 55 21 (l0 :: l1 :: some (.inl v) :: ls) (.inl v :: st) g μ Q := Wp_nx k55_20 rfl
theorem k55_21 : mCode 55 21 = some (.imul, 1) := by decide +kernel
theorem x55_21 {E : ME} {ls : MLs} {st : List MV} {g : MG} {μ : MU} {Q : Option MV → MG → MU → Prop} {a b : Int} : Wp E 55 21 ls (.inl b :: .inl a :: st) g μ Q = Wp E 55 22 ls (.inl (mWr (a * b)) :: st) g μ Q := Wp_nx k55_21 rfl
theorem k55_22 : mCode 55 22 = some (.bipush 7, 2) := by decide +kernel
theorem x55_22 {E : ME} {ls : MLs} {st : List MV} {g : MG} {μ : MU} {Q : Option MV → MG → MU → Prop} : Wp E 55 22 ls st g μ Q = Wp E 55 24 ls (.inl 7 :: st) g μ Q := Wp_nx k55_22 rfl
theorem k55_24 : mCode 55 24 = some (.irem, 1) := by decide +kernel
theorem x55_24 {E : ME} {ls : MLs} {st : List MV} {g : MG} {μ : MU} {Q : Option MV → MG → MU → Prop} {a b : Int} : Wp E 55 24 ls (.inl b :: .inl a :: st) g μ Q = (¬ b = 0 ∧ Wp E 55 25 ls (.inl (a.tmod b) :: st) g μ Q) := Wp_div (f := mIrem) k55_24 (fun _ => rfl)
theorem k55_25 : mCode 55 25 = some (.ireturn, 1) := by decide +kernel
theorem x55_25 {E : ME} {ls : MLs} {g : MG} {μ : MU} {Q : Option MV → MG → MU → Prop} {v : Int} : Wp E 55 25 ls [.inl v] g μ Q = Q (some (.inl v)) g μ := Wp_retI k55_25 (by decide)
theorem k56_0 : mCode 56 0 = some (.aload_n 0, 1) := by decide +kernel
theorem x56_0 {E : ME} {ls : MLs} {st : List MV} {g : MG} {μ : MU} {Q : Option MV → MG → MU → Prop} {v : Nat ⊕ Nat} : Wp E 56 0 (some (.inr (.inr v)) :: ls) st g μ Q = Wp E 56 1 (some (.inr (.inr v)) :: ls) (.inr (.inr v) :: st) g μ Q := Wp_nx k56_0 rfl
theorem k56_1 : mCode 56 1 = some (.getfield 51, 3) := by decide +kernel
theorem x56_1 {E : ME} {ls : MLs} {st : List MV} {g : MG} {μ : MU} {Q : Option MV → MG → MU → Prop} {a : Nat} : Wp E 56 1 ls (.inr (.inr (.inl a)) :: st) g μ Q = ((mKd g a).1 = 5 ∧ Wp E 56 4 ls (mRv (mRf g a 7) :: st) g μ Q) := Wp_getR k56_1 f5_51 (by decide) (by decide)
theorem k56_4 : mCode 56 4 = some (.astore 4, 2) := by decide +kernel
theorem x56_4 {E : ME} {ls : MLs} {st : List MV} {g : MG} {μ : MU} {Q : Option MV → MG → MU → Prop} {l0 l1 l2 l3 : Option MV} {lk : Option MV} {v : Nat ⊕ Nat} : Wp E 56 4 (l0 :: l1 :: l2 :: l3 :: lk :: ls) (.inr (.inr v) :: st) g μ Q = ((mNl (some l3) = true ∧ mNl (some lk) = true) ∧ Wp E 56 6 (l0 :: l1 :: l2 :: l3 :: some (.inr (.inr v)) :: ls) st g μ Q) := Wp_sta k56_4 (fun _ => rfl) rfl rfl rfl
theorem k56_6 : mCode 56 6 = some (.aload 4, 2) := by decide +kernel
theorem x56_6 {E : ME} {ls : MLs} {st : List MV} {g : MG} {μ : MU} {Q : Option MV → MG → MU → Prop} {l0 l1 l2 l3 : Option MV} {v : Nat ⊕ Nat} : Wp E 56 6 (l0 :: l1 :: l2 :: l3 :: some (.inr (.inr v)) :: ls) st g μ Q = Wp E 56 8 (l0 :: l1 :: l2 :: l3 :: some (.inr (.inr v)) :: ls) (.inr (.inr v) :: st) g μ Q := Wp_nx k56_6 rfl
theorem k56_8 : mCode 56 8 = some (.aload_n 0, 1) := by decide +kernel
theorem x56_8 {E : ME} {ls : MLs} {st : List MV} {g : MG} {μ : MU} {Q : Option MV → MG → MU → Prop} {v : Nat ⊕ Nat} : Wp E 56 8 (some (.inr (.inr v)) :: ls) st g μ Q = Wp E 56 9 (some (.inr (.inr v)) :: ls) (.inr (.inr v) :: st) g μ Q := Wp_nx k56_8 rfl
theorem k56_9 : mCode 56 9 = some (.getfield 10, 3) := by decide +kernel
theorem x56_9 {E : ME} {ls : MLs} {st : List MV} {g : MG} {μ : MU} {Q : Option MV → MG → MU → Prop} {a : Nat} : Wp E 56 9 ls (.inr (.inr (.inl a)) :: st) g μ Q = ((mKd g a).1 = 5 ∧ Wp E 56 12 ls (mRv (mRf g a 0) :: st) g μ Q) := Wp_getR k56_9 f5_10 (by decide) (by decide)
theorem k56_12 : mCode 56 12 = some (.iload_n 1, 1) := by decide +kernel
theorem x56_12 {E : ME} {ls : MLs} {st : List MV} {g : MG} {μ : MU} {Q : Option MV → MG → MU → Prop} {l0 : Option MV} {v : Int} : Wp E 56 12 (l0 :: some (.inl v) :: ls) st g μ Q = Wp E 56 13 (l0 :: some (.inl v) :: ls) (.inl v :: st) g μ Q := Wp_nx k56_12 rfl
theorem k56_13 : mCode 56 13 = some (.invokevirtual 206, 3) := by decide +kernel
theorem x56_13 {E : ME} {ls : MLs} {st : List MV} {g : MG} {μ : MU} {Q : Option MV → MG → MU → Prop} {r : Nat} {a0 : Nat ⊕ Nat} {a1 : Int} : Wp E 56 13 ls (.inl a1 :: .inr (.inr a0) :: .inr (.inr (.inl r)) :: st) g μ Q = ((st.length ≤ 4 ∧ ((mKd g r).1 == 4) = true) ∧ Wp E 35 0 [some (.inr (.inr (.inl r))), some (.inr (.inr a0)), some (.inl a1)] [] g μ (fun r g' μ' => (g'.1 = g.1 ∧ g'.2.1 = g.2.1) ∧ Wp E 56 16 ls (mPush r st) g' μ' Q)) := Wp_cV k56_13 m5_206 (by decide) (as := [.inr (.inr (.inl r)), .inr (.inr a0), .inl a1]) rfl rfl rfl ⟨Nat.le_of_ble_eq_true rfl, by decide⟩
theorem k56_16 : mCode 56 16 = some (.iconst 0, 1) := by decide +kernel
theorem x56_16 {E : ME} {ls : MLs} {st : List MV} {g : MG} {μ : MU} {Q : Option MV → MG → MU → Prop} : Wp E 56 16 ls st g μ Q = Wp E 56 17 ls (.inl 0 :: st) g μ Q := Wp_nx k56_16 rfl
theorem k56_17 : mCode 56 17 = some (.istore 5, 2) := by decide +kernel
theorem x56_17 {E : ME} {ls : MLs} {st : List MV} {g : MG} {μ : MU} {Q : Option MV → MG → MU → Prop} {l0 l1 l2 l3 l4 : Option MV} {lk : Option MV} {v : Int} : Wp E 56 17 (l0 :: l1 :: l2 :: l3 :: l4 :: lk :: ls) (.inl v :: st) g μ Q = ((mNl (some l4) = true ∧ mNl (some lk) = true) ∧ Wp E 56 19 (l0 :: l1 :: l2 :: l3 :: l4 :: some (.inl v) :: ls) st g μ Q) := Wp_sti k56_17 (fun _ => rfl) rfl rfl rfl
theorem k56_19 : mCode 56 19 = some (.iload 5, 2) := by decide +kernel
theorem x56_19 {E : ME} {ls : MLs} {st : List MV} {g : MG} {μ : MU} {Q : Option MV → MG → MU → Prop} {l0 l1 l2 l3 l4 : Option MV} {v : Int} : Wp E 56 19 (l0 :: l1 :: l2 :: l3 :: l4 :: some (.inl v) :: ls) st g μ Q = Wp E 56 21 (l0 :: l1 :: l2 :: l3 :: l4 :: some (.inl v) :: ls) (.inl v :: st) g μ Q := Wp_nx k56_19 rfl
theorem k56_21 : mCode 56 21 = some (.aload_n 0, 1) := by decide +kernel
theorem x56_21 {E : ME} {ls : MLs} {st : List MV} {g : MG} {μ : MU} {Q : Option MV → MG → MU → Prop} {v : Nat ⊕ Nat} : Wp E 56 21 (some (.inr (.inr v)) :: ls) st g μ Q = Wp E 56 22 (some (.inr (.inr v)) :: ls) (.inr (.inr v) :: st) g μ Q := Wp_nx k56_21 rfl
theorem k56_22 : mCode 56 22 = some (.getfield 10, 3) := by decide +kernel
theorem x56_22 {E : ME} {ls : MLs} {st : List MV} {g : MG} {μ : MU} {Q : Option MV → MG → MU → Prop} {a : Nat} : Wp E 56 22 ls (.inr (.inr (.inl a)) :: st) g μ Q = ((mKd g a).1 = 5 ∧ Wp E 56 25 ls (mRv (mRf g a 0) :: st) g μ Q) := Wp_getR k56_22 f5_10 (by decide) (by decide)
theorem k56_25 : mCode 56 25 = some (.getfield 181, 3) := by decide +kernel
theorem x56_25 {E : ME} {ls : MLs} {st : List MV} {g : MG} {μ : MU} {Q : Option MV → MG → MU → Prop} {a : Nat} : Wp E 56 25 ls (.inr (.inr (.inl a)) :: st) g μ Q = ((mKd g a).1 = 0 ∧ Wp E 56 28 ls (.inl (μ a 7) :: st) g μ Q) := Wp_getI k56_25 f5_181 (by decide) (by decide)
theorem k56_28 : mCode 56 28 = some (.if_icmp .ge 132, 3) := by decide +kernel
theorem x56_28 {E : ME} {ls : MLs} {st : List MV} {g : MG} {μ : MU} {Q : Option MV → MG → MU → Prop} {a b : Int} : Wp E 56 28 ls (.inl b :: .inl a :: st) g μ Q = ((b ≤ a → Wp E 56 160 ls st g μ Q) ∧ (a < b → Wp E 56 31 ls st g μ Q)) := Wp_cmp_ge k56_28 (by decide)
theorem k56_31 : mCode 56 31 = some (.aload_n 0, 1) := by decide +kernel
theorem x56_31 {E : ME} {ls : MLs} {st : List MV} {g : MG} {μ : MU} {Q : Option MV → MG → MU → Prop} {v : Nat ⊕ Nat} : Wp E 56 31 (some (.inr (.inr v)) :: ls) st g μ Q = Wp E 56 32 (some (.inr (.inr v)) :: ls) (.inr (.inr v) :: st) g μ Q := Wp_nx k56_31 rfl
theorem k56_32 : mCode 56 32 = some (.getfield 19, 3) := by decide +kernel
theorem x56_32 {E : ME} {ls : MLs} {st : List MV} {g : MG} {μ : MU} {Q : Option MV → MG → MU → Prop} {a : Nat} : Wp E 56 32 ls (.inr (.inr (.inl a)) :: st) g μ Q = ((mKd g a).1 = 5 ∧ Wp E 56 35 ls (mRv (mRf g a 1) :: st) g μ Q) := Wp_getR k56_32 f5_19 (by decide) (by decide)
theorem k56_35 : mCode 56 35 = some (.getfield 210, 3) := by decide +kernel
theorem x56_35 {E : ME} {ls : MLs} {st : List MV} {g : MG} {μ : MU} {Q : Option MV → MG → MU → Prop} {a : Nat} : Wp E 56 35 ls (.inr (.inr (.inl a)) :: st) g μ Q = ((mKd g a).1 = 3 ∧ Wp E 56 38 ls (mRv (mRf g a 0) :: st) g μ Q) := Wp_getR k56_35 f5_210 (by decide) (by decide)
theorem k56_38 : mCode 56 38 = some (.iload 5, 2) := by decide +kernel
theorem x56_38 {E : ME} {ls : MLs} {st : List MV} {g : MG} {μ : MU} {Q : Option MV → MG → MU → Prop} {l0 l1 l2 l3 l4 : Option MV} {v : Int} : Wp E 56 38 (l0 :: l1 :: l2 :: l3 :: l4 :: some (.inl v) :: ls) st g μ Q = Wp E 56 40 (l0 :: l1 :: l2 :: l3 :: l4 :: some (.inl v) :: ls) (.inl v :: st) g μ Q := Wp_nx k56_38 rfl
theorem k56_40 : mCode 56 40 = some (.iaload, 1) := by decide +kernel
theorem x56_40 {E : ME} {ls : MLs} {st : List MV} {g : MG} {μ : MU} {Q : Option MV → MG → MU → Prop} {a : Nat} {j : Int} : Wp E 56 40 ls (.inl j :: .inr (.inr (.inl a)) :: st) g μ Q = (((mKd g a).1 = 10 ∧ 0 ≤ j ∧ j < (mKd g a).2) ∧ Wp E 56 41 ls (.inl (μ a j.toNat) :: st) g μ Q) := Wp_ald k56_40 (fun _ => rfl)
theorem k56_41 : mCode 56 41 = some (.istore 6, 2) := by decide +kernel
theorem x56_41 {E : ME} {ls : MLs} {st : List MV} {g : MG} {μ : MU} {Q : Option MV → MG → MU → Prop} {l0 l1 l2 l3 l4 l5 : Option MV} {lk : Option MV} {v : Int} : Wp E 56 41 (l0 :: l1 :: l2 :: l3 :: l4 :: l5 :: lk :: ls) (.inl v :: st) g μ Q = ((mNl (some l5) = true ∧ mNl (some lk) = true) ∧ Wp E 56 43 (l0 :: l1 :: l2 :: l3 :: l4 :: l5 :: some (.inl v) :: ls) st g μ Q) := Wp_sti k56_41 (fun _ => rfl) rfl rfl rfl
theorem k56_43 : mCode 56 43 = some (.aload_n 0, 1) := by decide +kernel
theorem x56_43 {E : ME} {ls : MLs} {st : List MV} {g : MG} {μ : MU} {Q : Option MV → MG → MU → Prop} {v : Nat ⊕ Nat} : Wp E 56 43 (some (.inr (.inr v)) :: ls) st g μ Q = Wp E 56 44 (some (.inr (.inr v)) :: ls) (.inr (.inr v) :: st) g μ Q := Wp_nx k56_43 rfl
theorem k56_44 : mCode 56 44 = some (.getfield 10, 3) := by decide +kernel
theorem x56_44 {E : ME} {ls : MLs} {st : List MV} {g : MG} {μ : MU} {Q : Option MV → MG → MU → Prop} {a : Nat} : Wp E 56 44 ls (.inr (.inr (.inl a)) :: st) g μ Q = ((mKd g a).1 = 5 ∧ Wp E 56 47 ls (mRv (mRf g a 0) :: st) g μ Q) := Wp_getR k56_44 f5_10 (by decide) (by decide)
theorem k56_47 : mCode 56 47 = some (.getfield 113, 3) := by decide +kernel
theorem x56_47 {E : ME} {ls : MLs} {st : List MV} {g : MG} {μ : MU} {Q : Option MV → MG → MU → Prop} {a : Nat} : Wp E 56 47 ls (.inr (.inr (.inl a)) :: st) g μ Q = ((mKd g a).1 = 0 ∧ Wp E 56 50 ls (mRv (mRf g a 8) :: st) g μ Q) := Wp_getR k56_47 f5_113 (by decide) (by decide)
theorem k56_50 : mCode 56 50 = some (.iload 6, 2) := by decide +kernel
theorem x56_50 {E : ME} {ls : MLs} {st : List MV} {g : MG} {μ : MU} {Q : Option MV → MG → MU → Prop} {l0 l1 l2 l3 l4 l5 : Option MV} {v : Int} : Wp E 56 50 (l0 :: l1 :: l2 :: l3 :: l4 :: l5 :: some (.inl v) :: ls) st g μ Q = Wp E 56 52 (l0 :: l1 :: l2 :: l3 :: l4 :: l5 :: some (.inl v) :: ls) (.inl v :: st) g μ Q := Wp_nx k56_50 rfl
theorem k56_52 : mCode 56 52 = some (.iaload, 1) := by decide +kernel
theorem x56_52 {E : ME} {ls : MLs} {st : List MV} {g : MG} {μ : MU} {Q : Option MV → MG → MU → Prop} {a : Nat} {j : Int} : Wp E 56 52 ls (.inl j :: .inr (.inr (.inl a)) :: st) g μ Q = (((mKd g a).1 = 10 ∧ 0 ≤ j ∧ j < (mKd g a).2) ∧ Wp E 56 53 ls (.inl (μ a j.toNat) :: st) g μ Q) := Wp_ald k56_52 (fun _ => rfl)
theorem k56_53 : mCode 56 53 = some (.iload_n 1, 1) := by decide +kernel
theorem x56_53 {E : ME} {ls : MLs} {st : List MV} {g : MG} {μ : MU} {Q : Option MV → MG → MU → Prop} {l0 : Option MV} {v : Int} : Wp E 56 53 (l0 :: some (.inl v) :: ls) st g μ Q = Wp E 56 54 (l0 :: some (.inl v) :: ls) (.inl v :: st) g μ Q := Wp_nx k56_53 rfl
theorem k56_54 : mCode 56 54 = some (.if_icmp .eq 6, 3) := by decide +kernel
theorem x56_54 {E : ME} {ls : MLs} {st : List MV} {g : MG} {μ : MU} {Q : Option MV → MG → MU → Prop} {a b : Int} : Wp E 56 54 ls (.inl b :: .inl a :: st) g μ Q = ((a = b → Wp E 56 60 ls st g μ Q) ∧ (¬ a = b → Wp E 56 57 ls st g μ Q)) := Wp_cmp_eq k56_54 (by decide)
theorem k56_57 : mCode 56 57 = some (.goto 97, 3) := by decide +kernel
theorem x56_57 {E : ME} {ls : MLs} {st : List MV} {g : MG} {μ : MU} {Q : Option MV → MG → MU → Prop} : Wp E 56 57 ls st g μ Q = Wp E 56 154 ls st g μ Q := Wp_goto k56_57 (by decide)
theorem k56_60 : mCode 56 60 = some (.aload 4, 2) := by decide +kernel
theorem x56_60 {E : ME} {ls : MLs} {st : List MV} {g : MG} {μ : MU} {Q : Option MV → MG → MU → Prop} {l0 l1 l2 l3 : Option MV} {v : Nat ⊕ Nat} : Wp E 56 60 (l0 :: l1 :: l2 :: l3 :: some (.inr (.inr v)) :: ls) st g μ Q = Wp E 56 62 (l0 :: l1 :: l2 :: l3 :: some (.inr (.inr v)) :: ls) (.inr (.inr v) :: st) g μ Q := Wp_nx k56_60 rfl
theorem k56_62 : mCode 56 62 = some (.getfield 213, 3) := by decide +kernel
theorem x56_62 {E : ME} {ls : MLs} {st : List MV} {g : MG} {μ : MU} {Q : Option MV → MG → MU → Prop} {a : Nat} : Wp E 56 62 ls (.inr (.inr (.inl a)) :: st) g μ Q = ((mKd g a).1 = 4 ∧ Wp E 56 65 ls (mRv (mRf g a 0) :: st) g μ Q) := Wp_getR k56_62 f5_213 (by decide) (by decide)
theorem k56_65 : mCode 56 65 = some (.iload_n 2, 1) := by decide +kernel
theorem x56_65 {E : ME} {ls : MLs} {st : List MV} {g : MG} {μ : MU} {Q : Option MV → MG → MU → Prop} {l0 l1 : Option MV} {v : Int} : Wp E 56 65 (l0 :: l1 :: some (.inl v) :: ls) st g μ Q = Wp E 56 66 (l0 :: l1 :: some (.inl v) :: ls) (.inl v :: st) g μ Q := Wp_nx k56_65 rfl
theorem k56_66 : mCode 56 66 = some (.iaload, 1) := by decide +kernel
theorem x56_66 {E : ME} {ls : MLs} {st : List MV} {g : MG} {μ : MU} {Q : Option MV → MG → MU → Prop} {a : Nat} {j : Int} : Wp E 56 66 ls (.inl j :: .inr (.inr (.inl a)) :: st) g μ Q = (((mKd g a).1 = 10 ∧ 0 ≤ j ∧ j < (mKd g a).2) ∧ Wp E 56 67 ls (.inl (μ a j.toNat) :: st) g μ Q) := Wp_ald k56_66 (fun _ => rfl)
theorem k56_67 : mCode 56 67 = some (.istore 7, 2) := by decide +kernel
theorem x56_67 {E : ME} {ls : MLs} {st : List MV} {g : MG} {μ : MU} {Q : Option MV → MG → MU → Prop} {l0 l1 l2 l3 l4 l5 l6 : Option MV} {lk : Option MV} {v : Int} : Wp E 56 67 (l0 :: l1 :: l2 :: l3 :: l4 :: l5 :: l6 :: lk :: ls) (.inl v :: st) g μ Q = ((mNl (some l6) = true ∧ mNl (some lk) = true) ∧ Wp E 56 69 (l0 :: l1 :: l2 :: l3 :: l4 :: l5 :: l6 :: some (.inl v) :: ls) st g μ Q) := Wp_sti k56_67 (fun _ => rfl) rfl rfl rfl
theorem k56_69 : mCode 56 69 = some (.aload 4, 2) := by decide +kernel
theorem x56_69 {E : ME} {ls : MLs} {st : List MV} {g : MG} {μ : MU} {Q : Option MV → MG → MU → Prop} {l0 l1 l2 l3 : Option MV} {v : Nat ⊕ Nat} : Wp E 56 69 (l0 :: l1 :: l2 :: l3 :: some (.inr (.inr v)) :: ls) st g μ Q = Wp E 56 71 (l0 :: l1 :: l2 :: l3 :: some (.inr (.inr v)) :: ls) (.inr (.inr v) :: st) g μ Q := Wp_nx k56_69 rfl
theorem k56_71 : mCode 56 71 = some (.getfield 216, 3) := by decide +kernel
theorem x56_71 {E : ME} {ls : MLs} {st : List MV} {g : MG} {μ : MU} {Q : Option MV → MG → MU → Prop} {a : Nat} : Wp E 56 71 ls (.inr (.inr (.inl a)) :: st) g μ Q = ((mKd g a).1 = 4 ∧ Wp E 56 74 ls (mRv (mRf g a 1) :: st) g μ Q) := Wp_getR k56_71 f5_216 (by decide) (by decide)
theorem k56_74 : mCode 56 74 = some (.iload_n 2, 1) := by decide +kernel
theorem x56_74 {E : ME} {ls : MLs} {st : List MV} {g : MG} {μ : MU} {Q : Option MV → MG → MU → Prop} {l0 l1 : Option MV} {v : Int} : Wp E 56 74 (l0 :: l1 :: some (.inl v) :: ls) st g μ Q = Wp E 56 75 (l0 :: l1 :: some (.inl v) :: ls) (.inl v :: st) g μ Q := Wp_nx k56_74 rfl
theorem k56_75 : mCode 56 75 = some (.iaload, 1) := by decide +kernel
theorem x56_75 {E : ME} {ls : MLs} {st : List MV} {g : MG} {μ : MU} {Q : Option MV → MG → MU → Prop} {a : Nat} {j : Int} : Wp E 56 75 ls (.inl j :: .inr (.inr (.inl a)) :: st) g μ Q = (((mKd g a).1 = 10 ∧ 0 ≤ j ∧ j < (mKd g a).2) ∧ Wp E 56 76 ls (.inl (μ a j.toNat) :: st) g μ Q) := Wp_ald k56_75 (fun _ => rfl)
theorem k56_76 : mCode 56 76 = some (.istore 8, 2) := by decide +kernel
theorem x56_76 {E : ME} {ls : MLs} {st : List MV} {g : MG} {μ : MU} {Q : Option MV → MG → MU → Prop} {l0 l1 l2 l3 l4 l5 l6 l7 : Option MV} {lk : Option MV} {v : Int} : Wp E 56 76 (l0 :: l1 :: l2 :: l3 :: l4 :: l5 :: l6 :: l7 :: lk :: ls) (.inl v :: st) g μ Q = ((mNl (some l7) = true ∧ mNl (some lk) = true) ∧ Wp E 56 78 (l0 :: l1 :: l2 :: l3 :: l4 :: l5 :: l6 :: l7 :: some (.inl v) :: ls) st g μ Q) := Wp_sti k56_76 (fun _ => rfl) rfl rfl rfl
theorem k56_78 : mCode 56 78 = some (.iload_n 3, 1) := by decide +kernel
theorem x56_78 {E : ME} {ls : MLs} {st : List MV} {g : MG} {μ : MU} {Q : Option MV → MG → MU → Prop} {l0 l1 l2 : Option MV} {v : Int} : Wp E 56 78 (l0 :: l1 :: l2 :: some (.inl v) :: ls) st g μ Q = Wp E 56 79 (l0 :: l1 :: l2 :: some (.inl v) :: ls) (.inl v :: st) g μ Q := Wp_nx k56_78 rfl
theorem k56_79 : mCode 56 79 = some (.iload 8, 2) := by decide +kernel
theorem x56_79 {E : ME} {ls : MLs} {st : List MV} {g : MG} {μ : MU} {Q : Option MV → MG → MU → Prop} {l0 l1 l2 l3 l4 l5 l6 l7 : Option MV} {v : Int} : Wp E 56 79 (l0 :: l1 :: l2 :: l3 :: l4 :: l5 :: l6 :: l7 :: some (.inl v) :: ls) st g μ Q = Wp E 56 81 (l0 :: l1 :: l2 :: l3 :: l4 :: l5 :: l6 :: l7 :: some (.inl v) :: ls) (.inl v :: st) g μ Q := Wp_nx k56_79 rfl
theorem k56_81 : mCode 56 81 = some (.if_icmp .ge 6, 3) := by decide +kernel
theorem x56_81 {E : ME} {ls : MLs} {st : List MV} {g : MG} {μ : MU} {Q : Option MV → MG → MU → Prop} {a b : Int} : Wp E 56 81 ls (.inl b :: .inl a :: st) g μ Q = ((b ≤ a → Wp E 56 87 ls st g μ Q) ∧ (a < b → Wp E 56 84 ls st g μ Q)) := Wp_cmp_ge k56_81 (by decide)
theorem k56_84 : mCode 56 84 = some (.iload 7, 2) := by decide +kernel
theorem x56_84 {E : ME} {ls : MLs} {st : List MV} {g : MG} {μ : MU} {Q : Option MV → MG → MU → Prop} {l0 l1 l2 l3 l4 l5 l6 : Option MV} {v : Int} : Wp E 56 84 (l0 :: l1 :: l2 :: l3 :: l4 :: l5 :: l6 :: some (.inl v) :: ls) st g μ Q = Wp E 56 86 (l0 :: l1 :: l2 :: l3 :: l4 :: l5 :: l6 :: some (.inl v) :: ls) (.inl v :: st) g μ Q := Wp_nx k56_84 rfl
theorem k56_86 : mCode 56 86 = some (.ireturn, 1) := by decide +kernel
theorem x56_86 {E : ME} {ls : MLs} {g : MG} {μ : MU} {Q : Option MV → MG → MU → Prop} {v : Int} : Wp E 56 86 ls [.inl v] g μ Q = Q (some (.inl v)) g μ := Wp_retI k56_86 (by decide)
theorem k56_87 : mCode 56 87 = some (.aload 4, 2) := by decide +kernel
theorem x56_87 {E : ME} {ls : MLs} {st : List MV} {g : MG} {μ : MU} {Q : Option MV → MG → MU → Prop} {l0 l1 l2 l3 : Option MV} {v : Nat ⊕ Nat} : Wp E 56 87 (l0 :: l1 :: l2 :: l3 :: some (.inr (.inr v)) :: ls) st g μ Q = Wp E 56 89 (l0 :: l1 :: l2 :: l3 :: some (.inr (.inr v)) :: ls) (.inr (.inr v) :: st) g μ Q := Wp_nx k56_87 rfl
theorem k56_89 : mCode 56 89 = some (.aload_n 0, 1) := by decide +kernel
theorem x56_89 {E : ME} {ls : MLs} {st : List MV} {g : MG} {μ : MU} {Q : Option MV → MG → MU → Prop} {v : Nat ⊕ Nat} : Wp E 56 89 (some (.inr (.inr v)) :: ls) st g μ Q = Wp E 56 90 (some (.inr (.inr v)) :: ls) (.inr (.inr v) :: st) g μ Q := Wp_nx k56_89 rfl
theorem k56_90 : mCode 56 90 = some (.getfield 10, 3) := by decide +kernel
theorem x56_90 {E : ME} {ls : MLs} {st : List MV} {g : MG} {μ : MU} {Q : Option MV → MG → MU → Prop} {a : Nat} : Wp E 56 90 ls (.inr (.inr (.inl a)) :: st) g μ Q = ((mKd g a).1 = 5 ∧ Wp E 56 93 ls (mRv (mRf g a 0) :: st) g μ Q) := Wp_getR k56_90 f5_10 (by decide) (by decide)
theorem k56_93 : mCode 56 93 = some (.aload_n 0, 1) := by decide +kernel
theorem x56_93 {E : ME} {ls : MLs} {st : List MV} {g : MG} {μ : MU} {Q : Option MV → MG → MU → Prop} {v : Nat ⊕ Nat} : Wp E 56 93 (some (.inr (.inr v)) :: ls) st g μ Q = Wp E 56 94 (some (.inr (.inr v)) :: ls) (.inr (.inr v) :: st) g μ Q := Wp_nx k56_93 rfl
theorem k56_94 : mCode 56 94 = some (.getfield 10, 3) := by decide +kernel
theorem x56_94 {E : ME} {ls : MLs} {st : List MV} {g : MG} {μ : MU} {Q : Option MV → MG → MU → Prop} {a : Nat} : Wp E 56 94 ls (.inr (.inr (.inl a)) :: st) g μ Q = ((mKd g a).1 = 5 ∧ Wp E 56 97 ls (mRv (mRf g a 0) :: st) g μ Q) := Wp_getR k56_94 f5_10 (by decide) (by decide)
theorem k56_97 : mCode 56 97 = some (.getfield 133, 3) := by decide +kernel
theorem x56_97 {E : ME} {ls : MLs} {st : List MV} {g : MG} {μ : MU} {Q : Option MV → MG → MU → Prop} {a : Nat} : Wp E 56 97 ls (.inr (.inr (.inl a)) :: st) g μ Q = ((mKd g a).1 = 0 ∧ Wp E 56 100 ls (mRv (mRf g a 9) :: st) g μ Q) := Wp_getR k56_97 f5_133 (by decide) (by decide)
theorem k56_100 : mCode 56 100 = some (.iload 6, 2) := by decide +kernel
theorem x56_100 {E : ME} {ls : MLs} {st : List MV} {g : MG} {μ : MU} {Q : Option MV → MG → MU → Prop} {l0 l1 l2 l3 l4 l5 : Option MV} {v : Int} : Wp E 56 100 (l0 :: l1 :: l2 :: l3 :: l4 :: l5 :: some (.inl v) :: ls) st g μ Q = Wp E 56 102 (l0 :: l1 :: l2 :: l3 :: l4 :: l5 :: some (.inl v) :: ls) (.inl v :: st) g μ Q := Wp_nx k56_100 rfl
theorem k56_102 : mCode 56 102 = some (.iaload, 1) := by decide +kernel
theorem x56_102 {E : ME} {ls : MLs} {st : List MV} {g : MG} {μ : MU} {Q : Option MV → MG → MU → Prop} {a : Nat} {j : Int} : Wp E 56 102 ls (.inl j :: .inr (.inr (.inl a)) :: st) g μ Q = (((mKd g a).1 = 10 ∧ 0 ≤ j ∧ j < (mKd g a).2) ∧ Wp E 56 103 ls (.inl (μ a j.toNat) :: st) g μ Q) := Wp_ald k56_102 (fun _ => rfl)
theorem k56_103 : mCode 56 103 = some (.aload_n 0, 1) := by decide +kernel
theorem x56_103 {E : ME} {ls : MLs} {st : List MV} {g : MG} {μ : MU} {Q : Option MV → MG → MU → Prop} {v : Nat ⊕ Nat} : Wp E 56 103 (some (.inr (.inr v)) :: ls) st g μ Q = Wp E 56 104 (some (.inr (.inr v)) :: ls) (.inr (.inr v) :: st) g μ Q := Wp_nx k56_103 rfl
theorem k56_104 : mCode 56 104 = some (.getfield 10, 3) := by decide +kernel
theorem x56_104 {E : ME} {ls : MLs} {st : List MV} {g : MG} {μ : MU} {Q : Option MV → MG → MU → Prop} {a : Nat} : Wp E 56 104 ls (.inr (.inr (.inl a)) :: st) g μ Q = ((mKd g a).1 = 5 ∧ Wp E 56 107 ls (mRv (mRf g a 0) :: st) g μ Q) := Wp_getR k56_104 f5_10 (by decide) (by decide)
theorem k56_107 : mCode 56 107 = some (.getfield 136, 3) := by decide +kernel
theorem x56_107 {E : ME} {ls : MLs} {st : List MV} {g : MG} {μ : MU} {Q : Option MV → MG → MU → Prop} {a : Nat} : Wp E 56 107 ls (.inr (.inr (.inl a)) :: st) g μ Q = ((mKd g a).1 = 0 ∧ Wp E 56 110 ls (mRv (mRf g a 10) :: st) g μ Q) := Wp_getR k56_107 f5_136 (by decide) (by decide)
theorem k56_110 : mCode 56 110 = some (.iload 6, 2) := by decide +kernel
theorem x56_110 {E : ME} {ls : MLs} {st : List MV} {g : MG} {μ : MU} {Q : Option MV → MG → MU → Prop} {l0 l1 l2 l3 l4 l5 : Option MV} {v : Int} : Wp E 56 110 (l0 :: l1 :: l2 :: l3 :: l4 :: l5 :: some (.inl v) :: ls) st g μ Q = Wp E 56 112 (l0 :: l1 :: l2 :: l3 :: l4 :: l5 :: some (.inl v) :: ls) (.inl v :: st) g μ Q := Wp_nx k56_110 rfl
theorem k56_112 : mCode 56 112 = some (.iaload, 1) := by decide +kernel
theorem x56_112 {E : ME} {ls : MLs} {st : List MV} {g : MG} {μ : MU} {Q : Option MV → MG → MU → Prop} {a : Nat} {j : Int} : Wp E 56 112 ls (.inl j :: .inr (.inr (.inl a)) :: st) g μ Q = (((mKd g a).1 = 10 ∧ 0 ≤ j ∧ j < (mKd g a).2) ∧ Wp E 56 113 ls (.inl (μ a j.toNat) :: st) g μ Q) := Wp_ald k56_112 (fun _ => rfl)
theorem k56_113 : mCode 56 113 = some (.invokevirtual 219, 3) := by decide +kernel
theorem x56_113 {E : ME} {ls : MLs} {st : List MV} {g : MG} {μ : MU} {Q : Option MV → MG → MU → Prop} {r : Nat} {a0 : Nat ⊕ Nat} {a1 : Int} {a2 : Int} : Wp E 56 113 ls (.inl a2 :: .inl a1 :: .inr (.inr a0) :: .inr (.inr (.inl r)) :: st) g μ Q = ((st.length ≤ 4 ∧ ((mKd g r).1 == 4) = true) ∧ Wp E 37 0 [some (.inr (.inr (.inl r))), some (.inr (.inr a0)), some (.inl a1), some (.inl a2), none, none, none] [] g μ (fun r g' μ' => (g'.1 = g.1 ∧ g'.2.1 = g.2.1) ∧ Wp E 56 116 ls (mPush r st) g' μ' Q)) := Wp_cV k56_113 m5_219 (by decide) (as := [.inr (.inr (.inl r)), .inr (.inr a0), .inl a1, .inl a2]) rfl rfl rfl ⟨Nat.le_of_ble_eq_true rfl, by decide⟩
theorem k56_116 : mCode 56 116 = some (.aload 4, 2) := by decide +kernel
theorem x56_116 {E : ME} {ls : MLs} {st : List MV} {g : MG} {μ : MU} {Q : Option MV → MG → MU → Prop} {l0 l1 l2 l3 : Option MV} {v : Nat ⊕ Nat} : Wp E 56 116 (l0 :: l1 :: l2 :: l3 :: some (.inr (.inr v)) :: ls) st g μ Q = Wp E 56 118 (l0 :: l1 :: l2 :: l3 :: some (.inr (.inr v)) :: ls) (.inr (.inr v) :: st) g μ Q := Wp_nx k56_116 rfl
theorem k56_118 : mCode 56 118 = some (.getfield 213, 3) := by decide +kernel
theorem x56_118 {E : ME} {ls : MLs} {st : List MV} {g : MG} {μ : MU} {Q : Option MV → MG → MU → Prop} {a : Nat} : Wp E 56 118 ls (.inr (.inr (.inl a)) :: st) g μ Q = ((mKd g a).1 = 4 ∧ Wp E 56 121 ls (mRv (mRf g a 0) :: st) g μ Q) := Wp_getR k56_118 f5_213 (by decide) (by decide)
theorem k56_121 : mCode 56 121 = some (.iload_n 2, 1) := by decide +kernel
theorem x56_121 {E : ME} {ls : MLs} {st : List MV} {g : MG} {μ : MU} {Q : Option MV → MG → MU → Prop} {l0 l1 : Option MV} {v : Int} : Wp E 56 121 (l0 :: l1 :: some (.inl v) :: ls) st g μ Q = Wp E 56 122 (l0 :: l1 :: some (.inl v) :: ls) (.inl v :: st) g μ Q := Wp_nx k56_121 rfl
theorem k56_122 : mCode 56 122 = some (.iaload, 1) := by decide +kernel
theorem x56_122 {E : ME} {ls : MLs} {st : List MV} {g : MG} {μ : MU} {Q : Option MV → MG → MU → Prop} {a : Nat} {j : Int} : Wp E 56 122 ls (.inl j :: .inr (.inr (.inl a)) :: st) g μ Q = (((mKd g a).1 = 10 ∧ 0 ≤ j ∧ j < (mKd g a).2) ∧ Wp E 56 123 ls (.inl (μ a j.toNat) :: st) g μ Q) := Wp_ald k56_122 (fun _ => rfl)
theorem k56_123 : mCode 56 123 = some (.iload 7, 2) := by decide +kernel
theorem x56_123 {E : ME} {ls : MLs} {st : List MV} {g : MG} {μ : MU} {Q : Option MV → MG → MU → Prop} {l0 l1 l2 l3 l4 l5 l6 : Option MV} {v : Int} : Wp E 56 123 (l0 :: l1 :: l2 :: l3 :: l4 :: l5 :: l6 :: some (.inl v) :: ls) st g μ Q = Wp E 56 125 (l0 :: l1 :: l2 :: l3 :: l4 :: l5 :: l6 :: some (.inl v) :: ls) (.inl v :: st) g μ Q := Wp_nx k56_123 rfl
theorem k56_125 : mCode 56 125 = some (.if_icmp .eq 29, 3) := by decide +kernel
theorem x56_125 {E : ME} {ls : MLs} {st : List MV} {g : MG} {μ : MU} {Q : Option MV → MG → MU → Prop} {a b : Int} : Wp E 56 125 ls (.inl b :: .inl a :: st) g μ Q = ((a = b → Wp E 56 154 ls st g μ Q) ∧ (¬ a = b → Wp E 56 128 ls st g μ Q)) := Wp_cmp_eq k56_125 (by decide)
theorem k56_128 : mCode 56 128 = some (.iload_n 3, 1) := by decide +kernel
theorem x56_128 {E : ME} {ls : MLs} {st : List MV} {g : MG} {μ : MU} {Q : Option MV → MG → MU → Prop} {l0 l1 l2 : Option MV} {v : Int} : Wp E 56 128 (l0 :: l1 :: l2 :: some (.inl v) :: ls) st g μ Q = Wp E 56 129 (l0 :: l1 :: l2 :: some (.inl v) :: ls) (.inl v :: st) g μ Q := Wp_nx k56_128 rfl
theorem k56_129 : mCode 56 129 = some (.iload 8, 2) := by decide +kernel
theorem x56_129 {E : ME} {ls : MLs} {st : List MV} {g : MG} {μ : MU} {Q : Option MV → MG → MU → Prop} {l0 l1 l2 l3 l4 l5 l6 l7 : Option MV} {v : Int} : Wp E 56 129 (l0 :: l1 :: l2 :: l3 :: l4 :: l5 :: l6 :: l7 :: some (.inl v) :: ls) st g μ Q = Wp E 56 131 (l0 :: l1 :: l2 :: l3 :: l4 :: l5 :: l6 :: l7 :: some (.inl v) :: ls) (.inl v :: st) g μ Q := Wp_nx k56_129 rfl
theorem k56_131 : mCode 56 131 = some (.aload_n 0, 1) := by decide +kernel
theorem x56_131 {E : ME} {ls : MLs} {st : List MV} {g : MG} {μ : MU} {Q : Option MV → MG → MU → Prop} {v : Nat ⊕ Nat} : Wp E 56 131 (some (.inr (.inr v)) :: ls) st g μ Q = Wp E 56 132 (some (.inr (.inr v)) :: ls) (.inr (.inr v) :: st) g μ Q := Wp_nx k56_131 rfl
theorem k56_132 : mCode 56 132 = some (.getfield 10, 3) := by decide +kernel
theorem x56_132 {E : ME} {ls : MLs} {st : List MV} {g : MG} {μ : MU} {Q : Option MV → MG → MU → Prop} {a : Nat} : Wp E 56 132 ls (.inr (.inr (.inl a)) :: st) g μ Q = ((mKd g a).1 = 5 ∧ Wp E 56 135 ls (mRv (mRf g a 0) :: st) g μ Q) := Wp_getR k56_132 f5_10 (by decide) (by decide)
theorem k56_135 : mCode 56 135 = some (.iload 7, 2) := by decide +kernel
theorem x56_135 {E : ME} {ls : MLs} {st : List MV} {g : MG} {μ : MU} {Q : Option MV → MG → MU → Prop} {l0 l1 l2 l3 l4 l5 l6 : Option MV} {v : Int} : Wp E 56 135 (l0 :: l1 :: l2 :: l3 :: l4 :: l5 :: l6 :: some (.inl v) :: ls) st g μ Q = Wp E 56 137 (l0 :: l1 :: l2 :: l3 :: l4 :: l5 :: l6 :: some (.inl v) :: ls) (.inl v :: st) g μ Q := Wp_nx k56_135 rfl
theorem k56_137 : mCode 56 137 = some (.aload 4, 2) := by decide +kernel
theorem x56_137 {E : ME} {ls : MLs} {st : List MV} {g : MG} {μ : MU} {Q : Option MV → MG → MU → Prop} {l0 l1 l2 l3 : Option MV} {v : Nat ⊕ Nat} : Wp E 56 137 (l0 :: l1 :: l2 :: l3 :: some (.inr (.inr v)) :: ls) st g μ Q = Wp E 56 139 (l0 :: l1 :: l2 :: l3 :: some (.inr (.inr v)) :: ls) (.inr (.inr v) :: st) g μ Q := Wp_nx k56_137 rfl
theorem k56_139 : mCode 56 139 = some (.getfield 213, 3) := by decide +kernel
theorem x56_139 {E : ME} {ls : MLs} {st : List MV} {g : MG} {μ : MU} {Q : Option MV → MG → MU → Prop} {a : Nat} : Wp E 56 139 ls (.inr (.inr (.inl a)) :: st) g μ Q = ((mKd g a).1 = 4 ∧ Wp E 56 142 ls (mRv (mRf g a 0) :: st) g μ Q) := Wp_getR k56_139 f5_213 (by decide) (by decide)
theorem k56_142 : mCode 56 142 = some (.iload_n 2, 1) := by decide +kernel
theorem x56_142 {E : ME} {ls : MLs} {st : List MV} {g : MG} {μ : MU} {Q : Option MV → MG → MU → Prop} {l0 l1 : Option MV} {v : Int} : Wp E 56 142 (l0 :: l1 :: some (.inl v) :: ls) st g μ Q = Wp E 56 143 (l0 :: l1 :: some (.inl v) :: ls) (.inl v :: st) g μ Q := Wp_nx k56_142 rfl
theorem k56_143 : mCode 56 143 = some (.iaload, 1) := by decide +kernel
theorem x56_143 {E : ME} {ls : MLs} {st : List MV} {g : MG} {μ : MU} {Q : Option MV → MG → MU → Prop} {a : Nat} {j : Int} : Wp E 56 143 ls (.inl j :: .inr (.inr (.inl a)) :: st) g μ Q = (((mKd g a).1 = 10 ∧ 0 ≤ j ∧ j < (mKd g a).2) ∧ Wp E 56 144 ls (.inl (μ a j.toNat) :: st) g μ Q) := Wp_ald k56_143 (fun _ => rfl)
theorem k56_144 : mCode 56 144 = some (.invokevirtual 223, 3) := by decide +kernel
theorem x56_144 {E : ME} {ls : MLs} {st : List MV} {g : MG} {μ : MU} {Q : Option MV → MG → MU → Prop} {r : Nat} {a0 : Int} {a1 : Int} : Wp E 56 144 ls (.inl a1 :: .inl a0 :: .inr (.inr (.inl r)) :: st) g μ Q = ((st.length ≤ 4 ∧ ((mKd g r).1 == 0) = true) ∧ Wp E 5 0 [some (.inr (.inr (.inl r))), some (.inl a0), some (.inl a1)] [] g μ (fun r g' μ' => (g'.1 = g.1 ∧ g'.2.1 = g.2.1) ∧ Wp E 56 147 ls (mPush r st) g' μ' Q)) := Wp_cV k56_144 m5_223 (by decide) (as := [.inr (.inr (.inl r)), .inl a0, .inl a1]) rfl rfl rfl ⟨Nat.le_of_ble_eq_true rfl, by decide⟩
theorem k56_147 : mCode 56 147 = some (.iadd, 1) := by decide +kernel
theorem x56_147 {E : ME} {ls : MLs} {st : List MV} {g : MG} {μ : MU} {Q : Option MV → MG → MU → Prop} {a b : Int} : Wp E 56 147 ls (.inl b :: .inl a :: st) g μ Q = Wp E 56 148 ls (.inl (mWr (a + b)) :: st) g μ Q := Wp_nx k56_147 rfl
theorem k56_148 : mCode 56 148 = some (.if_icmp .ge 6, 3) := by decide +kernel
theorem x56_148 {E : ME} {ls : MLs} {st : List MV} {g : MG} {μ : MU} {Q : Option MV → MG → MU → Prop} {a b : Int} : Wp E 56 148 ls (.inl b :: .inl a :: st) g μ Q = ((b ≤ a → Wp E 56 154 ls st g μ Q) ∧ (a < b → Wp E 56 151 ls st g μ Q)) := Wp_cmp_ge k56_148 (by decide)
theorem k56_151 : mCode 56 151 = some (.bipush (-6), 2) := by decide +kernel
theorem x56_151 {E : ME} {ls : MLs} {st : List MV} {g : MG} {μ : MU} {Q : Option MV → MG → MU → Prop} : Wp E 56 151 ls st g μ Q = Wp E 56 153 ls (.inl (-6) :: st) g μ Q := Wp_nx k56_151 rfl
theorem k56_153 : mCode 56 153 = some (.ireturn, 1) := by decide +kernel
theorem x56_153 {E : ME} {ls : MLs} {g : MG} {μ : MU} {Q : Option MV → MG → MU → Prop} {v : Int} : Wp E 56 153 ls [.inl v] g μ Q = Q (some (.inl v)) g μ := Wp_retI k56_153 (by decide)
theorem k56_154 : mCode 56 154 = some (.iinc 5 1, 3) := by decide +kernel
theorem x56_154 {E : ME} {ls : MLs} {st : List MV} {g : MG} {μ : MU} {Q : Option MV → MG → MU → Prop} {l0 l1 l2 l3 l4 : Option MV} {v : Int} : Wp E 56 154 (l0 :: l1 :: l2 :: l3 :: l4 :: some (.inl v) :: ls) st g μ Q = (mNl (some l4) = true ∧ Wp E 56 157 (l0 :: l1 :: l2 :: l3 :: l4 :: some (.inl (mWr (v + 1))) :: ls) st g μ Q) := Wp_inc k56_154 rfl rfl rfl
theorem k56_157 : mCode 56 157 = some (.goto (-138), 3) := by decide +kernel
theorem x56_157 {E : ME} {ls : MLs} {st : List MV} {g : MG} {μ : MU} {Q : Option MV → MG → MU → Prop} : Wp E 56 157 ls st g μ Q = Wp E 56 19 ls st g μ Q := Wp_goto k56_157 (by decide)
theorem k56_160 : mCode 56 160 = some (.aload 4, 2) := by decide +kernel
theorem x56_160 {E : ME} {ls : MLs} {st : List MV} {g : MG} {μ : MU} {Q : Option MV → MG → MU → Prop} {l0 l1 l2 l3 : Option MV} {v : Nat ⊕ Nat} : Wp E 56 160 (l0 :: l1 :: l2 :: l3 :: some (.inr (.inr v)) :: ls) st g μ Q = Wp E 56 162 (l0 :: l1 :: l2 :: l3 :: some (.inr (.inr v)) :: ls) (.inr (.inr v) :: st) g μ Q := Wp_nx k56_160 rfl
theorem k56_162 : mCode 56 162 = some (.getfield 213, 3) := by decide +kernel
theorem x56_162 {E : ME} {ls : MLs} {st : List MV} {g : MG} {μ : MU} {Q : Option MV → MG → MU → Prop} {a : Nat} : Wp E 56 162 ls (.inr (.inr (.inl a)) :: st) g μ Q = ((mKd g a).1 = 4 ∧ Wp E 56 165 ls (mRv (mRf g a 0) :: st) g μ Q) := Wp_getR k56_162 f5_213 (by decide) (by decide)
theorem k56_165 : mCode 56 165 = some (.iload_n 2, 1) := by decide +kernel
theorem x56_165 {E : ME} {ls : MLs} {st : List MV} {g : MG} {μ : MU} {Q : Option MV → MG → MU → Prop} {l0 l1 : Option MV} {v : Int} : Wp E 56 165 (l0 :: l1 :: some (.inl v) :: ls) st g μ Q = Wp E 56 166 (l0 :: l1 :: some (.inl v) :: ls) (.inl v :: st) g μ Q := Wp_nx k56_165 rfl
theorem k56_166 : mCode 56 166 = some (.iaload, 1) := by decide +kernel
theorem x56_166 {E : ME} {ls : MLs} {st : List MV} {g : MG} {μ : MU} {Q : Option MV → MG → MU → Prop} {a : Nat} {j : Int} : Wp E 56 166 ls (.inl j :: .inr (.inr (.inl a)) :: st) g μ Q = (((mKd g a).1 = 10 ∧ 0 ≤ j ∧ j < (mKd g a).2) ∧ Wp E 56 167 ls (.inl (μ a j.toNat) :: st) g μ Q) := Wp_ald k56_166 (fun _ => rfl)
theorem k56_167 : mCode 56 167 = some (.ireturn, 1) := by decide +kernel
theorem x56_167 {E : ME} {ls : MLs} {g : MG} {μ : MU} {Q : Option MV → MG → MU → Prop} {v : Int} : Wp E 56 167 ls [.inl v] g μ Q = Q (some (.inl v)) g μ := Wp_retI k56_167 (by decide)
theorem k57_0 : mCode 57 0 = some (.iconst 0, 1) := by decide +kernel
theorem x57_0 {E : ME} {ls : MLs} {st : List MV} {g : MG} {μ : MU} {Q : Option MV → MG → MU → Prop} : Wp E 57 0 ls st g μ Q = Wp E 57 1 ls (.inl 0 :: st) g μ Q := Wp_nx k57_0 rfl
theorem k57_1 : mCode 57 1 = some (.istore_n 3, 1) := by decide +kernel
theorem x57_1 {E : ME} {ls : MLs} {st : List MV} {g : MG} {μ : MU} {Q : Option MV → MG → MU → Prop} {l0 l1 l2 : Option MV} {lk : Option MV} {v : Int} : Wp E 57 1 (l0 :: l1 :: l2 :: lk :: ls) (.inl v :: st) g μ Q = ((mNl (some l2) = true ∧ mNl (some lk) = true) ∧ Wp E 57 2 (l0 :: l1 :: l2 :: some (.inl v) :: ls) st g μ Q) := Wp_sti k57_1 (fun _ => rfl) rfl rfl rfl
theorem k57_2 : mCode 57 2 = some (.iconst 0, 1) := by decide +kernel
theorem x57_2 {E : ME} {ls : MLs} {st : List MV} {g : MG} {μ : MU} {Q : Option MV → MG → MU → Prop} : Wp E 57 2 ls st g μ Q = Wp E 57 3 ls (.inl 0 :: st) g μ Q := Wp_nx k57_2 rfl
theorem k57_3 : mCode 57 3 = some (.istore 4, 2) := by decide +kernel
theorem x57_3 {E : ME} {ls : MLs} {st : List MV} {g : MG} {μ : MU} {Q : Option MV → MG → MU → Prop} {l0 l1 l2 l3 : Option MV} {lk : Option MV} {v : Int} : Wp E 57 3 (l0 :: l1 :: l2 :: l3 :: lk :: ls) (.inl v :: st) g μ Q = ((mNl (some l3) = true ∧ mNl (some lk) = true) ∧ Wp E 57 5 (l0 :: l1 :: l2 :: l3 :: some (.inl v) :: ls) st g μ Q) := Wp_sti k57_3 (fun _ => rfl) rfl rfl rfl
theorem k57_5 : mCode 57 5 = some (.iload 4, 2) := by decide +kernel
theorem x57_5 {E : ME} {ls : MLs} {st : List MV} {g : MG} {μ : MU} {Q : Option MV → MG → MU → Prop} {l0 l1 l2 l3 : Option MV} {v : Int} : Wp E 57 5 (l0 :: l1 :: l2 :: l3 :: some (.inl v) :: ls) st g μ Q = Wp E 57 7 (l0 :: l1 :: l2 :: l3 :: some (.inl v) :: ls) (.inl v :: st) g μ Q := Wp_nx k57_5 rfl
theorem k57_7 : mCode 57 7 = some (.aload_n 0, 1) := by decide +kernel
theorem x57_7 {E : ME} {ls : MLs} {st : List MV} {g : MG} {μ : MU} {Q : Option MV → MG → MU → Prop} {v : Nat ⊕ Nat} : Wp E 57 7 (some (.inr (.inr v)) :: ls) st g μ Q = Wp E 57 8 (some (.inr (.inr v)) :: ls) (.inr (.inr v) :: st) g μ Q := Wp_nx k57_7 rfl
theorem k57_8 : mCode 57 8 = some (.getfield 10, 3) := by decide +kernel
theorem x57_8 {E : ME} {ls : MLs} {st : List MV} {g : MG} {μ : MU} {Q : Option MV → MG → MU → Prop} {a : Nat} : Wp E 57 8 ls (.inr (.inr (.inl a)) :: st) g μ Q = ((mKd g a).1 = 5 ∧ Wp E 57 11 ls (mRv (mRf g a 0) :: st) g μ Q) := Wp_getR k57_8 f5_10 (by decide) (by decide)
theorem k57_11 : mCode 57 11 = some (.getfield 181, 3) := by decide +kernel
theorem x57_11 {E : ME} {ls : MLs} {st : List MV} {g : MG} {μ : MU} {Q : Option MV → MG → MU → Prop} {a : Nat} : Wp E 57 11 ls (.inr (.inr (.inl a)) :: st) g μ Q = ((mKd g a).1 = 0 ∧ Wp E 57 14 ls (.inl (μ a 7) :: st) g μ Q) := Wp_getI k57_11 f5_181 (by decide) (by decide)
theorem k57_14 : mCode 57 14 = some (.if_icmp .ge 20, 3) := by decide +kernel
theorem x57_14 {E : ME} {ls : MLs} {st : List MV} {g : MG} {μ : MU} {Q : Option MV → MG → MU → Prop} {a b : Int} : Wp E 57 14 ls (.inl b :: .inl a :: st) g μ Q = ((b ≤ a → Wp E 57 34 ls st g μ Q) ∧ (a < b → Wp E 57 17 ls st g μ Q)) := Wp_cmp_ge k57_14 (by decide)
theorem k57_17 : mCode 57 17 = some (.aload_n 1, 1) := by decide +kernel
theorem x57_17 {E : ME} {ls : MLs} {st : List MV} {g : MG} {μ : MU} {Q : Option MV → MG → MU → Prop} {l0 : Option MV} {v : Nat ⊕ Nat} : Wp E 57 17 (l0 :: some (.inr (.inr v)) :: ls) st g μ Q = Wp E 57 18 (l0 :: some (.inr (.inr v)) :: ls) (.inr (.inr v) :: st) g μ Q := Wp_nx k57_17 rfl
theorem k57_18 : mCode 57 18 = some (.iload 4, 2) := by decide +kernel
theorem x57_18 {E : ME} {ls : MLs} {st : List MV} {g : MG} {μ : MU} {Q : Option MV → MG → MU → Prop} {l0 l1 l2 l3 : Option MV} {v : Int} : Wp E 57 18 (l0 :: l1 :: l2 :: l3 :: some (.inl v) :: ls) st g μ Q = Wp E 57 20 (l0 :: l1 :: l2 :: l3 :: some (.inl v) :: ls) (.inl v :: st) g μ Q := Wp_nx k57_18 rfl
theorem k57_20 : mCode 57 20 = some (.iaload, 1) := by decide +kernel
theorem x57_20 {E : ME} {ls : MLs} {st : List MV} {g : MG} {μ : MU} {Q : Option MV → MG → MU → Prop} {a : Nat} {j : Int} : Wp E 57 20 ls (.inl j :: .inr (.inr (.inl a)) :: st) g μ Q = (((mKd g a).1 = 10 ∧ 0 ≤ j ∧ j < (mKd g a).2) ∧ Wp E 57 21 ls (.inl (μ a j.toNat) :: st) g μ Q) := Wp_ald k57_20 (fun _ => rfl)
theorem k57_21 : mCode 57 21 = some (.iload_n 2, 1) := by decide +kernel
theorem x57_21 {E : ME} {ls : MLs} {st : List MV} {g : MG} {μ : MU} {Q : Option MV → MG → MU → Prop} {l0 l1 : Option MV} {v : Int} : Wp E 57 21 (l0 :: l1 :: some (.inl v) :: ls) st g μ Q = Wp E 57 22 (l0 :: l1 :: some (.inl v) :: ls) (.inl v :: st) g μ Q := Wp_nx k57_21 rfl
theorem k57_22 : mCode 57 22 = some (.if_icmp .ne 6, 3) := by decide +kernel
theorem x57_22 {E : ME} {ls : MLs} {st : List MV} {g : MG} {μ : MU} {Q : Option MV → MG → MU → Prop} {a b : Int} : Wp E 57 22 ls (.inl b :: .inl a :: st) g μ Q = ((¬ a = b → Wp E 57 28 ls st g μ Q) ∧ (a = b → Wp E 57 25 ls st g μ Q)) := Wp_cmp_ne k57_22 (by decide)
theorem k57_25 : mCode 57 25 = some (.iinc 3 1, 3) := by decide +kernel
theorem x57_25 {E : ME} {ls : MLs} {st : List MV} {g : MG} {μ : MU} {Q : Option MV → MG → MU → Prop} {l0 l1 l2 : Option MV} {v : Int} : Wp E 57 25 (l0 :: l1 :: l2 :: some (.inl v) :: ls) st g μ Q = (mNl (some l2) = true ∧ Wp E 57 28 (l0 :: l1 :: l2 :: some (.inl (mWr (v + 1))) :: ls) st g μ Q) := Wp_inc k57_25 rfl rfl rfl
theorem k57_28 : mCode 57 28 = some (.iinc 4 1, 3) := by decide +kernel
theorem x57_28 {E : ME} {ls : MLs} {st : List MV} {g : MG} {μ : MU} {Q : Option MV → MG → MU → Prop} {l0 l1 l2 l3 : Option MV} {v : Int} : Wp E 57 28 (l0 :: l1 :: l2 :: l3 :: some (.inl v) :: ls) st g μ Q = (mNl (some l3) = true ∧ Wp E 57 31 (l0 :: l1 :: l2 :: l3 :: some (.inl (mWr (v + 1))) :: ls) st g μ Q) := Wp_inc k57_28 rfl rfl rfl
theorem k57_31 : mCode 57 31 = some (.goto (-26), 3) := by decide +kernel
theorem x57_31 {E : ME} {ls : MLs} {st : List MV} {g : MG} {μ : MU} {Q : Option MV → MG → MU → Prop} : Wp E 57 31 ls st g μ Q = Wp E 57 5 ls st g μ Q := Wp_goto k57_31 (by decide)
theorem k57_34 : mCode 57 34 = some (.iload_n 3, 1) := by decide +kernel
theorem x57_34 {E : ME} {ls : MLs} {st : List MV} {g : MG} {μ : MU} {Q : Option MV → MG → MU → Prop} {l0 l1 l2 : Option MV} {v : Int} : Wp E 57 34 (l0 :: l1 :: l2 :: some (.inl v) :: ls) st g μ Q = Wp E 57 35 (l0 :: l1 :: l2 :: some (.inl v) :: ls) (.inl v :: st) g μ Q := Wp_nx k57_34 rfl
theorem k57_35 : mCode 57 35 = some (.ireturn, 1) := by decide +kernel
theorem x57_35 {E : ME} {ls : MLs} {g : MG} {μ : MU} {Q : Option MV → MG → MU → Prop} {v : Int} : Wp E 57 35 ls [.inl v] g μ Q = Q (some (.inl v)) g μ := Wp_retI k57_35 (by decide)
theorem k58_0 : mCode 58 0 = some (.iconst 0, 1) := by decide +kernel
theorem x58_0 {E : ME} {ls : MLs} {st : List MV} {g : MG} {μ : MU} {Q : Option MV → MG → MU → Prop} : Wp E 58 0 ls st g μ Q = Wp E 58 1 ls (.inl 0 :: st) g μ Q := Wp_nx k58_0 rfl
theorem k58_1 : mCode 58 1 = some (.istore 4, 2) := by decide +kernel
theorem x58_1 {E : ME} {ls : MLs} {st : List MV} {g : MG} {μ : MU} {Q : Option MV → MG → MU → Prop} {l0 l1 l2 l3 : Option MV} {lk : Option MV} {v : Int} : Wp E 58 1 (l0 :: l1 :: l2 :: l3 :: lk :: ls) (.inl v :: st) g μ Q = ((mNl (some l3) = true ∧ mNl (some lk) = true) ∧ Wp E 58 3 (l0 :: l1 :: l2 :: l3 :: some (.inl v) :: ls) st g μ Q) := Wp_sti k58_1 (fun _ => rfl) rfl rfl rfl
theorem k58_3 : mCode 58 3 = some (.iconst 0, 1) := by decide +kernel
theorem x58_3 {E : ME} {ls : MLs} {st : List MV} {g : MG} {μ : MU} {Q : Option MV → MG → MU → Prop} : Wp E 58 3 ls st g μ Q = Wp E 58 4 ls (.inl 0 :: st) g μ Q := Wp_nx k58_3 rfl
theorem k58_4 : mCode 58 4 = some (.istore 5, 2) := by decide +kernel
theorem x58_4 {E : ME} {ls : MLs} {st : List MV} {g : MG} {μ : MU} {Q : Option MV → MG → MU → Prop} {l0 l1 l2 l3 l4 : Option MV} {lk : Option MV} {v : Int} : Wp E 58 4 (l0 :: l1 :: l2 :: l3 :: l4 :: lk :: ls) (.inl v :: st) g μ Q = ((mNl (some l4) = true ∧ mNl (some lk) = true) ∧ Wp E 58 6 (l0 :: l1 :: l2 :: l3 :: l4 :: some (.inl v) :: ls) st g μ Q) := Wp_sti k58_4 (fun _ => rfl) rfl rfl rfl
theorem k58_6 : mCode 58 6 = some (.iload 5, 2) := by decide +kernel
theorem x58_6 {E : ME} {ls : MLs} {st : List MV} {g : MG} {μ : MU} {Q : Option MV → MG → MU → Prop} {l0 l1 l2 l3 l4 : Option MV} {v : Int} : Wp E 58 6 (l0 :: l1 :: l2 :: l3 :: l4 :: some (.inl v) :: ls) st g μ Q = Wp E 58 8 (l0 :: l1 :: l2 :: l3 :: l4 :: some (.inl v) :: ls) (.inl v :: st) g μ Q := Wp_nx k58_6 rfl
theorem k58_8 : mCode 58 8 = some (.aload_n 0, 1) := by decide +kernel
theorem x58_8 {E : ME} {ls : MLs} {st : List MV} {g : MG} {μ : MU} {Q : Option MV → MG → MU → Prop} {v : Nat ⊕ Nat} : Wp E 58 8 (some (.inr (.inr v)) :: ls) st g μ Q = Wp E 58 9 (some (.inr (.inr v)) :: ls) (.inr (.inr v) :: st) g μ Q := Wp_nx k58_8 rfl
theorem k58_9 : mCode 58 9 = some (.getfield 10, 3) := by decide +kernel
theorem x58_9 {E : ME} {ls : MLs} {st : List MV} {g : MG} {μ : MU} {Q : Option MV → MG → MU → Prop} {a : Nat} : Wp E 58 9 ls (.inr (.inr (.inl a)) :: st) g μ Q = ((mKd g a).1 = 5 ∧ Wp E 58 12 ls (mRv (mRf g a 0) :: st) g μ Q) := Wp_getR k58_9 f5_10 (by decide) (by decide)
theorem k58_12 : mCode 58 12 = some (.getfield 181, 3) := by decide +kernel
theorem x58_12 {E : ME} {ls : MLs} {st : List MV} {g : MG} {μ : MU} {Q : Option MV → MG → MU → Prop} {a : Nat} : Wp E 58 12 ls (.inr (.inr (.inl a)) :: st) g μ Q = ((mKd g a).1 = 0 ∧ Wp E 58 15 ls (.inl (μ a 7) :: st) g μ Q) := Wp_getI k58_12 f5_181 (by decide) (by decide)
theorem k58_15 : mCode 58 15 = some (.if_icmp .ge 26, 3) := by decide +kernel
theorem x58_15 {E : ME} {ls : MLs} {st : List MV} {g : MG} {μ : MU} {Q : Option MV → MG → MU → Prop} {a b : Int} : Wp E 58 15 ls (.inl b :: .inl a :: st) g μ Q = ((b ≤ a → Wp E 58 41 ls st g μ Q) ∧ (a < b → Wp E 58 18 ls st g μ Q)) := Wp_cmp_ge k58_15 (by decide)
theorem k58_18 : mCode 58 18 = some (.aload_n 2, 1) := by decide +kernel
theorem x58_18 {E : ME} {ls : MLs} {st : List MV} {g : MG} {μ : MU} {Q : Option MV → MG → MU → Prop} {l0 l1 : Option MV} {v : Nat ⊕ Nat} : Wp E 58 18 (l0 :: l1 :: some (.inr (.inr v)) :: ls) st g μ Q = Wp E 58 19 (l0 :: l1 :: some (.inr (.inr v)) :: ls) (.inr (.inr v) :: st) g μ Q := Wp_nx k58_18 rfl
theorem k58_19 : mCode 58 19 = some (.iload 5, 2) := by decide +kernel
theorem x58_19 {E : ME} {ls : MLs} {st : List MV} {g : MG} {μ : MU} {Q : Option MV → MG → MU → Prop} {l0 l1 l2 l3 l4 : Option MV} {v : Int} : Wp E 58 19 (l0 :: l1 :: l2 :: l3 :: l4 :: some (.inl v) :: ls) st g μ Q = Wp E 58 21 (l0 :: l1 :: l2 :: l3 :: l4 :: some (.inl v) :: ls) (.inl v :: st) g μ Q := Wp_nx k58_19 rfl
theorem k58_21 : mCode 58 21 = some (.iaload, 1) := by decide +kernel
theorem x58_21 {E : ME} {ls : MLs} {st : List MV} {g : MG} {μ : MU} {Q : Option MV → MG → MU → Prop} {a : Nat} {j : Int} : Wp E 58 21 ls (.inl j :: .inr (.inr (.inl a)) :: st) g μ Q = (((mKd g a).1 = 10 ∧ 0 ≤ j ∧ j < (mKd g a).2) ∧ Wp E 58 22 ls (.inl (μ a j.toNat) :: st) g μ Q) := Wp_ald k58_21 (fun _ => rfl)
theorem k58_22 : mCode 58 22 = some (.iload_n 3, 1) := by decide +kernel
theorem x58_22 {E : ME} {ls : MLs} {st : List MV} {g : MG} {μ : MU} {Q : Option MV → MG → MU → Prop} {l0 l1 l2 : Option MV} {v : Int} : Wp E 58 22 (l0 :: l1 :: l2 :: some (.inl v) :: ls) st g μ Q = Wp E 58 23 (l0 :: l1 :: l2 :: some (.inl v) :: ls) (.inl v :: st) g μ Q := Wp_nx k58_22 rfl
theorem k58_23 : mCode 58 23 = some (.if_icmp .ne 12, 3) := by decide +kernel
theorem x58_23 {E : ME} {ls : MLs} {st : List MV} {g : MG} {μ : MU} {Q : Option MV → MG → MU → Prop} {a b : Int} : Wp E 58 23 ls (.inl b :: .inl a :: st) g μ Q = ((¬ a = b → Wp E 58 35 ls st g μ Q) ∧ (a = b → Wp E 58 26 ls st g μ Q)) := Wp_cmp_ne k58_23 (by decide)
theorem k58_26 : mCode 58 26 = some (.iload 4, 2) := by decide +kernel
theorem x58_26 {E : ME} {ls : MLs} {st : List MV} {g : MG} {μ : MU} {Q : Option MV → MG → MU → Prop} {l0 l1 l2 l3 : Option MV} {v : Int} : Wp E 58 26 (l0 :: l1 :: l2 :: l3 :: some (.inl v) :: ls) st g μ Q = Wp E 58 28 (l0 :: l1 :: l2 :: l3 :: some (.inl v) :: ls) (.inl v :: st) g μ Q := Wp_nx k58_26 rfl
theorem k58_28 : mCode 58 28 = some (.aload_n 1, 1) := by decide +kernel
theorem x58_28 {E : ME} {ls : MLs} {st : List MV} {g : MG} {μ : MU} {Q : Option MV → MG → MU → Prop} {l0 : Option MV} {v : Nat ⊕ Nat} : Wp E 58 28 (l0 :: some (.inr (.inr v)) :: ls) st g μ Q = Wp E 58 29 (l0 :: some (.inr (.inr v)) :: ls) (.inr (.inr v) :: st) g μ Q := Wp_nx k58_28 rfl
theorem k58_29 : mCode 58 29 = some (.iload 5, 2) := by decide +kernel
theorem x58_29 {E : ME} {ls : MLs} {st : List MV} {g : MG} {μ : MU} {Q : Option MV → MG → MU → Prop} {l0 l1 l2 l3 l4 : Option MV} {v : Int} : Wp E 58 29 (l0 :: l1 :: l2 :: l3 :: l4 :: some (.inl v) :: ls) st g μ Q = Wp E 58 31 (l0 :: l1 :: l2 :: l3 :: l4 :: some (.inl v) :: ls) (.inl v :: st) g μ Q := Wp_nx k58_29 rfl
theorem k58_31 : mCode 58 31 = some (.iaload, 1) := by decide +kernel
theorem x58_31 {E : ME} {ls : MLs} {st : List MV} {g : MG} {μ : MU} {Q : Option MV → MG → MU → Prop} {a : Nat} {j : Int} : Wp E 58 31 ls (.inl j :: .inr (.inr (.inl a)) :: st) g μ Q = (((mKd g a).1 = 10 ∧ 0 ≤ j ∧ j < (mKd g a).2) ∧ Wp E 58 32 ls (.inl (μ a j.toNat) :: st) g μ Q) := Wp_ald k58_31 (fun _ => rfl)
theorem k58_32 : mCode 58 32 = some (.iadd, 1) := by decide +kernel
theorem x58_32 {E : ME} {ls : MLs} {st : List MV} {g : MG} {μ : MU} {Q : Option MV → MG → MU → Prop} {a b : Int} : Wp E 58 32 ls (.inl b :: .inl a :: st) g μ Q = Wp E 58 33 ls (.inl (mWr (a + b)) :: st) g μ Q := Wp_nx k58_32 rfl
theorem k58_33 : mCode 58 33 = some (.istore 4, 2) := by decide +kernel
theorem x58_33 {E : ME} {ls : MLs} {st : List MV} {g : MG} {μ : MU} {Q : Option MV → MG → MU → Prop} {l0 l1 l2 l3 : Option MV} {lk : Option MV} {v : Int} : Wp E 58 33 (l0 :: l1 :: l2 :: l3 :: lk :: ls) (.inl v :: st) g μ Q = ((mNl (some l3) = true ∧ mNl (some lk) = true) ∧ Wp E 58 35 (l0 :: l1 :: l2 :: l3 :: some (.inl v) :: ls) st g μ Q) := Wp_sti k58_33 (fun _ => rfl) rfl rfl rfl
theorem k58_35 : mCode 58 35 = some (.iinc 5 1, 3) := by decide +kernel
theorem x58_35 {E : ME} {ls : MLs} {st : List MV} {g : MG} {μ : MU} {Q : Option MV → MG → MU → Prop} {l0 l1 l2 l3 l4 : Option MV} {v : Int} : Wp E 58 35 (l0 :: l1 :: l2 :: l3 :: l4 :: some (.inl v) :: ls) st g μ Q = (mNl (some l4) = true ∧ Wp E 58 38 (l0 :: l1 :: l2 :: l3 :: l4 :: some (.inl (mWr (v + 1))) :: ls) st g μ Q) := Wp_inc k58_35 rfl rfl rfl
theorem k58_38 : mCode 58 38 = some (.goto (-32), 3) := by decide +kernel
theorem x58_38 {E : ME} {ls : MLs} {st : List MV} {g : MG} {μ : MU} {Q : Option MV → MG → MU → Prop} : Wp E 58 38 ls st g μ Q = Wp E 58 6 ls st g μ Q := Wp_goto k58_38 (by decide)
theorem k58_41 : mCode 58 41 = some (.iload 4, 2) := by decide +kernel
theorem x58_41 {E : ME} {ls : MLs} {st : List MV} {g : MG} {μ : MU} {Q : Option MV → MG → MU → Prop} {l0 l1 l2 l3 : Option MV} {v : Int} : Wp E 58 41 (l0 :: l1 :: l2 :: l3 :: some (.inl v) :: ls) st g μ Q = Wp E 58 43 (l0 :: l1 :: l2 :: l3 :: some (.inl v) :: ls) (.inl v :: st) g μ Q := Wp_nx k58_41 rfl
theorem k58_43 : mCode 58 43 = some (.ireturn, 1) := by decide +kernel
theorem x58_43 {E : ME} {ls : MLs} {g : MG} {μ : MU} {Q : Option MV → MG → MU → Prop} {v : Int} : Wp E 58 43 ls [.inl v] g μ Q = Q (some (.inl v)) g μ := Wp_retI k58_43 (by decide)
theorem k59_0 : mCode 59 0 = some (.iconst 0, 1) := by decide +kernel
theorem x59_0 {E : ME} {ls : MLs} {st : List MV} {g : MG} {μ : MU} {Q : Option MV → MG → MU → Prop} : Wp E 59 0 ls st g μ Q = Wp E 59 1 ls (.inl 0 :: st) g μ Q := Wp_nx k59_0 rfl
theorem k59_1 : mCode 59 1 = some (.istore_n 2, 1) := by decide +kernel
theorem x59_1 {E : ME} {ls : MLs} {st : List MV} {g : MG} {μ : MU} {Q : Option MV → MG → MU → Prop} {l0 l1 : Option MV} {lk : Option MV} {v : Int} : Wp E 59 1 (l0 :: l1 :: lk :: ls) (.inl v :: st) g μ Q = ((mNl (some l1) = true ∧ mNl (some lk) = true) ∧ Wp E 59 2 (l0 :: l1 :: some (.inl v) :: ls) st g μ Q) := Wp_sti k59_1 (fun _ => rfl) rfl rfl rfl
theorem k59_2 : mCode 59 2 = some (.iconst 0, 1) := by decide +kernel
theorem x59_2 {E : ME} {ls : MLs} {st : List MV} {g : MG} {μ : MU} {Q : Option MV → MG → MU → Prop} : Wp E 59 2 ls st g μ Q = Wp E 59 3 ls (.inl 0 :: st) g μ Q := Wp_nx k59_2 rfl
theorem k59_3 : mCode 59 3 = some (.istore_n 3, 1) := by decide +kernel
theorem x59_3 {E : ME} {ls : MLs} {st : List MV} {g : MG} {μ : MU} {Q : Option MV → MG → MU → Prop} {l0 l1 l2 : Option MV} {lk : Option MV} {v : Int} : Wp E 59 3 (l0 :: l1 :: l2 :: lk :: ls) (.inl v :: st) g μ Q = ((mNl (some l2) = true ∧ mNl (some lk) = true) ∧ Wp E 59 4 (l0 :: l1 :: l2 :: some (.inl v) :: ls) st g μ Q) := Wp_sti k59_3 (fun _ => rfl) rfl rfl rfl
theorem k59_4 : mCode 59 4 = some (.iload_n 3, 1) := by decide +kernel
theorem x59_4 {E : ME} {ls : MLs} {st : List MV} {g : MG} {μ : MU} {Q : Option MV → MG → MU → Prop} {l0 l1 l2 : Option MV} {v : Int} : Wp E 59 4 (l0 :: l1 :: l2 :: some (.inl v) :: ls) st g μ Q = Wp E 59 5 (l0 :: l1 :: l2 :: some (.inl v) :: ls) (.inl v :: st) g μ Q := Wp_nx k59_4 rfl
theorem k59_5 : mCode 59 5 = some (.iload_n 1, 1) := by decide +kernel
theorem x59_5 {E : ME} {ls : MLs} {st : List MV} {g : MG} {μ : MU} {Q : Option MV → MG → MU → Prop} {l0 : Option MV} {v : Int} : Wp E 59 5 (l0 :: some (.inl v) :: ls) st g μ Q = Wp E 59 6 (l0 :: some (.inl v) :: ls) (.inl v :: st) g μ Q := Wp_nx k59_5 rfl
theorem k59_6 : mCode 59 6 = some (.if_icmp .ge 15, 3) := by decide +kernel
theorem x59_6 {E : ME} {ls : MLs} {st : List MV} {g : MG} {μ : MU} {Q : Option MV → MG → MU → Prop} {a b : Int} : Wp E 59 6 ls (.inl b :: .inl a :: st) g μ Q = ((b ≤ a → Wp E 59 21 ls st g μ Q) ∧ (a < b → Wp E 59 9 ls st g μ Q)) := Wp_cmp_ge k59_6 (by decide)
theorem k59_9 : mCode 59 9 = some (.iload_n 2, 1) := by decide +kernel
theorem x59_9 {E : ME} {ls : MLs} {st : List MV} {g : MG} {μ : MU} {Q : Option MV → MG → MU → Prop} {l0 l1 : Option MV} {v : Int} : Wp E 59 9 (l0 :: l1 :: some (.inl v) :: ls) st g μ Q = Wp E 59 10 (l0 :: l1 :: some (.inl v) :: ls) (.inl v :: st) g μ Q := Wp_nx k59_9 rfl
theorem k59_10 : mCode 59 10 = some (.aload_n 0, 1) := by decide +kernel
theorem x59_10 {E : ME} {ls : MLs} {st : List MV} {g : MG} {μ : MU} {Q : Option MV → MG → MU → Prop} {v : Nat ⊕ Nat} : Wp E 59 10 (some (.inr (.inr v)) :: ls) st g μ Q = Wp E 59 11 (some (.inr (.inr v)) :: ls) (.inr (.inr v) :: st) g μ Q := Wp_nx k59_10 rfl
theorem k59_11 : mCode 59 11 = some (.iload_n 3, 1) := by decide +kernel
theorem x59_11 {E : ME} {ls : MLs} {st : List MV} {g : MG} {μ : MU} {Q : Option MV → MG → MU → Prop} {l0 l1 l2 : Option MV} {v : Int} : Wp E 59 11 (l0 :: l1 :: l2 :: some (.inl v) :: ls) st g μ Q = Wp E 59 12 (l0 :: l1 :: l2 :: some (.inl v) :: ls) (.inl v :: st) g μ Q := Wp_nx k59_11 rfl
theorem k59_12 : mCode 59 12 = some (.iaload, 1) := by decide +kernel
theorem x59_12 {E : ME} {ls : MLs} {st : List MV} {g : MG} {μ : MU} {Q : Option MV → MG → MU → Prop} {a : Nat} {j : Int} : Wp E 59 12 ls (.inl j :: .inr (.inr (.inl a)) :: st) g μ Q = (((mKd g a).1 = 10 ∧ 0 ≤ j ∧ j < (mKd g a).2) ∧ Wp E 59 13 ls (.inl (μ a j.toNat) :: st) g μ Q) := Wp_ald k59_12 (fun _ => rfl)
theorem k59_13 : mCode 59 13 = some (.iadd, 1) := by decide +kernel
theorem x59_13 {E : ME} {ls : MLs} {st : List MV} {g : MG} {μ : MU} {Q : Option MV → MG → MU → Prop} {a b : Int} : Wp E 59 13 ls (.inl b :: .inl a :: st) g μ Q = Wp E 59 14 ls (.inl (mWr (a + b)) :: st) g μ Q := Wp_nx k59_13 rfl
theorem k59_14 : mCode 59 14 = some (.istore_n 2, 1) := by decide +kernel
theorem x59_14 {E : ME} {ls : MLs} {st : List MV} {g : MG} {μ : MU} {Q : Option MV → MG → MU → Prop} {l0 l1 : Option MV} {lk : Option MV} {v : Int} : Wp E 59 14 (l0 :: l1 :: lk :: ls) (.inl v :: st) g μ Q = ((mNl (some l1) = true ∧ mNl (some lk) = true) ∧ Wp E 59 15 (l0 :: l1 :: some (.inl v) :: ls) st g μ Q) := Wp_sti k59_14 (fun _ => rfl) rfl rfl rfl
theorem k59_15 : mCode 59 15 = some (.iinc 3 1, 3) := by decide +kernel
theorem x59_15 {E : ME} {ls : MLs} {st : List MV} {g : MG} {μ : MU} {Q : Option MV → MG → MU → Prop} {l0 l1 l2 : Option MV} {v : Int} : Wp E 59 15 (l0 :: l1 :: l2 :: some (.inl v) :: ls) st g μ Q = (mNl (some l2) = true ∧ Wp E 59 18 (l0 :: l1 :: l2 :: some (.inl (mWr (v + 1))) :: ls) st g μ Q) := Wp_inc k59_15 rfl rfl rfl
theorem k59_18 : mCode 59 18 = some (.goto (-14), 3) := by decide +kernel
theorem x59_18 {E : ME} {ls : MLs} {st : List MV} {g : MG} {μ : MU} {Q : Option MV → MG → MU → Prop} : Wp E 59 18 ls st g μ Q = Wp E 59 4 ls st g μ Q := Wp_goto k59_18 (by decide)
theorem k59_21 : mCode 59 21 = some (.iload_n 2, 1) := by decide +kernel
theorem x59_21 {E : ME} {ls : MLs} {st : List MV} {g : MG} {μ : MU} {Q : Option MV → MG → MU → Prop} {l0 l1 : Option MV} {v : Int} : Wp E 59 21 (l0 :: l1 :: some (.inl v) :: ls) st g μ Q = Wp E 59 22 (l0 :: l1 :: some (.inl v) :: ls) (.inl v :: st) g μ Q := Wp_nx k59_21 rfl
theorem k59_22 : mCode 59 22 = some (.ireturn, 1) := by decide +kernel
theorem x59_22 {E : ME} {ls : MLs} {g : MG} {μ : MU} {Q : Option MV → MG → MU → Prop} {v : Int} : Wp E 59 22 ls [.inl v] g μ Q = Q (some (.inl v)) g μ := Wp_retI k59_22 (by decide)
theorem k60_0 : mCode 60 0 = some (.aload_n 0, 1) := by decide +kernel
theorem x60_0 {E : ME} {ls : MLs} {st : List MV} {g : MG} {μ : MU} {Q : Option MV → MG → MU → Prop} {v : Nat ⊕ Nat} : Wp E 60 0 (some (.inr (.inr v)) :: ls) st g μ Q = Wp E 60 1 (some (.inr (.inr v)) :: ls) (.inr (.inr v) :: st) g μ Q := Wp_nx k60_0 rfl
theorem k60_1 : mCode 60 1 = some (.getfield 10, 3) := by decide +kernel
theorem x60_1 {E : ME} {ls : MLs} {st : List MV} {g : MG} {μ : MU} {Q : Option MV → MG → MU → Prop} {a : Nat} : Wp E 60 1 ls (.inr (.inr (.inl a)) :: st) g μ Q = ((mKd g a).1 = 5 ∧ Wp E 60 4 ls (mRv (mRf g a 0) :: st) g μ Q) := Wp_getR k60_1 f5_10 (by decide) (by decide)
theorem k60_4 : mCode 60 4 = some (.iload_n 1, 1) := by decide +kernel
theorem x60_4 {E : ME} {ls : MLs} {st : List MV} {g : MG} {μ : MU} {Q : Option MV → MG → MU → Prop} {l0 : Option MV} {v : Int} : Wp E 60 4 (l0 :: some (.inl v) :: ls) st g μ Q = Wp E 60 5 (l0 :: some (.inl v) :: ls) (.inl v :: st) g μ Q := Wp_nx k60_4 rfl
theorem k60_5 : mCode 60 5 = some (.invokevirtual 97, 3) := by decide +kernel
theorem x60_5 {E : ME} {ls : MLs} {st : List MV} {g : MG} {μ : MU} {Q : Option MV → MG → MU → Prop} {r : Nat} {a0 : Int} : Wp E 60 5 ls (.inl a0 :: .inr (.inr (.inl r)) :: st) g μ Q = ((st.length ≤ 4 ∧ ((mKd g r).1 == 0) = true) ∧ Wp E 2 0 [some (.inr (.inr (.inl r))), some (.inl a0)] [] g μ (fun r g' μ' => (g'.1 = g.1 ∧ g'.2.1 = g.2.1) ∧ Wp E 60 8 ls (mPush r st) g' μ' Q)) := Wp_cV k60_5 m5_97 (by decide) (as := [.inr (.inr (.inl r)), .inl a0]) rfl rfl rfl ⟨Nat.le_of_ble_eq_true rfl, by decide⟩
theorem k60_8 : mCode 60 8 = some (.ifCond .eq 10, 3) := by decide +kernel
theorem x60_8 {E : ME} {ls : MLs} {st : List MV} {g : MG} {μ : MU} {Q : Option MV → MG → MU → Prop} {a : Int} : Wp E 60 8 ls (.inl a :: st) g μ Q = ((a = 0 → Wp E 60 18 ls st g μ Q) ∧ (¬ a = 0 → Wp E 60 11 ls st g μ Q)) := Wp_if_eq k60_8 (by decide)
theorem k60_11 : mCode 60 11 = some (.iload_n 2, 1) := by decide +kernel
theorem x60_11 {E : ME} {ls : MLs} {st : List MV} {g : MG} {μ : MU} {Q : Option MV → MG → MU → Prop} {l0 l1 : Option MV} {v : Int} : Wp E 60 11 (l0 :: l1 :: some (.inl v) :: ls) st g μ Q = Wp E 60 12 (l0 :: l1 :: some (.inl v) :: ls) (.inl v :: st) g μ Q := Wp_nx k60_11 rfl
theorem k60_12 : mCode 60 12 = some (.invokestatic 203, 3) := by decide +kernel
theorem x60_12 {E : ME} {ls : MLs} {st : List MV} {g : MG} {μ : MU} {Q : Option MV → MG → MU → Prop} {a0 : Int} : Wp E 60 12 ls (.inl a0 :: st) g μ Q = (st.length ≤ 4 ∧ Wp E 75 0 [some (.inl a0)] [] g μ (fun r g' μ' => (g'.1 = g.1 ∧ g'.2.1 = g.2.1) ∧ Wp E 60 15 ls (mPush r st) g' μ' Q)) := Wp_cS k60_12 m5_203 (by decide) (as := [.inl a0]) rfl rfl rfl ⟨Nat.le_of_ble_eq_true rfl, by decide⟩
theorem k60_15 : mCode 60 15 = some (.ifCond .ne 5, 3) := by decide +kernel
theorem x60_15 {E : ME} {ls : MLs} {st : List MV} {g : MG} {μ : MU} {Q : Option MV → MG → MU → Prop} {a : Int} : Wp E 60 15 ls (.inl a :: st) g μ Q = ((¬ a = 0 → Wp E 60 20 ls st g μ Q) ∧ (a = 0 → Wp E 60 18 ls st g μ Q)) := Wp_if_ne k60_15 (by decide)
theorem k60_18 : mCode 60 18 = some (.iconst (-1), 1) := by decide +kernel
theorem x60_18 {E : ME} {ls : MLs} {st : List MV} {g : MG} {μ : MU} {Q : Option MV → MG → MU → Prop} : Wp E 60 18 ls st g μ Q = Wp E 60 19 ls (.inl (-1) :: st) g μ Q := Wp_nx k60_18 rfl
theorem k60_19 : mCode 60 19 = some (.ireturn, 1) := by decide +kernel
theorem x60_19 {E : ME} {ls : MLs} {g : MG} {μ : MU} {Q : Option MV → MG → MU → Prop} {v : Int} : Wp E 60 19 ls [.inl v] g μ Q = Q (some (.inl v)) g μ := Wp_retI k60_19 (by decide)
theorem k60_20 : mCode 60 20 = some (.iload_n 3, 1) := by decide +kernel
theorem x60_20 {E : ME} {ls : MLs} {st : List MV} {g : MG} {μ : MU} {Q : Option MV → MG → MU → Prop} {l0 l1 l2 : Option MV} {v : Int} : Wp E 60 20 (l0 :: l1 :: l2 :: some (.inl v) :: ls) st g μ Q = Wp E 60 21 (l0 :: l1 :: l2 :: some (.inl v) :: ls) (.inl v :: st) g μ Q := Wp_nx k60_20 rfl
theorem k60_21 : mCode 60 21 = some (.iconst 0, 1) := by decide +kernel
theorem x60_21 {E : ME} {ls : MLs} {st : List MV} {g : MG} {μ : MU} {Q : Option MV → MG → MU → Prop} : Wp E 60 21 ls st g μ Q = Wp E 60 22 ls (.inl 0 :: st) g μ Q := Wp_nx k60_21 rfl
theorem k60_22 : mCode 60 22 = some (.sipush 1439, 3) := by decide +kernel
theorem x60_22 {E : ME} {ls : MLs} {st : List MV} {g : MG} {μ : MU} {Q : Option MV → MG → MU → Prop} : Wp E 60 22 ls st g μ Q = Wp E 60 25 ls (.inl 1439 :: st) g μ Q := Wp_nx k60_22 rfl
theorem k60_25 : mCode 60 25 = some (.invokestatic 170, 3) := by decide +kernel
theorem x60_25 {E : ME} {ls : MLs} {st : List MV} {g : MG} {μ : MU} {Q : Option MV → MG → MU → Prop} {a0 : Int} {a1 : Int} {a2 : Int} : Wp E 60 25 ls (.inl a2 :: .inl a1 :: .inl a0 :: st) g μ Q = (st.length ≤ 4 ∧ Wp E 74 0 [some (.inl a0), some (.inl a1), some (.inl a2)] [] g μ (fun r g' μ' => (g'.1 = g.1 ∧ g'.2.1 = g.2.1) ∧ Wp E 60 28 ls (mPush r st) g' μ' Q)) := Wp_cS k60_25 m5_170 (by decide) (as := [.inl a0, .inl a1, .inl a2]) rfl rfl rfl ⟨Nat.le_of_ble_eq_true rfl, by decide⟩
theorem k60_28 : mCode 60 28 = some (.ifCond .ne 6, 3) := by decide +kernel
theorem x60_28 {E : ME} {ls : MLs} {st : List MV} {g : MG} {μ : MU} {Q : Option MV → MG → MU → Prop} {a : Int} : Wp E 60 28 ls (.inl a :: st) g μ Q = ((¬ a = 0 → Wp E 60 34 ls st g μ Q) ∧ (a = 0 → Wp E 60 31 ls st g μ Q)) := Wp_if_ne k60_28 (by decide)
theorem k60_31 : mCode 60 31 = some (.bipush (-2), 2) := by decide +kernel
theorem x60_31 {E : ME} {ls : MLs} {st : List MV} {g : MG} {μ : MU} {Q : Option MV → MG → MU → Prop} : Wp E 60 31 ls st g μ Q = Wp E 60 33 ls (.inl (-2) :: st) g μ Q := Wp_nx k60_31 rfl
theorem k60_33 : mCode 60 33 = some (.ireturn, 1) := by decide +kernel
theorem x60_33 {E : ME} {ls : MLs} {g : MG} {μ : MU} {Q : Option MV → MG → MU → Prop} {v : Int} : Wp E 60 33 ls [.inl v] g μ Q = Q (some (.inl v)) g μ := Wp_retI k60_33 (by decide)
theorem k60_34 : mCode 60 34 = some (.aload_n 0, 1) := by decide +kernel
theorem x60_34 {E : ME} {ls : MLs} {st : List MV} {g : MG} {μ : MU} {Q : Option MV → MG → MU → Prop} {v : Nat ⊕ Nat} : Wp E 60 34 (some (.inr (.inr v)) :: ls) st g μ Q = Wp E 60 35 (some (.inr (.inr v)) :: ls) (.inr (.inr v) :: st) g μ Q := Wp_nx k60_34 rfl
theorem k60_35 : mCode 60 35 = some (.getfield 10, 3) := by decide +kernel
theorem x60_35 {E : ME} {ls : MLs} {st : List MV} {g : MG} {μ : MU} {Q : Option MV → MG → MU → Prop} {a : Nat} : Wp E 60 35 ls (.inr (.inr (.inl a)) :: st) g μ Q = ((mKd g a).1 = 5 ∧ Wp E 60 38 ls (mRv (mRf g a 0) :: st) g μ Q) := Wp_getR k60_35 f5_10 (by decide) (by decide)
theorem k60_38 : mCode 60 38 = some (.getfield 181, 3) := by decide +kernel
theorem x60_38 {E : ME} {ls : MLs} {st : List MV} {g : MG} {μ : MU} {Q : Option MV → MG → MU → Prop} {a : Nat} : Wp E 60 38 ls (.inr (.inr (.inl a)) :: st) g μ Q = ((mKd g a).1 = 0 ∧ Wp E 60 41 ls (.inl (μ a 7) :: st) g μ Q) := Wp_getI k60_38 f5_181 (by decide) (by decide)
theorem k60_41 : mCode 60 41 = some (.bipush 20, 2) := by decide +kernel
theorem x60_41 {E : ME} {ls : MLs} {st : List MV} {g : MG} {μ : MU} {Q : Option MV → MG → MU → Prop} : Wp E 60 41 ls st g μ Q = Wp E 60 43 ls (.inl 20 :: st) g μ Q := Wp_nx k60_41 rfl
theorem k60_43 : mCode 60 43 = some (.if_icmp .lt 6, 3) := by decide +kernel
theorem x60_43 {E : ME} {ls : MLs} {st : List MV} {g : MG} {μ : MU} {Q : Option MV → MG → MU → Prop} {a b : Int} : Wp E 60 43 ls (.inl b :: .inl a :: st) g μ Q = ((a < b → Wp E 60 49 ls st g μ Q) ∧ (b ≤ a → Wp E 60 46 ls st g μ Q)) := Wp_cmp_lt k60_43 (by decide)
theorem k60_46 : mCode 60 46 = some (.bipush (-4), 2) := by decide +kernel
theorem x60_46 {E : ME} {ls : MLs} {st : List MV} {g : MG} {μ : MU} {Q : Option MV → MG → MU → Prop} : Wp E 60 46 ls st g μ Q = Wp E 60 48 ls (.inl (-4) :: st) g μ Q := Wp_nx k60_46 rfl
theorem k60_48 : mCode 60 48 = some (.ireturn, 1) := by decide +kernel
theorem x60_48 {E : ME} {ls : MLs} {g : MG} {μ : MU} {Q : Option MV → MG → MU → Prop} {v : Int} : Wp E 60 48 ls [.inl v] g μ Q = Q (some (.inl v)) g μ := Wp_retI k60_48 (by decide)
theorem k60_49 : mCode 60 49 = some (.aload_n 0, 1) := by decide +kernel
theorem x60_49 {E : ME} {ls : MLs} {st : List MV} {g : MG} {μ : MU} {Q : Option MV → MG → MU → Prop} {v : Nat ⊕ Nat} : Wp E 60 49 (some (.inr (.inr v)) :: ls) st g μ Q = Wp E 60 50 (some (.inr (.inr v)) :: ls) (.inr (.inr v) :: st) g μ Q := Wp_nx k60_49 rfl
theorem k60_50 : mCode 60 50 = some (.getfield 19, 3) := by decide +kernel
theorem x60_50 {E : ME} {ls : MLs} {st : List MV} {g : MG} {μ : MU} {Q : Option MV → MG → MU → Prop} {a : Nat} : Wp E 60 50 ls (.inr (.inr (.inl a)) :: st) g μ Q = ((mKd g a).1 = 5 ∧ Wp E 60 53 ls (mRv (mRf g a 1) :: st) g μ Q) := Wp_getR k60_50 f5_19 (by decide) (by decide)
theorem k60_53 : mCode 60 53 = some (.aload_n 0, 1) := by decide +kernel
theorem x60_53 {E : ME} {ls : MLs} {st : List MV} {g : MG} {μ : MU} {Q : Option MV → MG → MU → Prop} {v : Nat ⊕ Nat} : Wp E 60 53 (some (.inr (.inr v)) :: ls) st g μ Q = Wp E 60 54 (some (.inr (.inr v)) :: ls) (.inr (.inr v) :: st) g μ Q := Wp_nx k60_53 rfl
theorem k60_54 : mCode 60 54 = some (.getfield 10, 3) := by decide +kernel
theorem x60_54 {E : ME} {ls : MLs} {st : List MV} {g : MG} {μ : MU} {Q : Option MV → MG → MU → Prop} {a : Nat} : Wp E 60 54 ls (.inr (.inr (.inl a)) :: st) g μ Q = ((mKd g a).1 = 5 ∧ Wp E 60 57 ls (mRv (mRf g a 0) :: st) g μ Q) := Wp_getR k60_54 f5_10 (by decide) (by decide)
theorem k60_57 : mCode 60 57 = some (.invokevirtual 100, 3) := by decide +kernel
theorem x60_57 {E : ME} {ls : MLs} {st : List MV} {g : MG} {μ : MU} {Q : Option MV → MG → MU → Prop} {r : Nat} {a0 : Nat ⊕ Nat} : Wp E 60 57 ls (.inr (.inr a0) :: .inr (.inr (.inl r)) :: st) g μ Q = ((st.length ≤ 4 ∧ ((mKd g r).1 == 3) = true) ∧ Wp E 28 0 [some (.inr (.inr (.inl r))), some (.inr (.inr a0)), none] [] g μ (fun r g' μ' => (g'.1 = g.1 ∧ g'.2.1 = g.2.1) ∧ Wp E 60 60 ls (mPush r st) g' μ' Q)) := Wp_cV k60_57 m5_100 (by decide) (as := [.inr (.inr (.inl r)), .inr (.inr a0)]) rfl rfl rfl ⟨Nat.le_of_ble_eq_true rfl, by decide⟩
theorem k60_60 : mCode 60 60 = some (.aload_n 0, 1) := by decide +kernel
theorem x60_60 {E : ME} {ls : MLs} {st : List MV} {g : MG} {μ : MU} {Q : Option MV → MG → MU → Prop} {v : Nat ⊕ Nat} : Wp E 60 60 (some (.inr (.inr v)) :: ls) st g μ Q = Wp E 60 61 (some (.inr (.inr v)) :: ls) (.inr (.inr v) :: st) g μ Q := Wp_nx k60_60 rfl
theorem k60_61 : mCode 60 61 = some (.getfield 51, 3) := by decide +kernel
theorem x60_61 {E : ME} {ls : MLs} {st : List MV} {g : MG} {μ : MU} {Q : Option MV → MG → MU → Prop} {a : Nat} : Wp E 60 61 ls (.inr (.inr (.inl a)) :: st) g μ Q = ((mKd g a).1 = 5 ∧ Wp E 60 64 ls (mRv (mRf g a 7) :: st) g μ Q) := Wp_getR k60_61 f5_51 (by decide) (by decide)
theorem k60_64 : mCode 60 64 = some (.aload_n 0, 1) := by decide +kernel
theorem x60_64 {E : ME} {ls : MLs} {st : List MV} {g : MG} {μ : MU} {Q : Option MV → MG → MU → Prop} {v : Nat ⊕ Nat} : Wp E 60 64 (some (.inr (.inr v)) :: ls) st g μ Q = Wp E 60 65 (some (.inr (.inr v)) :: ls) (.inr (.inr v) :: st) g μ Q := Wp_nx k60_64 rfl
theorem k60_65 : mCode 60 65 = some (.getfield 10, 3) := by decide +kernel
theorem x60_65 {E : ME} {ls : MLs} {st : List MV} {g : MG} {μ : MU} {Q : Option MV → MG → MU → Prop} {a : Nat} : Wp E 60 65 ls (.inr (.inr (.inl a)) :: st) g μ Q = ((mKd g a).1 = 5 ∧ Wp E 60 68 ls (mRv (mRf g a 0) :: st) g μ Q) := Wp_getR k60_65 f5_10 (by decide) (by decide)
theorem k60_68 : mCode 60 68 = some (.iload_n 1, 1) := by decide +kernel
theorem x60_68 {E : ME} {ls : MLs} {st : List MV} {g : MG} {μ : MU} {Q : Option MV → MG → MU → Prop} {l0 : Option MV} {v : Int} : Wp E 60 68 (l0 :: some (.inl v) :: ls) st g μ Q = Wp E 60 69 (l0 :: some (.inl v) :: ls) (.inl v :: st) g μ Q := Wp_nx k60_68 rfl
theorem k60_69 : mCode 60 69 = some (.invokevirtual 206, 3) := by decide +kernel
theorem x60_69 {E : ME} {ls : MLs} {st : List MV} {g : MG} {μ : MU} {Q : Option MV → MG → MU → Prop} {r : Nat} {a0 : Nat ⊕ Nat} {a1 : Int} : Wp E 60 69 ls (.inl a1 :: .inr (.inr a0) :: .inr (.inr (.inl r)) :: st) g μ Q = ((st.length ≤ 4 ∧ ((mKd g r).1 == 4) = true) ∧ Wp E 35 0 [some (.inr (.inr (.inl r))), some (.inr (.inr a0)), some (.inl a1)] [] g μ (fun r g' μ' => (g'.1 = g.1 ∧ g'.2.1 = g.2.1) ∧ Wp E 60 72 ls (mPush r st) g' μ' Q)) := Wp_cV k60_69 m5_206 (by decide) (as := [.inr (.inr (.inl r)), .inr (.inr a0), .inl a1]) rfl rfl rfl ⟨Nat.le_of_ble_eq_true rfl, by decide⟩
theorem k60_72 : mCode 60 72 = some (.iconst 0, 1) := by decide +kernel
theorem x60_72 {E : ME} {ls : MLs} {st : List MV} {g : MG} {μ : MU} {Q : Option MV → MG → MU → Prop} : Wp E 60 72 ls st g μ Q = Wp E 60 73 ls (.inl 0 :: st) g μ Q := Wp_nx k60_72 rfl
theorem k60_73 : mCode 60 73 = some (.istore 4, 2) := by decide +kernel
theorem x60_73 {E : ME} {ls : MLs} {st : List MV} {g : MG} {μ : MU} {Q : Option MV → MG → MU → Prop} {l0 l1 l2 l3 : Option MV} {lk : Option MV} {v : Int} : Wp E 60 73 (l0 :: l1 :: l2 :: l3 :: lk :: ls) (.inl v :: st) g μ Q = ((mNl (some l3) = true ∧ mNl (some lk) = true) ∧ Wp E 60 75 (l0 :: l1 :: l2 :: l3 :: some (.inl v) :: ls) st g μ Q) := Wp_sti k60_73 (fun _ => rfl) rfl rfl rfl
theorem k60_75 : mCode 60 75 = some (.iload_n 3, 1) := by decide +kernel
theorem x60_75 {E : ME} {ls : MLs} {st : List MV} {g : MG} {μ : MU} {Q : Option MV → MG → MU → Prop} {l0 l1 l2 : Option MV} {v : Int} : Wp E 60 75 (l0 :: l1 :: l2 :: some (.inl v) :: ls) st g μ Q = Wp E 60 76 (l0 :: l1 :: l2 :: some (.inl v) :: ls) (.inl v :: st) g μ Q := Wp_nx k60_75 rfl
theorem k60_76 : mCode 60 76 = some (.istore 5, 2) := by decide +kernel
theorem x60_76 {E : ME} {ls : MLs} {st : List MV} {g : MG} {μ : MU} {Q : Option MV → MG → MU → Prop} {l0 l1 l2 l3 l4 : Option MV} {lk : Option MV} {v : Int} : Wp E 60 76 (l0 :: l1 :: l2 :: l3 :: l4 :: lk :: ls) (.inl v :: st) g μ Q = ((mNl (some l4) = true ∧ mNl (some lk) = true) ∧ Wp E 60 78 (l0 :: l1 :: l2 :: l3 :: l4 :: some (.inl v) :: ls) st g μ Q) := Wp_sti k60_76 (fun _ => rfl) rfl rfl rfl
theorem k60_78 : mCode 60 78 = some (.iload 5, 2) := by decide +kernel
theorem x60_78 {E : ME} {ls : MLs} {st : List MV} {g : MG} {μ : MU} {Q : Option MV → MG → MU → Prop} {l0 l1 l2 l3 l4 : Option MV} {v : Int} : Wp E 60 78 (l0 :: l1 :: l2 :: l3 :: l4 :: some (.inl v) :: ls) st g μ Q = Wp E 60 80 (l0 :: l1 :: l2 :: l3 :: l4 :: some (.inl v) :: ls) (.inl v :: st) g μ Q := Wp_nx k60_78 rfl
theorem k60_80 : mCode 60 80 = some (.sipush 1439, 3) := by decide +kernel
theorem x60_80 {E : ME} {ls : MLs} {st : List MV} {g : MG} {μ : MU} {Q : Option MV → MG → MU → Prop} : Wp E 60 80 ls st g μ Q = Wp E 60 83 ls (.inl 1439 :: st) g μ Q := Wp_nx k60_80 rfl
theorem k60_83 : mCode 60 83 = some (.if_icmp .gt 78, 3) := by decide +kernel
theorem x60_83 {E : ME} {ls : MLs} {st : List MV} {g : MG} {μ : MU} {Q : Option MV → MG → MU → Prop} {a b : Int} : Wp E 60 83 ls (.inl b :: .inl a :: st) g μ Q = ((b < a → Wp E 60 161 ls st g μ Q) ∧ (a ≤ b → Wp E 60 86 ls st g μ Q)) := Wp_cmp_gt k60_83 (by decide)
theorem k60_86 : mCode 60 86 = some (.aload_n 0, 1) := by decide +kernel
theorem x60_86 {E : ME} {ls : MLs} {st : List MV} {g : MG} {μ : MU} {Q : Option MV → MG → MU → Prop} {v : Nat ⊕ Nat} : Wp E 60 86 (some (.inr (.inr v)) :: ls) st g μ Q = Wp E 60 87 (some (.inr (.inr v)) :: ls) (.inr (.inr v) :: st) g μ Q := Wp_nx k60_86 rfl
theorem k60_87 : mCode 60 87 = some (.iload 5, 2) := by decide +kernel
theorem x60_87 {E : ME} {ls : MLs} {st : List MV} {g : MG} {μ : MU} {Q : Option MV → MG → MU → Prop} {l0 l1 l2 l3 l4 : Option MV} {v : Int} : Wp E 60 87 (l0 :: l1 :: l2 :: l3 :: l4 :: some (.inl v) :: ls) st g μ Q = Wp E 60 89 (l0 :: l1 :: l2 :: l3 :: l4 :: some (.inl v) :: ls) (.inl v :: st) g μ Q := Wp_nx k60_87 rfl
theorem k60_89 : mCode 60 89 = some (.iload_n 1, 1) := by decide +kernel
theorem x60_89 {E : ME} {ls : MLs} {st : List MV} {g : MG} {μ : MU} {Q : Option MV → MG → MU → Prop} {l0 : Option MV} {v : Int} : Wp E 60 89 (l0 :: some (.inl v) :: ls) st g μ Q = Wp E 60 90 (l0 :: some (.inl v) :: ls) (.inl v :: st) g μ Q := Wp_nx k60_89 rfl
theorem k60_90 : mCode 60 90 = some (.iload 4, 2) := by decide +kernel
theorem x60_90 {E : ME} {ls : MLs} {st : List MV} {g : MG} {μ : MU} {Q : Option MV → MG → MU → Prop} {l0 l1 l2 l3 : Option MV} {v : Int} : Wp E 60 90 (l0 :: l1 :: l2 :: l3 :: some (.inl v) :: ls) st g μ Q = Wp E 60 92 (l0 :: l1 :: l2 :: l3 :: some (.inl v) :: ls) (.inl v :: st) g μ Q := Wp_nx k60_90 rfl
theorem k60_92 : mCode 60 92 = some (.invokevirtual 226, 3) := by decide +kernel
theorem x60_92 {E : ME} {ls : MLs} {st : List MV} {g : MG} {μ : MU} {Q : Option MV → MG → MU → Prop} {r : Nat} {a0 : Int} {a1 : Int} {a2 : Int} : Wp E 60 92 ls (.inl a2 :: .inl a1 :: .inl a0 :: .inr (.inr (.inl r)) :: st) g μ Q = ((st.length ≤ 4 ∧ ((mKd g r).1 == 5) = true) ∧ Wp E 62 0 [some (.inr (.inr (.inl r))), some (.inl a0), some (.inl a1), some (.inl a2), none, none] [] g μ (fun r g' μ' => (g'.1 = g.1 ∧ g'.2.1 = g.2.1) ∧ Wp E 60 95 ls (mPush r st) g' μ' Q)) := Wp_cV k60_92 m5_226 (by decide) (as := [.inr (.inr (.inl r)), .inl a0, .inl a1, .inl a2]) rfl rfl rfl ⟨Nat.le_of_ble_eq_true rfl, by decide⟩
theorem k60_95 : mCode 60 95 = some (.istore 4, 2) := by decide +kernel
theorem x60_95 {E : ME} {ls : MLs} {st : List MV} {g : MG} {μ : MU} {Q : Option MV → MG → MU → Prop} {l0 l1 l2 l3 : Option MV} {lk : Option MV} {v : Int} : Wp E 60 95 (l0 :: l1 :: l2 :: l3 :: lk :: ls) (.inl v :: st) g μ Q = ((mNl (some l3) = true ∧ mNl (some lk) = true) ∧ Wp E 60 97 (l0 :: l1 :: l2 :: l3 :: some (.inl v) :: ls) st g μ Q) := Wp_sti k60_95 (fun _ => rfl) rfl rfl rfl
theorem k60_97 : mCode 60 97 = some (.aload_n 0, 1) := by decide +kernel
theorem x60_97 {E : ME} {ls : MLs} {st : List MV} {g : MG} {μ : MU} {Q : Option MV → MG → MU → Prop} {v : Nat ⊕ Nat} : Wp E 60 97 (some (.inr (.inr v)) :: ls) st g μ Q = Wp E 60 98 (some (.inr (.inr v)) :: ls) (.inr (.inr v) :: st) g μ Q := Wp_nx k60_97 rfl
theorem k60_98 : mCode 60 98 = some (.getfield 55, 3) := by decide +kernel
theorem x60_98 {E : ME} {ls : MLs} {st : List MV} {g : MG} {μ : MU} {Q : Option MV → MG → MU → Prop} {a : Nat} : Wp E 60 98 ls (.inr (.inr (.inl a)) :: st) g μ Q = ((mKd g a).1 = 5 ∧ Wp E 60 101 ls (mRv (mRf g a 8) :: st) g μ Q) := Wp_getR k60_98 f5_55 (by decide) (by decide)
theorem k60_101 : mCode 60 101 = some (.aload_n 0, 1) := by decide +kernel
theorem x60_101 {E : ME} {ls : MLs} {st : List MV} {g : MG} {μ : MU} {Q : Option MV → MG → MU → Prop} {v : Nat ⊕ Nat} : Wp E 60 101 (some (.inr (.inr v)) :: ls) st g μ Q = Wp E 60 102 (some (.inr (.inr v)) :: ls) (.inr (.inr v) :: st) g μ Q := Wp_nx k60_101 rfl
theorem k60_102 : mCode 60 102 = some (.getfield 51, 3) := by decide +kernel
theorem x60_102 {E : ME} {ls : MLs} {st : List MV} {g : MG} {μ : MU} {Q : Option MV → MG → MU → Prop} {a : Nat} : Wp E 60 102 ls (.inr (.inr (.inl a)) :: st) g μ Q = ((mKd g a).1 = 5 ∧ Wp E 60 105 ls (mRv (mRf g a 7) :: st) g μ Q) := Wp_getR k60_102 f5_51 (by decide) (by decide)
theorem k60_105 : mCode 60 105 = some (.invokevirtual 229, 3) := by decide +kernel
theorem x60_105 {E : ME} {ls : MLs} {st : List MV} {g : MG} {μ : MU} {Q : Option MV → MG → MU → Prop} {r : Nat} {a0 : Nat ⊕ Nat} : Wp E 60 105 ls (.inr (.inr a0) :: .inr (.inr (.inl r)) :: st) g μ Q = ((st.length ≤ 4 ∧ ((mKd g r).1 == 4) = true) ∧ Wp E 36 0 [some (.inr (.inr (.inl r))), some (.inr (.inr a0))] [] g μ (fun r g' μ' => (g'.1 = g.1 ∧ g'.2.1 = g.2.1) ∧ Wp E 60 108 ls (mPush r st) g' μ' Q)) := Wp_cV k60_105 m5_229 (by decide) (as := [.inr (.inr (.inl r)), .inr (.inr a0)]) rfl rfl rfl ⟨Nat.le_of_ble_eq_true rfl, by decide⟩
theorem k60_108 : mCode 60 108 = some (.aload_n 0, 1) := by decide +kernel
theorem x60_108 {E : ME} {ls : MLs} {st : List MV} {g : MG} {μ : MU} {Q : Option MV → MG → MU → Prop} {v : Nat ⊕ Nat} : Wp E 60 108 (some (.inr (.inr v)) :: ls) st g μ Q = Wp E 60 109 (some (.inr (.inr v)) :: ls) (.inr (.inr v) :: st) g μ Q := Wp_nx k60_108 rfl
theorem k60_109 : mCode 60 109 = some (.getfield 55, 3) := by decide +kernel
theorem x60_109 {E : ME} {ls : MLs} {st : List MV} {g : MG} {μ : MU} {Q : Option MV → MG → MU → Prop} {a : Nat} : Wp E 60 109 ls (.inr (.inr (.inl a)) :: st) g μ Q = ((mKd g a).1 = 5 ∧ Wp E 60 112 ls (mRv (mRf g a 8) :: st) g μ Q) := Wp_getR k60_109 f5_55 (by decide) (by decide)
theorem k60_112 : mCode 60 112 = some (.aload_n 0, 1) := by decide +kernel
theorem x60_112 {E : ME} {ls : MLs} {st : List MV} {g : MG} {μ : MU} {Q : Option MV → MG → MU → Prop} {v : Nat ⊕ Nat} : Wp E 60 112 (some (.inr (.inr v)) :: ls) st g μ Q = Wp E 60 113 (some (.inr (.inr v)) :: ls) (.inr (.inr v) :: st) g μ Q := Wp_nx k60_112 rfl
theorem k60_113 : mCode 60 113 = some (.getfield 10, 3) := by decide +kernel
theorem x60_113 {E : ME} {ls : MLs} {st : List MV} {g : MG} {μ : MU} {Q : Option MV → MG → MU → Prop} {a : Nat} : Wp E 60 113 ls (.inr (.inr (.inl a)) :: st) g μ Q = ((mKd g a).1 = 5 ∧ Wp E 60 116 ls (mRv (mRf g a 0) :: st) g μ Q) := Wp_getR k60_113 f5_10 (by decide) (by decide)
theorem k60_116 : mCode 60 116 = some (.iload_n 2, 1) := by decide +kernel
theorem x60_116 {E : ME} {ls : MLs} {st : List MV} {g : MG} {μ : MU} {Q : Option MV → MG → MU → Prop} {l0 l1 : Option MV} {v : Int} : Wp E 60 116 (l0 :: l1 :: some (.inl v) :: ls) st g μ Q = Wp E 60 117 (l0 :: l1 :: some (.inl v) :: ls) (.inl v :: st) g μ Q := Wp_nx k60_116 rfl
theorem k60_117 : mCode 60 117 = some (.iload 5, 2) := by decide +kernel
theorem x60_117 {E : ME} {ls : MLs} {st : List MV} {g : MG} {μ : MU} {Q : Option MV → MG → MU → Prop} {l0 l1 l2 l3 l4 : Option MV} {v : Int} : Wp E 60 117 (l0 :: l1 :: l2 :: l3 :: l4 :: some (.inl v) :: ls) st g μ Q = Wp E 60 119 (l0 :: l1 :: l2 :: l3 :: l4 :: some (.inl v) :: ls) (.inl v :: st) g μ Q := Wp_nx k60_117 rfl
theorem k60_119 : mCode 60 119 = some (.invokevirtual 219, 3) := by decide +kernel
theorem x60_119 {E : ME} {ls : MLs} {st : List MV} {g : MG} {μ : MU} {Q : Option MV → MG → MU → Prop} {r : Nat} {a0 : Nat ⊕ Nat} {a1 : Int} {a2 : Int} : Wp E 60 119 ls (.inl a2 :: .inl a1 :: .inr (.inr a0) :: .inr (.inr (.inl r)) :: st) g μ Q = ((st.length ≤ 4 ∧ ((mKd g r).1 == 4) = true) ∧ Wp E 37 0 [some (.inr (.inr (.inl r))), some (.inr (.inr a0)), some (.inl a1), some (.inl a2), none, none, none] [] g μ (fun r g' μ' => (g'.1 = g.1 ∧ g'.2.1 = g.2.1) ∧ Wp E 60 122 ls (mPush r st) g' μ' Q)) := Wp_cV k60_119 m5_219 (by decide) (as := [.inr (.inr (.inl r)), .inr (.inr a0), .inl a1, .inl a2]) rfl rfl rfl ⟨Nat.le_of_ble_eq_true rfl, by decide⟩
theorem k60_122 : mCode 60 122 = some (.aload_n 0, 1) := by decide +kernel
theorem x60_122 {E : ME} {ls : MLs} {st : List MV} {g : MG} {μ : MU} {Q : Option MV → MG → MU → Prop} {v : Nat ⊕ Nat} : Wp E 60 122 (some (.inr (.inr v)) :: ls) st g μ Q = Wp E 60 123 (some (.inr (.inr v)) :: ls) (.inr (.inr v) :: st) g μ Q := Wp_nx k60_122 rfl
theorem k60_123 : mCode 60 123 = some (.getfield 55, 3) := by decide +kernel
theorem x60_123 {E : ME} {ls : MLs} {st : List MV} {g : MG} {μ : MU} {Q : Option MV → MG → MU → Prop} {a : Nat} : Wp E 60 123 ls (.inr (.inr (.inl a)) :: st) g μ Q = ((mKd g a).1 = 5 ∧ Wp E 60 126 ls (mRv (mRf g a 8) :: st) g μ Q) := Wp_getR k60_123 f5_55 (by decide) (by decide)
theorem k60_126 : mCode 60 126 = some (.getfield 233, 3) := by decide +kernel
theorem x60_126 {E : ME} {ls : MLs} {st : List MV} {g : MG} {μ : MU} {Q : Option MV → MG → MU → Prop} {a : Nat} : Wp E 60 126 ls (.inr (.inr (.inl a)) :: st) g μ Q = ((mKd g a).1 = 4 ∧ Wp E 60 129 ls (.inl (μ a 6) :: st) g μ Q) := Wp_getI k60_126 f5_233 (by decide) (by decide)
theorem k60_129 : mCode 60 129 = some (.ifCond .ne 26, 3) := by decide +kernel
theorem x60_129 {E : ME} {ls : MLs} {st : List MV} {g : MG} {μ : MU} {Q : Option MV → MG → MU → Prop} {a : Int} : Wp E 60 129 ls (.inl a :: st) g μ Q = ((¬ a = 0 → Wp E 60 155 ls st g μ Q) ∧ (a = 0 → Wp E 60 132 ls st g μ Q)) := Wp_if_ne k60_129 (by decide)
theorem k60_132 : mCode 60 132 = some (.aload_n 0, 1) := by decide +kernel
theorem x60_132 {E : ME} {ls : MLs} {st : List MV} {g : MG} {μ : MU} {Q : Option MV → MG → MU → Prop} {v : Nat ⊕ Nat} : Wp E 60 132 (some (.inr (.inr v)) :: ls) st g μ Q = Wp E 60 133 (some (.inr (.inr v)) :: ls) (.inr (.inr v) :: st) g μ Q := Wp_nx k60_132 rfl
theorem k60_133 : mCode 60 133 = some (.getfield 55, 3) := by decide +kernel
theorem x60_133 {E : ME} {ls : MLs} {st : List MV} {g : MG} {μ : MU} {Q : Option MV → MG → MU → Prop} {a : Nat} : Wp E 60 133 ls (.inr (.inr (.inl a)) :: st) g μ Q = ((mKd g a).1 = 5 ∧ Wp E 60 136 ls (mRv (mRf g a 8) :: st) g μ Q) := Wp_getR k60_133 f5_55 (by decide) (by decide)
theorem k60_136 : mCode 60 136 = some (.getfield 235, 3) := by decide +kernel
theorem x60_136 {E : ME} {ls : MLs} {st : List MV} {g : MG} {μ : MU} {Q : Option MV → MG → MU → Prop} {a : Nat} : Wp E 60 136 ls (.inr (.inr (.inl a)) :: st) g μ Q = ((mKd g a).1 = 4 ∧ Wp E 60 139 ls (.inl (μ a 7) :: st) g μ Q) := Wp_getI k60_136 f5_235 (by decide) (by decide)
theorem k60_139 : mCode 60 139 = some (.ifCond .ne 16, 3) := by decide +kernel
theorem x60_139 {E : ME} {ls : MLs} {st : List MV} {g : MG} {μ : MU} {Q : Option MV → MG → MU → Prop} {a : Int} : Wp E 60 139 ls (.inl a :: st) g μ Q = ((¬ a = 0 → Wp E 60 155 ls st g μ Q) ∧ (a = 0 → Wp E 60 142 ls st g μ Q)) := Wp_if_ne k60_139 (by decide)
theorem k60_142 : mCode 60 142 = some (.aload_n 0, 1) := by decide +kernel
theorem x60_142 {E : ME} {ls : MLs} {st : List MV} {g : MG} {μ : MU} {Q : Option MV → MG → MU → Prop} {v : Nat ⊕ Nat} : Wp E 60 142 (some (.inr (.inr v)) :: ls) st g μ Q = Wp E 60 143 (some (.inr (.inr v)) :: ls) (.inr (.inr v) :: st) g μ Q := Wp_nx k60_142 rfl
theorem k60_143 : mCode 60 143 = some (.iload_n 1, 1) := by decide +kernel
theorem x60_143 {E : ME} {ls : MLs} {st : List MV} {g : MG} {μ : MU} {Q : Option MV → MG → MU → Prop} {l0 : Option MV} {v : Int} : Wp E 60 143 (l0 :: some (.inl v) :: ls) st g μ Q = Wp E 60 144 (l0 :: some (.inl v) :: ls) (.inl v :: st) g μ Q := Wp_nx k60_143 rfl
theorem k60_144 : mCode 60 144 = some (.iload 4, 2) := by decide +kernel
theorem x60_144 {E : ME} {ls : MLs} {st : List MV} {g : MG} {μ : MU} {Q : Option MV → MG → MU → Prop} {l0 l1 l2 l3 : Option MV} {v : Int} : Wp E 60 144 (l0 :: l1 :: l2 :: l3 :: some (.inl v) :: ls) st g μ Q = Wp E 60 146 (l0 :: l1 :: l2 :: l3 :: some (.inl v) :: ls) (.inl v :: st) g μ Q := Wp_nx k60_144 rfl
theorem k60_146 : mCode 60 146 = some (.invokevirtual 237, 3) := by decide +kernel
theorem x60_146 {E : ME} {ls : MLs} {st : List MV} {g : MG} {μ : MU} {Q : Option MV → MG → MU → Prop} {r : Nat} {a0 : Int} {a1 : Int} : Wp E 60 146 ls (.inl a1 :: .inl a0 :: .inr (.inr (.inl r)) :: st) g μ Q = ((st.length ≤ 4 ∧ ((mKd g r).1 == 5) = true) ∧ Wp E 63 0 [some (.inr (.inr (.inl r))), some (.inl a0), some (.inl a1), none, none] [] g μ (fun r g' μ' => (g'.1 = g.1 ∧ g'.2.1 = g.2.1) ∧ Wp E 60 149 ls (mPush r st) g' μ' Q)) := Wp_cV k60_146 m5_237 (by decide) (as := [.inr (.inr (.inl r)), .inl a0, .inl a1]) rfl rfl rfl ⟨Nat.le_of_ble_eq_true rfl, by decide⟩
theorem k60_149 : mCode 60 149 = some (.ifCond .eq 6, 3) := by decide +kernel
theorem x60_149 {E : ME} {ls : MLs} {st : List MV} {g : MG} {μ : MU} {Q : Option MV → MG → MU → Prop} {a : Int} : Wp E 60 149 ls (.inl a :: st) g μ Q = ((a = 0 → Wp E 60 155 ls st g μ Q) ∧ (¬ a = 0 → Wp E 60 152 ls st g μ Q)) := Wp_if_eq k60_149 (by decide)
theorem k60_152 : mCode 60 152 = some (.iload 5, 2) := by decide +kernel
theorem x60_152 {E : ME} {ls : MLs} {st : List MV} {g : MG} {μ : MU} {Q : Option MV → MG → MU → Prop} {l0 l1 l2 l3 l4 : Option MV} {v : Int} : Wp E 60 152 (l0 :: l1 :: l2 :: l3 :: l4 :: some (.inl v) :: ls) st g μ Q = Wp E 60 154 (l0 :: l1 :: l2 :: l3 :: l4 :: some (.inl v) :: ls) (.inl v :: st) g μ Q := Wp_nx k60_152 rfl
theorem k60_154 : mCode 60 154 = some (.ireturn, 1) := by decide +kernel
theorem x60_154 {E : ME} {ls : MLs} {g : MG} {μ : MU} {Q : Option MV → MG → MU → Prop} {v : Int} : Wp E 60 154 ls [.inl v] g μ Q = Q (some (.inl v)) g μ := Wp_retI k60_154 (by decide)
theorem k60_155 : mCode 60 155 = some (.iinc 5 1, 3) := by decide +kernel
theorem x60_155 {E : ME} {ls : MLs} {st : List MV} {g : MG} {μ : MU} {Q : Option MV → MG → MU → Prop} {l0 l1 l2 l3 l4 : Option MV} {v : Int} : Wp E 60 155 (l0 :: l1 :: l2 :: l3 :: l4 :: some (.inl v) :: ls) st g μ Q = (mNl (some l4) = true ∧ Wp E 60 158 (l0 :: l1 :: l2 :: l3 :: l4 :: some (.inl (mWr (v + 1))) :: ls) st g μ Q) := Wp_inc k60_155 rfl rfl rfl
theorem k60_158 : mCode 60 158 = some (.goto (-80), 3) := by decide +kernel
theorem x60_158 {E : ME} {ls : MLs} {st : List MV} {g : MG} {μ : MU} {Q : Option MV → MG → MU → Prop} : Wp E 60 158 ls st g μ Q = Wp E 60 78 ls st g μ Q := Wp_goto k60_158 (by decide)
theorem k60_161 : mCode 60 161 = some (.bipush (-6), 2) := by decide +kernel
theorem x60_161 {E : ME} {ls : MLs} {st : List MV} {g : MG} {μ : MU} {Q : Option MV → MG → MU → Prop} : Wp E 60 161 ls st g μ Q = Wp E 60 163 ls (.inl (-6) :: st) g μ Q := Wp_nx k60_161 rfl
theorem k60_163 : mCode 60 163 = some (.ireturn, 1) := by decide +kernel
theorem x60_163 {E : ME} {ls : MLs} {g : MG} {μ : MU} {Q : Option MV → MG → MU → Prop} {v : Int} : Wp E 60 163 ls [.inl v] g μ Q = Q (some (.inl v)) g μ := Wp_retI k60_163 (by decide)
theorem k61_0 : mCode 61 0 = some (.iload_n 1, 1) := by decide +kernel
theorem x61_0 {E : ME} {ls : MLs} {st : List MV} {g : MG} {μ : MU} {Q : Option MV → MG → MU → Prop} {l0 : Option MV} {v : Int} : Wp E 61 0 (l0 :: some (.inl v) :: ls) st g μ Q = Wp E 61 1 (l0 :: some (.inl v) :: ls) (.inl v :: st) g μ Q := Wp_nx k61_0 rfl
theorem k61_1 : mCode 61 1 = some (.iconst 0, 1) := by decide +kernel
theorem x61_1 {E : ME} {ls : MLs} {st : List MV} {g : MG} {μ : MU} {Q : Option MV → MG → MU → Prop} : Wp E 61 1 ls st g μ Q = Wp E 61 2 ls (.inl 0 :: st) g μ Q := Wp_nx k61_1 rfl
theorem k61_2 : mCode 61 2 = some (.bipush 99, 2) := by decide +kernel
theorem x61_2 {E : ME} {ls : MLs} {st : List MV} {g : MG} {μ : MU} {Q : Option MV → MG → MU → Prop} : Wp E 61 2 ls st g μ Q = Wp E 61 4 ls (.inl 99 :: st) g μ Q := Wp_nx k61_2 rfl
theorem k61_4 : mCode 61 4 = some (.invokestatic 170, 3) := by decide +kernel
theorem x61_4 {E : ME} {ls : MLs} {st : List MV} {g : MG} {μ : MU} {Q : Option MV → MG → MU → Prop} {a0 : Int} {a1 : Int} {a2 : Int} : Wp E 61 4 ls (.inl a2 :: .inl a1 :: .inl a0 :: st) g μ Q = (st.length ≤ 4 ∧ Wp E 74 0 [some (.inl a0), some (.inl a1), some (.inl a2)] [] g μ (fun r g' μ' => (g'.1 = g.1 ∧ g'.2.1 = g.2.1) ∧ Wp E 61 7 ls (mPush r st) g' μ' Q)) := Wp_cS k61_4 m5_170 (by decide) (as := [.inl a0, .inl a1, .inl a2]) rfl rfl rfl ⟨Nat.le_of_ble_eq_true rfl, by decide⟩
theorem k61_7 : mCode 61 7 = some (.ifCond .ne 6, 3) := by decide +kernel
theorem x61_7 {E : ME} {ls : MLs} {st : List MV} {g : MG} {μ : MU} {Q : Option MV → MG → MU → Prop} {a : Int} : Wp E 61 7 ls (.inl a :: st) g μ Q = ((¬ a = 0 → Wp E 61 13 ls st g μ Q) ∧ (a = 0 → Wp E 61 10 ls st g μ Q)) := Wp_if_ne k61_7 (by decide)
theorem k61_10 : mCode 61 10 = some (.bipush (-2), 2) := by decide +kernel
theorem x61_10 {E : ME} {ls : MLs} {st : List MV} {g : MG} {μ : MU} {Q : Option MV → MG → MU → Prop} : Wp E 61 10 ls st g μ Q = Wp E 61 12 ls (.inl (-2) :: st) g μ Q := Wp_nx k61_10 rfl
theorem k61_12 : mCode 61 12 = some (.ireturn, 1) := by decide +kernel
theorem x61_12 {E : ME} {ls : MLs} {g : MG} {μ : MU} {Q : Option MV → MG → MU → Prop} {v : Int} : Wp E 61 12 ls [.inl v] g μ Q = Q (some (.inl v)) g μ := Wp_retI k61_12 (by decide)
theorem k61_13 : mCode 61 13 = some (.aload_n 0, 1) := by decide +kernel
theorem x61_13 {E : ME} {ls : MLs} {st : List MV} {g : MG} {μ : MU} {Q : Option MV → MG → MU → Prop} {v : Nat ⊕ Nat} : Wp E 61 13 (some (.inr (.inr v)) :: ls) st g μ Q = Wp E 61 14 (some (.inr (.inr v)) :: ls) (.inr (.inr v) :: st) g μ Q := Wp_nx k61_13 rfl
theorem k61_14 : mCode 61 14 = some (.getfield 19, 3) := by decide +kernel
theorem x61_14 {E : ME} {ls : MLs} {st : List MV} {g : MG} {μ : MU} {Q : Option MV → MG → MU → Prop} {a : Nat} : Wp E 61 14 ls (.inr (.inr (.inl a)) :: st) g μ Q = ((mKd g a).1 = 5 ∧ Wp E 61 17 ls (mRv (mRf g a 1) :: st) g μ Q) := Wp_getR k61_14 f5_19 (by decide) (by decide)
theorem k61_17 : mCode 61 17 = some (.aload_n 0, 1) := by decide +kernel
theorem x61_17 {E : ME} {ls : MLs} {st : List MV} {g : MG} {μ : MU} {Q : Option MV → MG → MU → Prop} {v : Nat ⊕ Nat} : Wp E 61 17 (some (.inr (.inr v)) :: ls) st g μ Q = Wp E 61 18 (some (.inr (.inr v)) :: ls) (.inr (.inr v) :: st) g μ Q := Wp_nx k61_17 rfl
theorem k61_18 : mCode 61 18 = some (.getfield 10, 3) := by decide +kernel
theorem x61_18 {E : ME} {ls : MLs} {st : List MV} {g : MG} {μ : MU} {Q : Option MV → MG → MU → Prop} {a : Nat} : Wp E 61 18 ls (.inr (.inr (.inl a)) :: st) g μ Q = ((mKd g a).1 = 5 ∧ Wp E 61 21 ls (mRv (mRf g a 0) :: st) g μ Q) := Wp_getR k61_18 f5_10 (by decide) (by decide)
theorem k61_21 : mCode 61 21 = some (.invokevirtual 100, 3) := by decide +kernel
theorem x61_21 {E : ME} {ls : MLs} {st : List MV} {g : MG} {μ : MU} {Q : Option MV → MG → MU → Prop} {r : Nat} {a0 : Nat ⊕ Nat} : Wp E 61 21 ls (.inr (.inr a0) :: .inr (.inr (.inl r)) :: st) g μ Q = ((st.length ≤ 4 ∧ ((mKd g r).1 == 3) = true) ∧ Wp E 28 0 [some (.inr (.inr (.inl r))), some (.inr (.inr a0)), none] [] g μ (fun r g' μ' => (g'.1 = g.1 ∧ g'.2.1 = g.2.1) ∧ Wp E 61 24 ls (mPush r st) g' μ' Q)) := Wp_cV k61_21 m5_100 (by decide) (as := [.inr (.inr (.inl r)), .inr (.inr a0)]) rfl rfl rfl ⟨Nat.le_of_ble_eq_true rfl, by decide⟩
theorem k61_24 : mCode 61 24 = some (.aload_n 0, 1) := by decide +kernel
theorem x61_24 {E : ME} {ls : MLs} {st : List MV} {g : MG} {μ : MU} {Q : Option MV → MG → MU → Prop} {v : Nat ⊕ Nat} : Wp E 61 24 (some (.inr (.inr v)) :: ls) st g μ Q = Wp E 61 25 (some (.inr (.inr v)) :: ls) (.inr (.inr v) :: st) g μ Q := Wp_nx k61_24 rfl
theorem k61_25 : mCode 61 25 = some (.getfield 19, 3) := by decide +kernel
theorem x61_25 {E : ME} {ls : MLs} {st : List MV} {g : MG} {μ : MU} {Q : Option MV → MG → MU → Prop} {a : Nat} : Wp E 61 25 ls (.inr (.inr (.inl a)) :: st) g μ Q = ((mKd g a).1 = 5 ∧ Wp E 61 28 ls (mRv (mRf g a 1) :: st) g μ Q) := Wp_getR k61_25 f5_19 (by decide) (by decide)
theorem k61_28 : mCode 61 28 = some (.aload_n 0, 1) := by decide +kernel
theorem x61_28 {E : ME} {ls : MLs} {st : List MV} {g : MG} {μ : MU} {Q : Option MV → MG → MU → Prop} {v : Nat ⊕ Nat} : Wp E 61 28 (some (.inr (.inr v)) :: ls) st g μ Q = Wp E 61 29 (some (.inr (.inr v)) :: ls) (.inr (.inr v) :: st) g μ Q := Wp_nx k61_28 rfl
theorem k61_29 : mCode 61 29 = some (.getfield 10, 3) := by decide +kernel
theorem x61_29 {E : ME} {ls : MLs} {st : List MV} {g : MG} {μ : MU} {Q : Option MV → MG → MU → Prop} {a : Nat} : Wp E 61 29 ls (.inr (.inr (.inl a)) :: st) g μ Q = ((mKd g a).1 = 5 ∧ Wp E 61 32 ls (mRv (mRf g a 0) :: st) g μ Q) := Wp_getR k61_29 f5_10 (by decide) (by decide)
theorem k61_32 : mCode 61 32 = some (.invokevirtual 187, 3) := by decide +kernel
theorem x61_32 {E : ME} {ls : MLs} {st : List MV} {g : MG} {μ : MU} {Q : Option MV → MG → MU → Prop} {r : Nat} {a0 : Nat ⊕ Nat} : Wp E 61 32 ls (.inr (.inr a0) :: .inr (.inr (.inl r)) :: st) g μ Q = ((st.length ≤ 4 ∧ ((mKd g r).1 == 3) = true) ∧ Wp E 32 0 [some (.inr (.inr (.inl r))), some (.inr (.inr a0)), none, none] [] g μ (fun r g' μ' => (g'.1 = g.1 ∧ g'.2.1 = g.2.1) ∧ Wp E 61 35 ls (mPush r st) g' μ' Q)) := Wp_cV k61_32 m5_187 (by decide) (as := [.inr (.inr (.inl r)), .inr (.inr a0)]) rfl rfl rfl ⟨Nat.le_of_ble_eq_true rfl, by decide⟩
theorem k61_35 : mCode 61 35 = some (.istore_n 2, 1) := by decide +kernel
theorem x61_35 {E : ME} {ls : MLs} {st : List MV} {g : MG} {μ : MU} {Q : Option MV → MG → MU → Prop} {l0 l1 : Option MV} {lk : Option MV} {v : Int} : Wp E 61 35 (l0 :: l1 :: lk :: ls) (.inl v :: st) g μ Q = ((mNl (some l1) = true ∧ mNl (some lk) = true) ∧ Wp E 61 36 (l0 :: l1 :: some (.inl v) :: ls) st g μ Q) := Wp_sti k61_35 (fun _ => rfl) rfl rfl rfl
theorem k61_36 : mCode 61 36 = some (.aload_n 0, 1) := by decide +kernel
theorem x61_36 {E : ME} {ls : MLs} {st : List MV} {g : MG} {μ : MU} {Q : Option MV → MG → MU → Prop} {v : Nat ⊕ Nat} : Wp E 61 36 (some (.inr (.inr v)) :: ls) st g μ Q = Wp E 61 37 (some (.inr (.inr v)) :: ls) (.inr (.inr v) :: st) g μ Q := Wp_nx k61_36 rfl
theorem k61_37 : mCode 61 37 = some (.getfield 45, 3) := by decide +kernel
theorem x61_37 {E : ME} {ls : MLs} {st : List MV} {g : MG} {μ : MU} {Q : Option MV → MG → MU → Prop} {a : Nat} : Wp E 61 37 ls (.inr (.inr (.inl a)) :: st) g μ Q = ((mKd g a).1 = 5 ∧ Wp E 61 40 ls (mRv (mRf g a 6) :: st) g μ Q) := Wp_getR k61_37 f5_45 (by decide) (by decide)
theorem k61_40 : mCode 61 40 = some (.aload_n 0, 1) := by decide +kernel
theorem x61_40 {E : ME} {ls : MLs} {st : List MV} {g : MG} {μ : MU} {Q : Option MV → MG → MU → Prop} {v : Nat ⊕ Nat} : Wp E 61 40 (some (.inr (.inr v)) :: ls) st g μ Q = Wp E 61 41 (some (.inr (.inr v)) :: ls) (.inr (.inr v) :: st) g μ Q := Wp_nx k61_40 rfl
theorem k61_41 : mCode 61 41 = some (.getfield 10, 3) := by decide +kernel
theorem x61_41 {E : ME} {ls : MLs} {st : List MV} {g : MG} {μ : MU} {Q : Option MV → MG → MU → Prop} {a : Nat} : Wp E 61 41 ls (.inr (.inr (.inl a)) :: st) g μ Q = ((mKd g a).1 = 5 ∧ Wp E 61 44 ls (mRv (mRf g a 0) :: st) g μ Q) := Wp_getR k61_41 f5_10 (by decide) (by decide)
theorem k61_44 : mCode 61 44 = some (.invokevirtual 240, 3) := by decide +kernel
theorem x61_44 {E : ME} {ls : MLs} {st : List MV} {g : MG} {μ : MU} {Q : Option MV → MG → MU → Prop} {r : Nat} {a0 : Nat ⊕ Nat} : Wp E 61 44 ls (.inr (.inr a0) :: .inr (.inr (.inl r)) :: st) g μ Q = ((st.length ≤ 4 ∧ ((mKd g r).1 == 0) = true) ∧ Wp E 1 0 [some (.inr (.inr (.inl r))), some (.inr (.inr a0))] [] g μ (fun r g' μ' => (g'.1 = g.1 ∧ g'.2.1 = g.2.1) ∧ Wp E 61 47 ls (mPush r st) g' μ' Q)) := Wp_cV k61_44 m5_240 (by decide) (as := [.inr (.inr (.inl r)), .inr (.inr a0)]) rfl rfl rfl ⟨Nat.le_of_ble_eq_true rfl, by decide⟩
theorem k61_47 : mCode 61 47 = some (.aload_n 0, 1) := by decide +kernel
theorem x61_47 {E : ME} {ls : MLs} {st : List MV} {g : MG} {μ : MU} {Q : Option MV → MG → MU → Prop} {v : Nat ⊕ Nat} : Wp E 61 47 (some (.inr (.inr v)) :: ls) st g μ Q = Wp E 61 48 (some (.inr (.inr v)) :: ls) (.inr (.inr v) :: st) g μ Q := Wp_nx k61_47 rfl
theorem k61_48 : mCode 61 48 = some (.getfield 45, 3) := by decide +kernel
theorem x61_48 {E : ME} {ls : MLs} {st : List MV} {g : MG} {μ : MU} {Q : Option MV → MG → MU → Prop} {a : Nat} : Wp E 61 48 ls (.inr (.inr (.inl a)) :: st) g μ Q = ((mKd g a).1 = 5 ∧ Wp E 61 51 ls (mRv (mRf g a 6) :: st) g μ Q) := Wp_getR k61_48 f5_45 (by decide) (by decide)
theorem k61_51 : mCode 61 51 = some (.iload_n 1, 1) := by decide +kernel
theorem x61_51 {E : ME} {ls : MLs} {st : List MV} {g : MG} {μ : MU} {Q : Option MV → MG → MU → Prop} {l0 : Option MV} {v : Int} : Wp E 61 51 (l0 :: some (.inl v) :: ls) st g μ Q = Wp E 61 52 (l0 :: some (.inl v) :: ls) (.inl v :: st) g μ Q := Wp_nx k61_51 rfl
theorem k61_52 : mCode 61 52 = some (.invokevirtual 242, 3) := by decide +kernel
theorem x61_52 {E : ME} {ls : MLs} {st : List MV} {g : MG} {μ : MU} {Q : Option MV → MG → MU → Prop} {r : Nat} {a0 : Int} : Wp E 61 52 ls (.inl a0 :: .inr (.inr (.inl r)) :: st) g μ Q = ((st.length ≤ 4 ∧ ((mKd g r).1 == 0) = true) ∧ Wp E 9 0 [some (.inr (.inr (.inl r))), some (.inl a0), none] [] g μ (fun r g' μ' => (g'.1 = g.1 ∧ g'.2.1 = g.2.1) ∧ Wp E 61 55 ls (mPush r st) g' μ' Q)) := Wp_cV k61_52 m5_242 (by decide) (as := [.inr (.inr (.inl r)), .inl a0]) rfl rfl rfl ⟨Nat.le_of_ble_eq_true rfl, by decide⟩
theorem k61_55 : mCode 61 55 = some (.aload_n 0, 1) := by decide +kernel
theorem x61_55 {E : ME} {ls : MLs} {st : List MV} {g : MG} {μ : MU} {Q : Option MV → MG → MU → Prop} {v : Nat ⊕ Nat} : Wp E 61 55 (some (.inr (.inr v)) :: ls) st g μ Q = Wp E 61 56 (some (.inr (.inr v)) :: ls) (.inr (.inr v) :: st) g μ Q := Wp_nx k61_55 rfl
theorem k61_56 : mCode 61 56 = some (.getfield 19, 3) := by decide +kernel
theorem x61_56 {E : ME} {ls : MLs} {st : List MV} {g : MG} {μ : MU} {Q : Option MV → MG → MU → Prop} {a : Nat} : Wp E 61 56 ls (.inr (.inr (.inl a)) :: st) g μ Q = ((mKd g a).1 = 5 ∧ Wp E 61 59 ls (mRv (mRf g a 1) :: st) g μ Q) := Wp_getR k61_56 f5_19 (by decide) (by decide)
theorem k61_59 : mCode 61 59 = some (.aload_n 0, 1) := by decide +kernel
theorem x61_59 {E : ME} {ls : MLs} {st : List MV} {g : MG} {μ : MU} {Q : Option MV → MG → MU → Prop} {v : Nat ⊕ Nat} : Wp E 61 59 (some (.inr (.inr v)) :: ls) st g μ Q = Wp E 61 60 (some (.inr (.inr v)) :: ls) (.inr (.inr v) :: st) g μ Q := Wp_nx k61_59 rfl
theorem k61_60 : mCode 61 60 = some (.getfield 45, 3) := by decide +kernel
theorem x61_60 {E : ME} {ls : MLs} {st : List MV} {g : MG} {μ : MU} {Q : Option MV → MG → MU → Prop} {a : Nat} : Wp E 61 60 ls (.inr (.inr (.inl a)) :: st) g μ Q = ((mKd g a).1 = 5 ∧ Wp E 61 63 ls (mRv (mRf g a 6) :: st) g μ Q) := Wp_getR k61_60 f5_45 (by decide) (by decide)
theorem k61_63 : mCode 61 63 = some (.invokevirtual 100, 3) := by decide +kernel
theorem x61_63 {E : ME} {ls : MLs} {st : List MV} {g : MG} {μ : MU} {Q : Option MV → MG → MU → Prop} {r : Nat} {a0 : Nat ⊕ Nat} : Wp E 61 63 ls (.inr (.inr a0) :: .inr (.inr (.inl r)) :: st) g μ Q = ((st.length ≤ 4 ∧ ((mKd g r).1 == 3) = true) ∧ Wp E 28 0 [some (.inr (.inr (.inl r))), some (.inr (.inr a0)), none] [] g μ (fun r g' μ' => (g'.1 = g.1 ∧ g'.2.1 = g.2.1) ∧ Wp E 61 66 ls (mPush r st) g' μ' Q)) := Wp_cV k61_63 m5_100 (by decide) (as := [.inr (.inr (.inl r)), .inr (.inr a0)]) rfl rfl rfl ⟨Nat.le_of_ble_eq_true rfl, by decide⟩
theorem k61_66 : mCode 61 66 = some (.sipush 1000, 3) := by decide +kernel
theorem x61_66 {E : ME} {ls : MLs} {st : List MV} {g : MG} {μ : MU} {Q : Option MV → MG → MU → Prop} : Wp E 61 66 ls st g μ Q = Wp E 61 69 ls (.inl 1000 :: st) g μ Q := Wp_nx k61_66 rfl
theorem k61_69 : mCode 61 69 = some (.aload_n 0, 1) := by decide +kernel
theorem x61_69 {E : ME} {ls : MLs} {st : List MV} {g : MG} {μ : MU} {Q : Option MV → MG → MU → Prop} {v : Nat ⊕ Nat} : Wp E 61 69 (some (.inr (.inr v)) :: ls) st g μ Q = Wp E 61 70 (some (.inr (.inr v)) :: ls) (.inr (.inr v) :: st) g μ Q := Wp_nx k61_69 rfl
theorem k61_70 : mCode 61 70 = some (.getfield 19, 3) := by decide +kernel
theorem x61_70 {E : ME} {ls : MLs} {st : List MV} {g : MG} {μ : MU} {Q : Option MV → MG → MU → Prop} {a : Nat} : Wp E 61 70 ls (.inr (.inr (.inl a)) :: st) g μ Q = ((mKd g a).1 = 5 ∧ Wp E 61 73 ls (mRv (mRf g a 1) :: st) g μ Q) := Wp_getR k61_70 f5_19 (by decide) (by decide)
theorem k61_73 : mCode 61 73 = some (.aload_n 0, 1) := by decide +kernel
theorem x61_73 {E : ME} {ls : MLs} {st : List MV} {g : MG} {μ : MU} {Q : Option MV → MG → MU → Prop} {v : Nat ⊕ Nat} : Wp E 61 73 (some (.inr (.inr v)) :: ls) st g μ Q = Wp E 61 74 (some (.inr (.inr v)) :: ls) (.inr (.inr v) :: st) g μ Q := Wp_nx k61_73 rfl
theorem k61_74 : mCode 61 74 = some (.getfield 45, 3) := by decide +kernel
theorem x61_74 {E : ME} {ls : MLs} {st : List MV} {g : MG} {μ : MU} {Q : Option MV → MG → MU → Prop} {a : Nat} : Wp E 61 74 ls (.inr (.inr (.inl a)) :: st) g μ Q = ((mKd g a).1 = 5 ∧ Wp E 61 77 ls (mRv (mRf g a 6) :: st) g μ Q) := Wp_getR k61_74 f5_45 (by decide) (by decide)
theorem k61_77 : mCode 61 77 = some (.invokevirtual 187, 3) := by decide +kernel
theorem x61_77 {E : ME} {ls : MLs} {st : List MV} {g : MG} {μ : MU} {Q : Option MV → MG → MU → Prop} {r : Nat} {a0 : Nat ⊕ Nat} : Wp E 61 77 ls (.inr (.inr a0) :: .inr (.inr (.inl r)) :: st) g μ Q = ((st.length ≤ 4 ∧ ((mKd g r).1 == 3) = true) ∧ Wp E 32 0 [some (.inr (.inr (.inl r))), some (.inr (.inr a0)), none, none] [] g μ (fun r g' μ' => (g'.1 = g.1 ∧ g'.2.1 = g.2.1) ∧ Wp E 61 80 ls (mPush r st) g' μ' Q)) := Wp_cV k61_77 m5_187 (by decide) (as := [.inr (.inr (.inl r)), .inr (.inr a0)]) rfl rfl rfl ⟨Nat.le_of_ble_eq_true rfl, by decide⟩
theorem k61_80 : mCode 61 80 = some (.iadd, 1) := by decide +kernel
theorem x61_80 {E : ME} {ls : MLs} {st : List MV} {g : MG} {μ : MU} {Q : Option MV → MG → MU → Prop} {a b : Int} : Wp E 61 80 ls (.inl b :: .inl a :: st) g μ Q = Wp E 61 81 ls (.inl (mWr (a + b)) :: st) g μ Q := Wp_nx k61_80 rfl
theorem k61_81 : mCode 61 81 = some (.iload_n 2, 1) := by decide +kernel
theorem x61_81 {E : ME} {ls : MLs} {st : List MV} {g : MG} {μ : MU} {Q : Option MV → MG → MU → Prop} {l0 l1 : Option MV} {v : Int} : Wp E 61 81 (l0 :: l1 :: some (.inl v) :: ls) st g μ Q = Wp E 61 82 (l0 :: l1 :: some (.inl v) :: ls) (.inl v :: st) g μ Q := Wp_nx k61_81 rfl
theorem k61_82 : mCode 61 82 = some (.isub, 1) := by decide +kernel
theorem x61_82 {E : ME} {ls : MLs} {st : List MV} {g : MG} {μ : MU} {Q : Option MV → MG → MU → Prop} {a b : Int} : Wp E 61 82 ls (.inl b :: .inl a :: st) g μ Q = Wp E 61 83 ls (.inl (mWr (a - b)) :: st) g μ Q := Wp_nx k61_82 rfl
theorem k61_83 : mCode 61 83 = some (.ireturn, 1) := by decide +kernel
theorem x61_83 {E : ME} {ls : MLs} {g : MG} {μ : MU} {Q : Option MV → MG → MU → Prop} {v : Int} : Wp E 61 83 ls [.inl v] g μ Q = Q (some (.inl v)) g μ := Wp_retI k61_83 (by decide)
theorem k62_0 : mCode 62 0 = some (.iload_n 3, 1) := by decide +kernel
theorem x62_0 {E : ME} {ls : MLs} {st : List MV} {g : MG} {μ : MU} {Q : Option MV → MG → MU → Prop} {l0 l1 l2 : Option MV} {v : Int} : Wp E 62 0 (l0 :: l1 :: l2 :: some (.inl v) :: ls) st g μ Q = Wp E 62 1 (l0 :: l1 :: l2 :: some (.inl v) :: ls) (.inl v :: st) g μ Q := Wp_nx k62_0 rfl
theorem k62_1 : mCode 62 1 = some (.istore 4, 2) := by decide +kernel
theorem x62_1 {E : ME} {ls : MLs} {st : List MV} {g : MG} {μ : MU} {Q : Option MV → MG → MU → Prop} {l0 l1 l2 l3 : Option MV} {lk : Option MV} {v : Int} : Wp E 62 1 (l0 :: l1 :: l2 :: l3 :: lk :: ls) (.inl v :: st) g μ Q = ((mNl (some l3) = true ∧ mNl (some lk) = true) ∧ Wp E 62 3 (l0 :: l1 :: l2 :: l3 :: some (.inl v) :: ls) st g μ Q) := Wp_sti k62_1 (fun _ => rfl) rfl rfl rfl
theorem k62_3 : mCode 62 3 = some (.iload 4, 2) := by decide +kernel
theorem x62_3 {E : ME} {ls : MLs} {st : List MV} {g : MG} {μ : MU} {Q : Option MV → MG → MU → Prop} {l0 l1 l2 l3 : Option MV} {v : Int} : Wp E 62 3 (l0 :: l1 :: l2 :: l3 :: some (.inl v) :: ls) st g μ Q = Wp E 62 5 (l0 :: l1 :: l2 :: l3 :: some (.inl v) :: ls) (.inl v :: st) g μ Q := Wp_nx k62_3 rfl
theorem k62_5 : mCode 62 5 = some (.aload_n 0, 1) := by decide +kernel
theorem x62_5 {E : ME} {ls : MLs} {st : List MV} {g : MG} {μ : MU} {Q : Option MV → MG → MU → Prop} {v : Nat ⊕ Nat} : Wp E 62 5 (some (.inr (.inr v)) :: ls) st g μ Q = Wp E 62 6 (some (.inr (.inr v)) :: ls) (.inr (.inr v) :: st) g μ Q := Wp_nx k62_5 rfl
theorem k62_6 : mCode 62 6 = some (.getfield 10, 3) := by decide +kernel
theorem x62_6 {E : ME} {ls : MLs} {st : List MV} {g : MG} {μ : MU} {Q : Option MV → MG → MU → Prop} {a : Nat} : Wp E 62 6 ls (.inr (.inr (.inl a)) :: st) g μ Q = ((mKd g a).1 = 5 ∧ Wp E 62 9 ls (mRv (mRf g a 0) :: st) g μ Q) := Wp_getR k62_6 f5_10 (by decide) (by decide)
theorem k62_9 : mCode 62 9 = some (.getfield 181, 3) := by decide +kernel
theorem x62_9 {E : ME} {ls : MLs} {st : List MV} {g : MG} {μ : MU} {Q : Option MV → MG → MU → Prop} {a : Nat} : Wp E 62 9 ls (.inr (.inr (.inl a)) :: st) g μ Q = ((mKd g a).1 = 0 ∧ Wp E 62 12 ls (.inl (μ a 7) :: st) g μ Q) := Wp_getI k62_9 f5_181 (by decide) (by decide)
theorem k62_12 : mCode 62 12 = some (.if_icmp .ge 83, 3) := by decide +kernel
theorem x62_12 {E : ME} {ls : MLs} {st : List MV} {g : MG} {μ : MU} {Q : Option MV → MG → MU → Prop} {a b : Int} : Wp E 62 12 ls (.inl b :: .inl a :: st) g μ Q = ((b ≤ a → Wp E 62 95 ls st g μ Q) ∧ (a < b → Wp E 62 15 ls st g μ Q)) := Wp_cmp_ge k62_12 (by decide)
theorem k62_15 : mCode 62 15 = some (.aload_n 0, 1) := by decide +kernel
theorem x62_15 {E : ME} {ls : MLs} {st : List MV} {g : MG} {μ : MU} {Q : Option MV → MG → MU → Prop} {v : Nat ⊕ Nat} : Wp E 62 15 (some (.inr (.inr v)) :: ls) st g μ Q = Wp E 62 16 (some (.inr (.inr v)) :: ls) (.inr (.inr v) :: st) g μ Q := Wp_nx k62_15 rfl
theorem k62_16 : mCode 62 16 = some (.getfield 19, 3) := by decide +kernel
theorem x62_16 {E : ME} {ls : MLs} {st : List MV} {g : MG} {μ : MU} {Q : Option MV → MG → MU → Prop} {a : Nat} : Wp E 62 16 ls (.inr (.inr (.inl a)) :: st) g μ Q = ((mKd g a).1 = 5 ∧ Wp E 62 19 ls (mRv (mRf g a 1) :: st) g μ Q) := Wp_getR k62_16 f5_19 (by decide) (by decide)
theorem k62_19 : mCode 62 19 = some (.getfield 210, 3) := by decide +kernel
theorem x62_19 {E : ME} {ls : MLs} {st : List MV} {g : MG} {μ : MU} {Q : Option MV → MG → MU → Prop} {a : Nat} : Wp E 62 19 ls (.inr (.inr (.inl a)) :: st) g μ Q = ((mKd g a).1 = 3 ∧ Wp E 62 22 ls (mRv (mRf g a 0) :: st) g μ Q) := Wp_getR k62_19 f5_210 (by decide) (by decide)
theorem k62_22 : mCode 62 22 = some (.iload 4, 2) := by decide +kernel
theorem x62_22 {E : ME} {ls : MLs} {st : List MV} {g : MG} {μ : MU} {Q : Option MV → MG → MU → Prop} {l0 l1 l2 l3 : Option MV} {v : Int} : Wp E 62 22 (l0 :: l1 :: l2 :: l3 :: some (.inl v) :: ls) st g μ Q = Wp E 62 24 (l0 :: l1 :: l2 :: l3 :: some (.inl v) :: ls) (.inl v :: st) g μ Q := Wp_nx k62_22 rfl
theorem k62_24 : mCode 62 24 = some (.iaload, 1) := by decide +kernel
theorem x62_24 {E : ME} {ls : MLs} {st : List MV} {g : MG} {μ : MU} {Q : Option MV → MG → MU → Prop} {a : Nat} {j : Int} : Wp E 62 24 ls (.inl j :: .inr (.inr (.inl a)) :: st) g μ Q = (((mKd g a).1 = 10 ∧ 0 ≤ j ∧ j < (mKd g a).2) ∧ Wp E 62 25 ls (.inl (μ a j.toNat) :: st) g μ Q) := Wp_ald k62_24 (fun _ => rfl)
theorem k62_25 : mCode 62 25 = some (.istore 5, 2) := by decide +kernel
theorem x62_25 {E : ME} {ls : MLs} {st : List MV} {g : MG} {μ : MU} {Q : Option MV → MG → MU → Prop} {l0 l1 l2 l3 l4 : Option MV} {lk : Option MV} {v : Int} : Wp E 62 25 (l0 :: l1 :: l2 :: l3 :: l4 :: lk :: ls) (.inl v :: st) g μ Q = ((mNl (some l4) = true ∧ mNl (some lk) = true) ∧ Wp E 62 27 (l0 :: l1 :: l2 :: l3 :: l4 :: some (.inl v) :: ls) st g μ Q) := Wp_sti k62_25 (fun _ => rfl) rfl rfl rfl
theorem k62_27 : mCode 62 27 = some (.aload_n 0, 1) := by decide +kernel
theorem x62_27 {E : ME} {ls : MLs} {st : List MV} {g : MG} {μ : MU} {Q : Option MV → MG → MU → Prop} {v : Nat ⊕ Nat} : Wp E 62 27 (some (.inr (.inr v)) :: ls) st g μ Q = Wp E 62 28 (some (.inr (.inr v)) :: ls) (.inr (.inr v) :: st) g μ Q := Wp_nx k62_27 rfl
theorem k62_28 : mCode 62 28 = some (.getfield 10, 3) := by decide +kernel
theorem x62_28 {E : ME} {ls : MLs} {st : List MV} {g : MG} {μ : MU} {Q : Option MV → MG → MU → Prop} {a : Nat} : Wp E 62 28 ls (.inr (.inr (.inl a)) :: st) g μ Q = ((mKd g a).1 = 5 ∧ Wp E 62 31 ls (mRv (mRf g a 0) :: st) g μ Q) := Wp_getR k62_28 f5_10 (by decide) (by decide)
theorem k62_31 : mCode 62 31 = some (.getfield 136, 3) := by decide +kernel
theorem x62_31 {E : ME} {ls : MLs} {st : List MV} {g : MG} {μ : MU} {Q : Option MV → MG → MU → Prop} {a : Nat} : Wp E 62 31 ls (.inr (.inr (.inl a)) :: st) g μ Q = ((mKd g a).1 = 0 ∧ Wp E 62 34 ls (mRv (mRf g a 10) :: st) g μ Q) := Wp_getR k62_31 f5_136 (by decide) (by decide)
theorem k62_34 : mCode 62 34 = some (.iload 5, 2) := by decide +kernel
theorem x62_34 {E : ME} {ls : MLs} {st : List MV} {g : MG} {μ : MU} {Q : Option MV → MG → MU → Prop} {l0 l1 l2 l3 l4 : Option MV} {v : Int} : Wp E 62 34 (l0 :: l1 :: l2 :: l3 :: l4 :: some (.inl v) :: ls) st g μ Q = Wp E 62 36 (l0 :: l1 :: l2 :: l3 :: l4 :: some (.inl v) :: ls) (.inl v :: st) g μ Q := Wp_nx k62_34 rfl
theorem k62_36 : mCode 62 36 = some (.iaload, 1) := by decide +kernel
theorem x62_36 {E : ME} {ls : MLs} {st : List MV} {g : MG} {μ : MU} {Q : Option MV → MG → MU → Prop} {a : Nat} {j : Int} : Wp E 62 36 ls (.inl j :: .inr (.inr (.inl a)) :: st) g μ Q = (((mKd g a).1 = 10 ∧ 0 ≤ j ∧ j < (mKd g a).2) ∧ Wp E 62 37 ls (.inl (μ a j.toNat) :: st) g μ Q) := Wp_ald k62_36 (fun _ => rfl)
theorem k62_37 : mCode 62 37 = some (.iload_n 1, 1) := by decide +kernel
theorem x62_37 {E : ME} {ls : MLs} {st : List MV} {g : MG} {μ : MU} {Q : Option MV → MG → MU → Prop} {l0 : Option MV} {v : Int} : Wp E 62 37 (l0 :: some (.inl v) :: ls) st g μ Q = Wp E 62 38 (l0 :: some (.inl v) :: ls) (.inl v :: st) g μ Q := Wp_nx k62_37 rfl
theorem k62_38 : mCode 62 38 = some (.if_icmp .le 6, 3) := by decide +kernel
theorem x62_38 {E : ME} {ls : MLs} {st : List MV} {g : MG} {μ : MU} {Q : Option MV → MG → MU → Prop} {a b : Int} : Wp E 62 38 ls (.inl b :: .inl a :: st) g μ Q = ((a ≤ b → Wp E 62 44 ls st g μ Q) ∧ (b < a → Wp E 62 41 ls st g μ Q)) := Wp_cmp_le k62_38 (by decide)
theorem k62_41 : mCode 62 41 = some (.iload 4, 2) := by decide +kernel
theorem x62_41 {E : ME} {ls : MLs} {st : List MV} {g : MG} {μ : MU} {Q : Option MV → MG → MU → Prop} {l0 l1 l2 l3 : Option MV} {v : Int} : Wp E 62 41 (l0 :: l1 :: l2 :: l3 :: some (.inl v) :: ls) st g μ Q = Wp E 62 43 (l0 :: l1 :: l2 :: l3 :: some (.inl v) :: ls) (.inl v :: st) g μ Q := Wp_nx k62_41 rfl
theorem k62_43 : mCode 62 43 = some (.ireturn, 1) := by decide +kernel
theorem x62_43 {E : ME} {ls : MLs} {g : MG} {μ : MU} {Q : Option MV → MG → MU → Prop} {v : Int} : Wp E 62 43 ls [.inl v] g μ Q = Q (some (.inl v)) g μ := Wp_retI k62_43 (by decide)
theorem k62_44 : mCode 62 44 = some (.aload_n 0, 1) := by decide +kernel
theorem x62_44 {E : ME} {ls : MLs} {st : List MV} {g : MG} {μ : MU} {Q : Option MV → MG → MU → Prop} {v : Nat ⊕ Nat} : Wp E 62 44 (some (.inr (.inr v)) :: ls) st g μ Q = Wp E 62 45 (some (.inr (.inr v)) :: ls) (.inr (.inr v) :: st) g μ Q := Wp_nx k62_44 rfl
theorem k62_45 : mCode 62 45 = some (.getfield 10, 3) := by decide +kernel
theorem x62_45 {E : ME} {ls : MLs} {st : List MV} {g : MG} {μ : MU} {Q : Option MV → MG → MU → Prop} {a : Nat} : Wp E 62 45 ls (.inr (.inr (.inl a)) :: st) g μ Q = ((mKd g a).1 = 5 ∧ Wp E 62 48 ls (mRv (mRf g a 0) :: st) g μ Q) := Wp_getR k62_45 f5_10 (by decide) (by decide)
theorem k62_48 : mCode 62 48 = some (.getfield 113, 3) := by decide +kernel
theorem x62_48 {E : ME} {ls : MLs} {st : List MV} {g : MG} {μ : MU} {Q : Option MV → MG → MU → Prop} {a : Nat} : Wp E 62 48 ls (.inr (.inr (.inl a)) :: st) g μ Q = ((mKd g a).1 = 0 ∧ Wp E 62 51 ls (mRv (mRf g a 8) :: st) g μ Q) := Wp_getR k62_48 f5_113 (by decide) (by decide)
theorem k62_51 : mCode 62 51 = some (.iload 5, 2) := by decide +kernel
theorem x62_51 {E : ME} {ls : MLs} {st : List MV} {g : MG} {μ : MU} {Q : Option MV → MG → MU → Prop} {l0 l1 l2 l3 l4 : Option MV} {v : Int} : Wp E 62 51 (l0 :: l1 :: l2 :: l3 :: l4 :: some (.inl v) :: ls) st g μ Q = Wp E 62 53 (l0 :: l1 :: l2 :: l3 :: l4 :: some (.inl v) :: ls) (.inl v :: st) g μ Q := Wp_nx k62_51 rfl
theorem k62_53 : mCode 62 53 = some (.iaload, 1) := by decide +kernel
theorem x62_53 {E : ME} {ls : MLs} {st : List MV} {g : MG} {μ : MU} {Q : Option MV → MG → MU → Prop} {a : Nat} {j : Int} : Wp E 62 53 ls (.inl j :: .inr (.inr (.inl a)) :: st) g μ Q = (((mKd g a).1 = 10 ∧ 0 ≤ j ∧ j < (mKd g a).2) ∧ Wp E 62 54 ls (.inl (μ a j.toNat) :: st) g μ Q) := Wp_ald k62_53 (fun _ => rfl)
theorem k62_54 : mCode 62 54 = some (.iload_n 2, 1) := by decide +kernel
theorem x62_54 {E : ME} {ls : MLs} {st : List MV} {g : MG} {μ : MU} {Q : Option MV → MG → MU → Prop} {l0 l1 : Option MV} {v : Int} : Wp E 62 54 (l0 :: l1 :: some (.inl v) :: ls) st g μ Q = Wp E 62 55 (l0 :: l1 :: some (.inl v) :: ls) (.inl v :: st) g μ Q := Wp_nx k62_54 rfl
theorem k62_55 : mCode 62 55 = some (.if_icmp .ne 34, 3) := by decide +kernel
theorem x62_55 {E : ME} {ls : MLs} {st : List MV} {g : MG} {μ : MU} {Q : Option MV → MG → MU → Prop} {a b : Int} : Wp E 62 55 ls (.inl b :: .inl a :: st) g μ Q = ((¬ a = b → Wp E 62 89 ls st g μ Q) ∧ (a = b → Wp E 62 58 ls st g μ Q)) := Wp_cmp_ne k62_55 (by decide)
theorem k62_58 : mCode 62 58 = some (.aload_n 0, 1) := by decide +kernel
theorem x62_58 {E : ME} {ls : MLs} {st : List MV} {g : MG} {μ : MU} {Q : Option MV → MG → MU → Prop} {v : Nat ⊕ Nat} : Wp E 62 58 (some (.inr (.inr v)) :: ls) st g μ Q = Wp E 62 59 (some (.inr (.inr v)) :: ls) (.inr (.inr v) :: st) g μ Q := Wp_nx k62_58 rfl
theorem k62_59 : mCode 62 59 = some (.getfield 51, 3) := by decide +kernel
theorem x62_59 {E : ME} {ls : MLs} {st : List MV} {g : MG} {μ : MU} {Q : Option MV → MG → MU → Prop} {a : Nat} : Wp E 62 59 ls (.inr (.inr (.inl a)) :: st) g μ Q = ((mKd g a).1 = 5 ∧ Wp E 62 62 ls (mRv (mRf g a 7) :: st) g μ Q) := Wp_getR k62_59 f5_51 (by decide) (by decide)
theorem k62_62 : mCode 62 62 = some (.aload_n 0, 1) := by decide +kernel
theorem x62_62 {E : ME} {ls : MLs} {st : List MV} {g : MG} {μ : MU} {Q : Option MV → MG → MU → Prop} {v : Nat ⊕ Nat} : Wp E 62 62 (some (.inr (.inr v)) :: ls) st g μ Q = Wp E 62 63 (some (.inr (.inr v)) :: ls) (.inr (.inr v) :: st) g μ Q := Wp_nx k62_62 rfl
theorem k62_63 : mCode 62 63 = some (.getfield 10, 3) := by decide +kernel
theorem x62_63 {E : ME} {ls : MLs} {st : List MV} {g : MG} {μ : MU} {Q : Option MV → MG → MU → Prop} {a : Nat} : Wp E 62 63 ls (.inr (.inr (.inl a)) :: st) g μ Q = ((mKd g a).1 = 5 ∧ Wp E 62 66 ls (mRv (mRf g a 0) :: st) g μ Q) := Wp_getR k62_63 f5_10 (by decide) (by decide)
theorem k62_66 : mCode 62 66 = some (.aload_n 0, 1) := by decide +kernel
theorem x62_66 {E : ME} {ls : MLs} {st : List MV} {g : MG} {μ : MU} {Q : Option MV → MG → MU → Prop} {v : Nat ⊕ Nat} : Wp E 62 66 (some (.inr (.inr v)) :: ls) st g μ Q = Wp E 62 67 (some (.inr (.inr v)) :: ls) (.inr (.inr v) :: st) g μ Q := Wp_nx k62_66 rfl
theorem k62_67 : mCode 62 67 = some (.getfield 10, 3) := by decide +kernel
theorem x62_67 {E : ME} {ls : MLs} {st : List MV} {g : MG} {μ : MU} {Q : Option MV → MG → MU → Prop} {a : Nat} : Wp E 62 67 ls (.inr (.inr (.inl a)) :: st) g μ Q = ((mKd g a).1 = 5 ∧ Wp E 62 70 ls (mRv (mRf g a 0) :: st) g μ Q) := Wp_getR k62_67 f5_10 (by decide) (by decide)
theorem k62_70 : mCode 62 70 = some (.getfield 133, 3) := by decide +kernel
theorem x62_70 {E : ME} {ls : MLs} {st : List MV} {g : MG} {μ : MU} {Q : Option MV → MG → MU → Prop} {a : Nat} : Wp E 62 70 ls (.inr (.inr (.inl a)) :: st) g μ Q = ((mKd g a).1 = 0 ∧ Wp E 62 73 ls (mRv (mRf g a 9) :: st) g μ Q) := Wp_getR k62_70 f5_133 (by decide) (by decide)
theorem k62_73 : mCode 62 73 = some (.iload 5, 2) := by decide +kernel
theorem x62_73 {E : ME} {ls : MLs} {st : List MV} {g : MG} {μ : MU} {Q : Option MV → MG → MU → Prop} {l0 l1 l2 l3 l4 : Option MV} {v : Int} : Wp E 62 73 (l0 :: l1 :: l2 :: l3 :: l4 :: some (.inl v) :: ls) st g μ Q = Wp E 62 75 (l0 :: l1 :: l2 :: l3 :: l4 :: some (.inl v) :: ls) (.inl v :: st) g μ Q := Wp_nx k62_73 rfl
theorem k62_75 : mCode 62 75 = some (.iaload, 1) := by decide +kernel
theorem x62_75 {E : ME} {ls : MLs} {st : List MV} {g : MG} {μ : MU} {Q : Option MV → MG → MU → Prop} {a : Nat} {j : Int} : Wp E 62 75 ls (.inl j :: .inr (.inr (.inl a)) :: st) g μ Q = (((mKd g a).1 = 10 ∧ 0 ≤ j ∧ j < (mKd g a).2) ∧ Wp E 62 76 ls (.inl (μ a j.toNat) :: st) g μ Q) := Wp_ald k62_75 (fun _ => rfl)
theorem k62_76 : mCode 62 76 = some (.aload_n 0, 1) := by decide +kernel
theorem x62_76 {E : ME} {ls : MLs} {st : List MV} {g : MG} {μ : MU} {Q : Option MV → MG → MU → Prop} {v : Nat ⊕ Nat} : Wp E 62 76 (some (.inr (.inr v)) :: ls) st g μ Q = Wp E 62 77 (some (.inr (.inr v)) :: ls) (.inr (.inr v) :: st) g μ Q := Wp_nx k62_76 rfl
theorem k62_77 : mCode 62 77 = some (.getfield 10, 3) := by decide +kernel
theorem x62_77 {E : ME} {ls : MLs} {st : List MV} {g : MG} {μ : MU} {Q : Option MV → MG → MU → Prop} {a : Nat} : Wp E 62 77 ls (.inr (.inr (.inl a)) :: st) g μ Q = ((mKd g a).1 = 5 ∧ Wp E 62 80 ls (mRv (mRf g a 0) :: st) g μ Q) := Wp_getR k62_77 f5_10 (by decide) (by decide)
theorem k62_80 : mCode 62 80 = some (.getfield 136, 3) := by decide +kernel
theorem x62_80 {E : ME} {ls : MLs} {st : List MV} {g : MG} {μ : MU} {Q : Option MV → MG → MU → Prop} {a : Nat} : Wp E 62 80 ls (.inr (.inr (.inl a)) :: st) g μ Q = ((mKd g a).1 = 0 ∧ Wp E 62 83 ls (mRv (mRf g a 10) :: st) g μ Q) := Wp_getR k62_80 f5_136 (by decide) (by decide)
theorem k62_83 : mCode 62 83 = some (.iload 5, 2) := by decide +kernel
theorem x62_83 {E : ME} {ls : MLs} {st : List MV} {g : MG} {μ : MU} {Q : Option MV → MG → MU → Prop} {l0 l1 l2 l3 l4 : Option MV} {v : Int} : Wp E 62 83 (l0 :: l1 :: l2 :: l3 :: l4 :: some (.inl v) :: ls) st g μ Q = Wp E 62 85 (l0 :: l1 :: l2 :: l3 :: l4 :: some (.inl v) :: ls) (.inl v :: st) g μ Q := Wp_nx k62_83 rfl
theorem k62_85 : mCode 62 85 = some (.iaload, 1) := by decide +kernel
theorem x62_85 {E : ME} {ls : MLs} {st : List MV} {g : MG} {μ : MU} {Q : Option MV → MG → MU → Prop} {a : Nat} {j : Int} : Wp E 62 85 ls (.inl j :: .inr (.inr (.inl a)) :: st) g μ Q = (((mKd g a).1 = 10 ∧ 0 ≤ j ∧ j < (mKd g a).2) ∧ Wp E 62 86 ls (.inl (μ a j.toNat) :: st) g μ Q) := Wp_ald k62_85 (fun _ => rfl)
theorem k62_86 : mCode 62 86 = some (.invokevirtual 219, 3) := by decide +kernel
theorem x62_86 {E : ME} {ls : MLs} {st : List MV} {g : MG} {μ : MU} {Q : Option MV → MG → MU → Prop} {r : Nat} {a0 : Nat ⊕ Nat} {a1 : Int} {a2 : Int} : Wp E 62 86 ls (.inl a2 :: .inl a1 :: .inr (.inr a0) :: .inr (.inr (.inl r)) :: st) g μ Q = ((st.length ≤ 4 ∧ ((mKd g r).1 == 4) = true) ∧ Wp E 37 0 [some (.inr (.inr (.inl r))), some (.inr (.inr a0)), some (.inl a1), some (.inl a2), none, none, none] [] g μ (fun r g' μ' => (g'.1 = g.1 ∧ g'.2.1 = g.2.1) ∧ Wp E 62 89 ls (mPush r st) g' μ' Q)) := Wp_cV k62_86 m5_219 (by decide) (as := [.inr (.inr (.inl r)), .inr (.inr a0), .inl a1, .inl a2]) rfl rfl rfl ⟨Nat.le_of_ble_eq_true rfl, by decide⟩
theorem k62_89 : mCode 62 89 = some (.iinc 4 1, 3) := by decide +kernel
theorem x62_89 {E : ME} {ls : MLs} {st : List MV} {g : MG} {μ : MU} {Q : Option MV → MG → MU → Prop} {l0 l1 l2 l3 : Option MV} {v : Int} : Wp E 62 89 (l0 :: l1 :: l2 :: l3 :: some (.inl v) :: ls) st g μ Q = (mNl (some l3) = true ∧ Wp E 62 92 (l0 :: l1 :: l2 :: l3 :: some (.inl (mWr (v + 1))) :: ls) st g μ Q) := Wp_inc k62_89 rfl rfl rfl
theorem k62_92 : mCode 62 92 = some (.goto (-89), 3) := by decide +kernel
theorem x62_92 {E : ME} {ls : MLs} {st : List MV} {g : MG} {μ : MU} {Q : Option MV → MG → MU → Prop} : Wp E 62 92 ls st g μ Q = Wp E 62 3 ls st g μ Q := Wp_goto k62_92 (by decide)
theorem k62_95 : mCode 62 95 = some (.aload_n 0, 1) := by decide +kernel
theorem x62_95 {E : ME} {ls : MLs} {st : List MV} {g : MG} {μ : MU} {Q : Option MV → MG → MU → Prop} {v : Nat ⊕ Nat} : Wp E 62 95 (some (.inr (.inr v)) :: ls) st g μ Q = Wp E 62 96 (some (.inr (.inr v)) :: ls) (.inr (.inr v) :: st) g μ Q := Wp_nx k62_95 rfl
theorem k62_96 : mCode 62 96 = some (.getfield 10, 3) := by decide +kernel
theorem x62_96 {E : ME} {ls : MLs} {st : List MV} {g : MG} {μ : MU} {Q : Option MV → MG → MU → Prop} {a : Nat} : Wp E 62 96 ls (.inr (.inr (.inl a)) :: st) g μ Q = ((mKd g a).1 = 5 ∧ Wp E 62 99 ls (mRv (mRf g a 0) :: st) g μ Q) := Wp_getR k62_96 f5_10 (by decide) (by decide)
theorem k62_99 : mCode 62 99 = some (.getfield 181, 3) := by decide +kernel
theorem x62_99 {E : ME} {ls : MLs} {st : List MV} {g : MG} {μ : MU} {Q : Option MV → MG → MU → Prop} {a : Nat} : Wp E 62 99 ls (.inr (.inr (.inl a)) :: st) g μ Q = ((mKd g a).1 = 0 ∧ Wp E 62 102 ls (.inl (μ a 7) :: st) g μ Q) := Wp_getI k62_99 f5_181 (by decide) (by decide)
theorem k62_102 : mCode 62 102 = some (.ireturn, 1) := by decide +kernel
theorem x62_102 {E : ME} {ls : MLs} {g : MG} {μ : MU} {Q : Option MV → MG → MU → Prop} {v : Int} : Wp E 62 102 ls [.inl v] g μ Q = Q (some (.inl v)) g μ := Wp_retI k62_102 (by decide)
theorem k63_0 : mCode 63 0 = some (.iload_n 2, 1) := by decide +kernel
theorem x63_0 {E : ME} {ls : MLs} {st : List MV} {g : MG} {μ : MU} {Q : Option MV → MG → MU → Prop} {l0 l1 : Option MV} {v : Int} : Wp E 63 0 (l0 :: l1 :: some (.inl v) :: ls) st g μ Q = Wp E 63 1 (l0 :: l1 :: some (.inl v) :: ls) (.inl v :: st) g μ Q := Wp_nx k63_0 rfl
theorem k63_1 : mCode 63 1 = some (.istore_n 3, 1) := by decide +kernel
theorem x63_1 {E : ME} {ls : MLs} {st : List MV} {g : MG} {μ : MU} {Q : Option MV → MG → MU → Prop} {l0 l1 l2 : Option MV} {lk : Option MV} {v : Int} : Wp E 63 1 (l0 :: l1 :: l2 :: lk :: ls) (.inl v :: st) g μ Q = ((mNl (some l2) = true ∧ mNl (some lk) = true) ∧ Wp E 63 2 (l0 :: l1 :: l2 :: some (.inl v) :: ls) st g μ Q) := Wp_sti k63_1 (fun _ => rfl) rfl rfl rfl
theorem k63_2 : mCode 63 2 = some (.iload_n 3, 1) := by decide +kernel
theorem x63_2 {E : ME} {ls : MLs} {st : List MV} {g : MG} {μ : MU} {Q : Option MV → MG → MU → Prop} {l0 l1 l2 : Option MV} {v : Int} : Wp E 63 2 (l0 :: l1 :: l2 :: some (.inl v) :: ls) st g μ Q = Wp E 63 3 (l0 :: l1 :: l2 :: some (.inl v) :: ls) (.inl v :: st) g μ Q := Wp_nx k63_2 rfl
theorem k63_3 : mCode 63 3 = some (.aload_n 0, 1) := by decide +kernel
theorem x63_3 {E : ME} {ls : MLs} {st : List MV} {g : MG} {μ : MU} {Q : Option MV → MG → MU → Prop} {v : Nat ⊕ Nat} : Wp E 63 3 (some (.inr (.inr v)) :: ls) st g μ Q = Wp E 63 4 (some (.inr (.inr v)) :: ls) (.inr (.inr v) :: st) g μ Q := Wp_nx k63_3 rfl
theorem k63_4 : mCode 63 4 = some (.getfield 10, 3) := by decide +kernel
theorem x63_4 {E : ME} {ls : MLs} {st : List MV} {g : MG} {μ : MU} {Q : Option MV → MG → MU → Prop} {a : Nat} : Wp E 63 4 ls (.inr (.inr (.inl a)) :: st) g μ Q = ((mKd g a).1 = 5 ∧ Wp E 63 7 ls (mRv (mRf g a 0) :: st) g μ Q) := Wp_getR k63_4 f5_10 (by decide) (by decide)
theorem k63_7 : mCode 63 7 = some (.getfield 181, 3) := by decide +kernel
theorem x63_7 {E : ME} {ls : MLs} {st : List MV} {g : MG} {μ : MU} {Q : Option MV → MG → MU → Prop} {a : Nat} : Wp E 63 7 ls (.inr (.inr (.inl a)) :: st) g μ Q = ((mKd g a).1 = 0 ∧ Wp E 63 10 ls (.inl (μ a 7) :: st) g μ Q) := Wp_getI k63_7 f5_181 (by decide) (by decide)
theorem k63_10 : mCode 63 10 = some (.if_icmp .ge 116, 3) := by decide +kernel
theorem x63_10 {E : ME} {ls : MLs} {st : List MV} {g : MG} {μ : MU} {Q : Option MV → MG → MU → Prop} {a b : Int} : Wp E 63 10 ls (.inl b :: .inl a :: st) g μ Q = ((b ≤ a → Wp E 63 126 ls st g μ Q) ∧ (a < b → Wp E 63 13 ls st g μ Q)) := Wp_cmp_ge k63_10 (by decide)
theorem k63_13 : mCode 63 13 = some (.aload_n 0, 1) := by decide +kernel
theorem x63_13 {E : ME} {ls : MLs} {st : List MV} {g : MG} {μ : MU} {Q : Option MV → MG → MU → Prop} {v : Nat ⊕ Nat} : Wp E 63 13 (some (.inr (.inr v)) :: ls) st g μ Q = Wp E 63 14 (some (.inr (.inr v)) :: ls) (.inr (.inr v) :: st) g μ Q := Wp_nx k63_13 rfl
theorem k63_14 : mCode 63 14 = some (.getfield 19, 3) := by decide +kernel
theorem x63_14 {E : ME} {ls : MLs} {st : List MV} {g : MG} {μ : MU} {Q : Option MV → MG → MU → Prop} {a : Nat} : Wp E 63 14 ls (.inr (.inr (.inl a)) :: st) g μ Q = ((mKd g a).1 = 5 ∧ Wp E 63 17 ls (mRv (mRf g a 1) :: st) g μ Q) := Wp_getR k63_14 f5_19 (by decide) (by decide)
theorem k63_17 : mCode 63 17 = some (.getfield 210, 3) := by decide +kernel
theorem x63_17 {E : ME} {ls : MLs} {st : List MV} {g : MG} {μ : MU} {Q : Option MV → MG → MU → Prop} {a : Nat} : Wp E 63 17 ls (.inr (.inr (.inl a)) :: st) g μ Q = ((mKd g a).1 = 3 ∧ Wp E 63 20 ls (mRv (mRf g a 0) :: st) g μ Q) := Wp_getR k63_17 f5_210 (by decide) (by decide)
theorem k63_20 : mCode 63 20 = some (.iload_n 3, 1) := by decide +kernel
theorem x63_20 {E : ME} {ls : MLs} {st : List MV} {g : MG} {μ : MU} {Q : Option MV → MG → MU → Prop} {l0 l1 l2 : Option MV} {v : Int} : Wp E 63 20 (l0 :: l1 :: l2 :: some (.inl v) :: ls) st g μ Q = Wp E 63 21 (l0 :: l1 :: l2 :: some (.inl v) :: ls) (.inl v :: st) g μ Q := Wp_nx k63_20 rfl
theorem k63_21 : mCode 63 21 = some (.iaload, 1) := by decide +kernel
theorem x63_21 {E : ME} {ls : MLs} {st : List MV} {g : MG} {μ : MU} {Q : Option MV → MG → MU → Prop} {a : Nat} {j : Int} : Wp E 63 21 ls (.inl j :: .inr (.inr (.inl a)) :: st) g μ Q = (((mKd g a).1 = 10 ∧ 0 ≤ j ∧ j < (mKd g a).2) ∧ Wp E 63 22 ls (.inl (μ a j.toNat) :: st) g μ Q) := Wp_ald k63_21 (fun _ => rfl)
theorem k63_22 : mCode 63 22 = some (.istore 4, 2) := by decide +kernel
theorem x63_22 {E : ME} {ls : MLs} {st : List MV} {g : MG} {μ : MU} {Q : Option MV → MG → MU → Prop} {l0 l1 l2 l3 : Option MV} {lk : Option MV} {v : Int} : Wp E 63 22 (l0 :: l1 :: l2 :: l3 :: lk :: ls) (.inl v :: st) g μ Q = ((mNl (some l3) = true ∧ mNl (some lk) = true) ∧ Wp E 63 24 (l0 :: l1 :: l2 :: l3 :: some (.inl v) :: ls) st g μ Q) := Wp_sti k63_22 (fun _ => rfl) rfl rfl rfl
theorem k63_24 : mCode 63 24 = some (.aload_n 0, 1) := by decide +kernel
theorem x63_24 {E : ME} {ls : MLs} {st : List MV} {g : MG} {μ : MU} {Q : Option MV → MG → MU → Prop} {v : Nat ⊕ Nat} : Wp E 63 24 (some (.inr (.inr v)) :: ls) st g μ Q = Wp E 63 25 (some (.inr (.inr v)) :: ls) (.inr (.inr v) :: st) g μ Q := Wp_nx k63_24 rfl
theorem k63_25 : mCode 63 25 = some (.getfield 10, 3) := by decide +kernel
theorem x63_25 {E : ME} {ls : MLs} {st : List MV} {g : MG} {μ : MU} {Q : Option MV → MG → MU → Prop} {a : Nat} : Wp E 63 25 ls (.inr (.inr (.inl a)) :: st) g μ Q = ((mKd g a).1 = 5 ∧ Wp E 63 28 ls (mRv (mRf g a 0) :: st) g μ Q) := Wp_getR k63_25 f5_10 (by decide) (by decide)
theorem k63_28 : mCode 63 28 = some (.getfield 113, 3) := by decide +kernel
theorem x63_28 {E : ME} {ls : MLs} {st : List MV} {g : MG} {μ : MU} {Q : Option MV → MG → MU → Prop} {a : Nat} : Wp E 63 28 ls (.inr (.inr (.inl a)) :: st) g μ Q = ((mKd g a).1 = 0 ∧ Wp E 63 31 ls (mRv (mRf g a 8) :: st) g μ Q) := Wp_getR k63_28 f5_113 (by decide) (by decide)
theorem k63_31 : mCode 63 31 = some (.iload 4, 2) := by decide +kernel
theorem x63_31 {E : ME} {ls : MLs} {st : List MV} {g : MG} {μ : MU} {Q : Option MV → MG → MU → Prop} {l0 l1 l2 l3 : Option MV} {v : Int} : Wp E 63 31 (l0 :: l1 :: l2 :: l3 :: some (.inl v) :: ls) st g μ Q = Wp E 63 33 (l0 :: l1 :: l2 :: l3 :: some (.inl v) :: ls) (.inl v :: st) g μ Q := Wp_nx k63_31 rfl
theorem k63_33 : mCode 63 33 = some (.iaload, 1) := by decide +kernel
theorem x63_33 {E : ME} {ls : MLs} {st : List MV} {g : MG} {μ : MU} {Q : Option MV → MG → MU → Prop} {a : Nat} {j : Int} : Wp E 63 33 ls (.inl j :: .inr (.inr (.inl a)) :: st) g μ Q = (((mKd g a).1 = 10 ∧ 0 ≤ j ∧ j < (mKd g a).2) ∧ Wp E 63 34 ls (.inl (μ a j.toNat) :: st) g μ Q) := Wp_ald k63_33 (fun _ => rfl)
theorem k63_34 : mCode 63 34 = some (.iload_n 1, 1) := by decide +kernel
theorem x63_34 {E : ME} {ls : MLs} {st : List MV} {g : MG} {μ : MU} {Q : Option MV → MG → MU → Prop} {l0 : Option MV} {v : Int} : Wp E 63 34 (l0 :: some (.inl v) :: ls) st g μ Q = Wp E 63 35 (l0 :: some (.inl v) :: ls) (.inl v :: st) g μ Q := Wp_nx k63_34 rfl
theorem k63_35 : mCode 63 35 = some (.if_icmp .eq 6, 3) := by decide +kernel
theorem x63_35 {E : ME} {ls : MLs} {st : List MV} {g : MG} {μ : MU} {Q : Option MV → MG → MU → Prop} {a b : Int} : Wp E 63 35 ls (.inl b :: .inl a :: st) g μ Q = ((a = b → Wp E 63 41 ls st g μ Q) ∧ (¬ a = b → Wp E 63 38 ls st g μ Q)) := Wp_cmp_eq k63_35 (by decide)
theorem k63_38 : mCode 63 38 = some (.goto 82, 3) := by decide +kernel
theorem x63_38 {E : ME} {ls : MLs} {st : List MV} {g : MG} {μ : MU} {Q : Option MV → MG → MU → Prop} : Wp E 63 38 ls st g μ Q = Wp E 63 120 ls st g μ Q := Wp_goto k63_38 (by decide)
theorem k63_41 : mCode 63 41 = some (.aload_n 0, 1) := by decide +kernel
theorem x63_41 {E : ME} {ls : MLs} {st : List MV} {g : MG} {μ : MU} {Q : Option MV → MG → MU → Prop} {v : Nat ⊕ Nat} : Wp E 63 41 (some (.inr (.inr v)) :: ls) st g μ Q = Wp E 63 42 (some (.inr (.inr v)) :: ls) (.inr (.inr v) :: st) g μ Q := Wp_nx k63_41 rfl
theorem k63_42 : mCode 63 42 = some (.getfield 55, 3) := by decide +kernel
theorem x63_42 {E : ME} {ls : MLs} {st : List MV} {g : MG} {μ : MU} {Q : Option MV → MG → MU → Prop} {a : Nat} : Wp E 63 42 ls (.inr (.inr (.inl a)) :: st) g μ Q = ((mKd g a).1 = 5 ∧ Wp E 63 45 ls (mRv (mRf g a 8) :: st) g μ Q) := Wp_getR k63_42 f5_55 (by decide) (by decide)
theorem k63_45 : mCode 63 45 = some (.aload_n 0, 1) := by decide +kernel
theorem x63_45 {E : ME} {ls : MLs} {st : List MV} {g : MG} {μ : MU} {Q : Option MV → MG → MU → Prop} {v : Nat ⊕ Nat} : Wp E 63 45 (some (.inr (.inr v)) :: ls) st g μ Q = Wp E 63 46 (some (.inr (.inr v)) :: ls) (.inr (.inr v) :: st) g μ Q := Wp_nx k63_45 rfl
theorem k63_46 : mCode 63 46 = some (.getfield 10, 3) := by decide +kernel
theorem x63_46 {E : ME} {ls : MLs} {st : List MV} {g : MG} {μ : MU} {Q : Option MV → MG → MU → Prop} {a : Nat} : Wp E 63 46 ls (.inr (.inr (.inl a)) :: st) g μ Q = ((mKd g a).1 = 5 ∧ Wp E 63 49 ls (mRv (mRf g a 0) :: st) g μ Q) := Wp_getR k63_46 f5_10 (by decide) (by decide)
theorem k63_49 : mCode 63 49 = some (.aload_n 0, 1) := by decide +kernel
theorem x63_49 {E : ME} {ls : MLs} {st : List MV} {g : MG} {μ : MU} {Q : Option MV → MG → MU → Prop} {v : Nat ⊕ Nat} : Wp E 63 49 (some (.inr (.inr v)) :: ls) st g μ Q = Wp E 63 50 (some (.inr (.inr v)) :: ls) (.inr (.inr v) :: st) g μ Q := Wp_nx k63_49 rfl
theorem k63_50 : mCode 63 50 = some (.getfield 10, 3) := by decide +kernel
theorem x63_50 {E : ME} {ls : MLs} {st : List MV} {g : MG} {μ : MU} {Q : Option MV → MG → MU → Prop} {a : Nat} : Wp E 63 50 ls (.inr (.inr (.inl a)) :: st) g μ Q = ((mKd g a).1 = 5 ∧ Wp E 63 53 ls (mRv (mRf g a 0) :: st) g μ Q) := Wp_getR k63_50 f5_10 (by decide) (by decide)
theorem k63_53 : mCode 63 53 = some (.getfield 133, 3) := by decide +kernel
theorem x63_53 {E : ME} {ls : MLs} {st : List MV} {g : MG} {μ : MU} {Q : Option MV → MG → MU → Prop} {a : Nat} : Wp E 63 53 ls (.inr (.inr (.inl a)) :: st) g μ Q = ((mKd g a).1 = 0 ∧ Wp E 63 56 ls (mRv (mRf g a 9) :: st) g μ Q) := Wp_getR k63_53 f5_133 (by decide) (by decide)
theorem k63_56 : mCode 63 56 = some (.iload 4, 2) := by decide +kernel
theorem x63_56 {E : ME} {ls : MLs} {st : List MV} {g : MG} {μ : MU} {Q : Option MV → MG → MU → Prop} {l0 l1 l2 l3 : Option MV} {v : Int} : Wp E 63 56 (l0 :: l1 :: l2 :: l3 :: some (.inl v) :: ls) st g μ Q = Wp E 63 58 (l0 :: l1 :: l2 :: l3 :: some (.inl v) :: ls) (.inl v :: st) g μ Q := Wp_nx k63_56 rfl
theorem k63_58 : mCode 63 58 = some (.iaload, 1) := by decide +kernel
theorem x63_58 {E : ME} {ls : MLs} {st : List MV} {g : MG} {μ : MU} {Q : Option MV → MG → MU → Prop} {a : Nat} {j : Int} : Wp E 63 58 ls (.inl j :: .inr (.inr (.inl a)) :: st) g μ Q = (((mKd g a).1 = 10 ∧ 0 ≤ j ∧ j < (mKd g a).2) ∧ Wp E 63 59 ls (.inl (μ a j.toNat) :: st) g μ Q) := Wp_ald k63_58 (fun _ => rfl)
theorem k63_59 : mCode 63 59 = some (.aload_n 0, 1) := by decide +kernel
theorem x63_59 {E : ME} {ls : MLs} {st : List MV} {g : MG} {μ : MU} {Q : Option MV → MG → MU → Prop} {v : Nat ⊕ Nat} : Wp E 63 59 (some (.inr (.inr v)) :: ls) st g μ Q = Wp E 63 60 (some (.inr (.inr v)) :: ls) (.inr (.inr v) :: st) g μ Q := Wp_nx k63_59 rfl
theorem k63_60 : mCode 63 60 = some (.getfield 10, 3) := by decide +kernel
theorem x63_60 {E : ME} {ls : MLs} {st : List MV} {g : MG} {μ : MU} {Q : Option MV → MG → MU → Prop} {a : Nat} : Wp E 63 60 ls (.inr (.inr (.inl a)) :: st) g μ Q = ((mKd g a).1 = 5 ∧ Wp E 63 63 ls (mRv (mRf g a 0) :: st) g μ Q) := Wp_getR k63_60 f5_10 (by decide) (by decide)
theorem k63_63 : mCode 63 63 = some (.getfield 136, 3) := by decide +kernel
theorem x63_63 {E : ME} {ls : MLs} {st : List MV} {g : MG} {μ : MU} {Q : Option MV → MG → MU → Prop} {a : Nat} : Wp E 63 63 ls (.inr (.inr (.inl a)) :: st) g μ Q = ((mKd g a).1 = 0 ∧ Wp E 63 66 ls (mRv (mRf g a 10) :: st) g μ Q) := Wp_getR k63_63 f5_136 (by decide) (by decide)
theorem k63_66 : mCode 63 66 = some (.iload 4, 2) := by decide +kernel
theorem x63_66 {E : ME} {ls : MLs} {st : List MV} {g : MG} {μ : MU} {Q : Option MV → MG → MU → Prop} {l0 l1 l2 l3 : Option MV} {v : Int} : Wp E 63 66 (l0 :: l1 :: l2 :: l3 :: some (.inl v) :: ls) st g μ Q = Wp E 63 68 (l0 :: l1 :: l2 :: l3 :: some (.inl v) :: ls) (.inl v :: st) g μ Q := Wp_nx k63_66 rfl
theorem k63_68 : mCode 63 68 = some (.iaload, 1) := by decide +kernel
theorem x63_68 {E : ME} {ls : MLs} {st : List MV} {g : MG} {μ : MU} {Q : Option MV → MG → MU → Prop} {a : Nat} {j : Int} : Wp E 63 68 ls (.inl j :: .inr (.inr (.inl a)) :: st) g μ Q = (((mKd g a).1 = 10 ∧ 0 ≤ j ∧ j < (mKd g a).2) ∧ Wp E 63 69 ls (.inl (μ a j.toNat) :: st) g μ Q) := Wp_ald k63_68 (fun _ => rfl)
theorem k63_69 : mCode 63 69 = some (.invokevirtual 219, 3) := by decide +kernel
theorem x63_69 {E : ME} {ls : MLs} {st : List MV} {g : MG} {μ : MU} {Q : Option MV → MG → MU → Prop} {r : Nat} {a0 : Nat ⊕ Nat} {a1 : Int} {a2 : Int} : Wp E 63 69 ls (.inl a2 :: .inl a1 :: .inr (.inr a0) :: .inr (.inr (.inl r)) :: st) g μ Q = ((st.length ≤ 4 ∧ ((mKd g r).1 == 4) = true) ∧ Wp E 37 0 [some (.inr (.inr (.inl r))), some (.inr (.inr a0)), some (.inl a1), some (.inl a2), none, none, none] [] g μ (fun r g' μ' => (g'.1 = g.1 ∧ g'.2.1 = g.2.1) ∧ Wp E 63 72 ls (mPush r st) g' μ' Q)) := Wp_cV k63_69 m5_219 (by decide) (as := [.inr (.inr (.inl r)), .inr (.inr a0), .inl a1, .inl a2]) rfl rfl rfl ⟨Nat.le_of_ble_eq_true rfl, by decide⟩
theorem k63_72 : mCode 63 72 = some (.aload_n 0, 1) := by decide +kernel
theorem x63_72 {E : ME} {ls : MLs} {st : List MV} {g : MG} {μ : MU} {Q : Option MV → MG → MU → Prop} {v : Nat ⊕ Nat} : Wp E 63 72 (some (.inr (.inr v)) :: ls) st g μ Q = Wp E 63 73 (some (.inr (.inr v)) :: ls) (.inr (.inr v) :: st) g μ Q := Wp_nx k63_72 rfl
theorem k63_73 : mCode 63 73 = some (.getfield 55, 3) := by decide +kernel
theorem x63_73 {E : ME} {ls : MLs} {st : List MV} {g : MG} {μ : MU} {Q : Option MV → MG → MU → Prop} {a : Nat} : Wp E 63 73 ls (.inr (.inr (.inl a)) :: st) g μ Q = ((mKd g a).1 = 5 ∧ Wp E 63 76 ls (mRv (mRf g a 8) :: st) g μ Q) := Wp_getR k63_73 f5_55 (by decide) (by decide)
theorem k63_76 : mCode 63 76 = some (.getfield 233, 3) := by decide +kernel
theorem x63_76 {E : ME} {ls : MLs} {st : List MV} {g : MG} {μ : MU} {Q : Option MV → MG → MU → Prop} {a : Nat} : Wp E 63 76 ls (.inr (.inr (.inl a)) :: st) g μ Q = ((mKd g a).1 = 4 ∧ Wp E 63 79 ls (.inl (μ a 6) :: st) g μ Q) := Wp_getI k63_76 f5_233 (by decide) (by decide)
theorem k63_79 : mCode 63 79 = some (.aload_n 0, 1) := by decide +kernel
theorem x63_79 {E : ME} {ls : MLs} {st : List MV} {g : MG} {μ : MU} {Q : Option MV → MG → MU → Prop} {v : Nat ⊕ Nat} : Wp E 63 79 (some (.inr (.inr v)) :: ls) st g μ Q = Wp E 63 80 (some (.inr (.inr v)) :: ls) (.inr (.inr v) :: st) g μ Q := Wp_nx k63_79 rfl
theorem k63_80 : mCode 63 80 = some (.getfield 19, 3) := by decide +kernel
theorem x63_80 {E : ME} {ls : MLs} {st : List MV} {g : MG} {μ : MU} {Q : Option MV → MG → MU → Prop} {a : Nat} : Wp E 63 80 ls (.inr (.inr (.inl a)) :: st) g μ Q = ((mKd g a).1 = 5 ∧ Wp E 63 83 ls (mRv (mRf g a 1) :: st) g μ Q) := Wp_getR k63_80 f5_19 (by decide) (by decide)
theorem k63_83 : mCode 63 83 = some (.getfield 148, 3) := by decide +kernel
theorem x63_83 {E : ME} {ls : MLs} {st : List MV} {g : MG} {μ : MU} {Q : Option MV → MG → MU → Prop} {a : Nat} : Wp E 63 83 ls (.inr (.inr (.inl a)) :: st) g μ Q = ((mKd g a).1 = 3 ∧ Wp E 63 86 ls (mRv (mRf g a 3) :: st) g μ Q) := Wp_getR k63_83 f5_148 (by decide) (by decide)
theorem k63_86 : mCode 63 86 = some (.iload 4, 2) := by decide +kernel
theorem x63_86 {E : ME} {ls : MLs} {st : List MV} {g : MG} {μ : MU} {Q : Option MV → MG → MU → Prop} {l0 l1 l2 l3 : Option MV} {v : Int} : Wp E 63 86 (l0 :: l1 :: l2 :: l3 :: some (.inl v) :: ls) st g μ Q = Wp E 63 88 (l0 :: l1 :: l2 :: l3 :: some (.inl v) :: ls) (.inl v :: st) g μ Q := Wp_nx k63_86 rfl
theorem k63_88 : mCode 63 88 = some (.iaload, 1) := by decide +kernel
theorem x63_88 {E : ME} {ls : MLs} {st : List MV} {g : MG} {μ : MU} {Q : Option MV → MG → MU → Prop} {a : Nat} {j : Int} : Wp E 63 88 ls (.inl j :: .inr (.inr (.inl a)) :: st) g μ Q = (((mKd g a).1 = 10 ∧ 0 ≤ j ∧ j < (mKd g a).2) ∧ Wp E 63 89 ls (.inl (μ a j.toNat) :: st) g μ Q) := Wp_ald k63_88 (fun _ => rfl)
theorem k63_89 : mCode 63 89 = some (.if_icmp .gt 29, 3) := by decide +kernel
theorem x63_89 {E : ME} {ls : MLs} {st : List MV} {g : MG} {μ : MU} {Q : Option MV → MG → MU → Prop} {a b : Int} : Wp E 63 89 ls (.inl b :: .inl a :: st) g μ Q = ((b < a → Wp E 63 118 ls st g μ Q) ∧ (a ≤ b → Wp E 63 92 ls st g μ Q)) := Wp_cmp_gt k63_89 (by decide)
theorem k63_92 : mCode 63 92 = some (.aload_n 0, 1) := by decide +kernel
theorem x63_92 {E : ME} {ls : MLs} {st : List MV} {g : MG} {μ : MU} {Q : Option MV → MG → MU → Prop} {v : Nat ⊕ Nat} : Wp E 63 92 (some (.inr (.inr v)) :: ls) st g μ Q = Wp E 63 93 (some (.inr (.inr v)) :: ls) (.inr (.inr v) :: st) g μ Q := Wp_nx k63_92 rfl
theorem k63_93 : mCode 63 93 = some (.getfield 55, 3) := by decide +kernel
theorem x63_93 {E : ME} {ls : MLs} {st : List MV} {g : MG} {μ : MU} {Q : Option MV → MG → MU → Prop} {a : Nat} : Wp E 63 93 ls (.inr (.inr (.inl a)) :: st) g μ Q = ((mKd g a).1 = 5 ∧ Wp E 63 96 ls (mRv (mRf g a 8) :: st) g μ Q) := Wp_getR k63_93 f5_55 (by decide) (by decide)
theorem k63_96 : mCode 63 96 = some (.getfield 235, 3) := by decide +kernel
theorem x63_96 {E : ME} {ls : MLs} {st : List MV} {g : MG} {μ : MU} {Q : Option MV → MG → MU → Prop} {a : Nat} : Wp E 63 96 ls (.inr (.inr (.inl a)) :: st) g μ Q = ((mKd g a).1 = 4 ∧ Wp E 63 99 ls (.inl (μ a 7) :: st) g μ Q) := Wp_getI k63_96 f5_235 (by decide) (by decide)
theorem k63_99 : mCode 63 99 = some (.invokestatic 246, 3) := by decide +kernel
theorem x63_99 {E : ME} {ls : MLs} {st : List MV} {g : MG} {μ : MU} {Q : Option MV → MG → MU → Prop} {a0 : Int} : Wp E 63 99 ls (.inl a0 :: st) g μ Q = (st.length ≤ 4 ∧ Wp E 142 0 [some (.inl a0)] [] g μ (fun r g' μ' => (g'.1 = g.1 ∧ g'.2.1 = g.2.1) ∧ Wp E 63 102 ls (mPush r st) g' μ' Q)) := Wp_cS k63_99 m5_246 (by decide) (as := [.inl a0]) rfl rfl rfl ⟨Nat.le_of_ble_eq_true rfl, by decide⟩
theorem k63_102 : mCode 63 102 = some (.aload_n 0, 1) := by decide +kernel
theorem x63_102 {E : ME} {ls : MLs} {st : List MV} {g : MG} {μ : MU} {Q : Option MV → MG → MU → Prop} {v : Nat ⊕ Nat} : Wp E 63 102 (some (.inr (.inr v)) :: ls) st g μ Q = Wp E 63 103 (some (.inr (.inr v)) :: ls) (.inr (.inr v) :: st) g μ Q := Wp_nx k63_102 rfl
theorem k63_103 : mCode 63 103 = some (.getfield 19, 3) := by decide +kernel
theorem x63_103 {E : ME} {ls : MLs} {st : List MV} {g : MG} {μ : MU} {Q : Option MV → MG → MU → Prop} {a : Nat} : Wp E 63 103 ls (.inr (.inr (.inl a)) :: st) g μ Q = ((mKd g a).1 = 5 ∧ Wp E 63 106 ls (mRv (mRf g a 1) :: st) g μ Q) := Wp_getR k63_103 f5_19 (by decide) (by decide)
theorem k63_106 : mCode 63 106 = some (.getfield 151, 3) := by decide +kernel
theorem x63_106 {E : ME} {ls : MLs} {st : List MV} {g : MG} {μ : MU} {Q : Option MV → MG → MU → Prop} {a : Nat} : Wp E 63 106 ls (.inr (.inr (.inl a)) :: st) g μ Q = ((mKd g a).1 = 3 ∧ Wp E 63 109 ls (mRv (mRf g a 4) :: st) g μ Q) := Wp_getR k63_106 f5_151 (by decide) (by decide)
theorem k63_109 : mCode 63 109 = some (.iload 4, 2) := by decide +kernel
theorem x63_109 {E : ME} {ls : MLs} {st : List MV} {g : MG} {μ : MU} {Q : Option MV → MG → MU → Prop} {l0 l1 l2 l3 : Option MV} {v : Int} : Wp E 63 109 (l0 :: l1 :: l2 :: l3 :: some (.inl v) :: ls) st g μ Q = Wp E 63 111 (l0 :: l1 :: l2 :: l3 :: some (.inl v) :: ls) (.inl v :: st) g μ Q := Wp_nx k63_109 rfl
theorem k63_111 : mCode 63 111 = some (.iaload, 1) := by decide +kernel
theorem x63_111 {E : ME} {ls : MLs} {st : List MV} {g : MG} {μ : MU} {Q : Option MV → MG → MU → Prop} {a : Nat} {j : Int} : Wp E 63 111 ls (.inl j :: .inr (.inr (.inl a)) :: st) g μ Q = (((mKd g a).1 = 10 ∧ 0 ≤ j ∧ j < (mKd g a).2) ∧ Wp E 63 112 ls (.inl (μ a j.toNat) :: st) g μ Q) := Wp_ald k63_111 (fun _ => rfl)
theorem k63_112 : mCode 63 112 = some (.invokestatic 246, 3) := by decide +kernel
theorem x63_112 {E : ME} {ls : MLs} {st : List MV} {g : MG} {μ : MU} {Q : Option MV → MG → MU → Prop} {a0 : Int} : Wp E 63 112 ls (.inl a0 :: st) g μ Q = (st.length ≤ 4 ∧ Wp E 142 0 [some (.inl a0)] [] g μ (fun r g' μ' => (g'.1 = g.1 ∧ g'.2.1 = g.2.1) ∧ Wp E 63 115 ls (mPush r st) g' μ' Q)) := Wp_cS k63_112 m5_246 (by decide) (as := [.inl a0]) rfl rfl rfl ⟨Nat.le_of_ble_eq_true rfl, by decide⟩
theorem k63_115 : mCode 63 115 = some (.if_icmp .le 5, 3) := by decide +kernel
theorem x63_115 {E : ME} {ls : MLs} {st : List MV} {g : MG} {μ : MU} {Q : Option MV → MG → MU → Prop} {a b : Int} : Wp E 63 115 ls (.inl b :: .inl a :: st) g μ Q = ((a ≤ b → Wp E 63 120 ls st g μ Q) ∧ (b < a → Wp E 63 118 ls st g μ Q)) := Wp_cmp_le k63_115 (by decide)
theorem k63_118 : mCode 63 118 = some (.iconst 0, 1) := by decide +kernel
theorem x63_118 {E : ME} {ls : MLs} {st : List MV} {g : MG} {μ : MU} {Q : Option MV → MG → MU → Prop} : Wp E 63 118 ls st g μ Q = Wp E 63 119 ls (.inl 0 :: st) g μ Q := Wp_nx k63_118 rfl
theorem k63_119 : mCode 63 119 = some (.ireturn, 1) := by decide +kernel
theorem x63_119 {E : ME} {ls : MLs} {g : MG} {μ : MU} {Q : Option MV → MG → MU → Prop} {v : Int} : Wp E 63 119 ls [.inl v] g μ Q = ((v = 0 ∨ v = 1) ∧ Q (some (.inl v)) g μ) := Wp_retZ k63_119 (by decide)
theorem k63_120 : mCode 63 120 = some (.iinc 3 1, 3) := by decide +kernel
theorem x63_120 {E : ME} {ls : MLs} {st : List MV} {g : MG} {μ : MU} {Q : Option MV → MG → MU → Prop} {l0 l1 l2 : Option MV} {v : Int} : Wp E 63 120 (l0 :: l1 :: l2 :: some (.inl v) :: ls) st g μ Q = (mNl (some l2) = true ∧ Wp E 63 123 (l0 :: l1 :: l2 :: some (.inl (mWr (v + 1))) :: ls) st g μ Q) := Wp_inc k63_120 rfl rfl rfl
theorem k63_123 : mCode 63 123 = some (.goto (-121), 3) := by decide +kernel
theorem x63_123 {E : ME} {ls : MLs} {st : List MV} {g : MG} {μ : MU} {Q : Option MV → MG → MU → Prop} : Wp E 63 123 ls st g μ Q = Wp E 63 2 ls st g μ Q := Wp_goto k63_123 (by decide)
theorem k63_126 : mCode 63 126 = some (.iconst 1, 1) := by decide +kernel
theorem x63_126 {E : ME} {ls : MLs} {st : List MV} {g : MG} {μ : MU} {Q : Option MV → MG → MU → Prop} : Wp E 63 126 ls st g μ Q = Wp E 63 127 ls (.inl 1 :: st) g μ Q := Wp_nx k63_126 rfl
theorem k63_127 : mCode 63 127 = some (.ireturn, 1) := by decide +kernel
theorem x63_127 {E : ME} {ls : MLs} {g : MG} {μ : MU} {Q : Option MV → MG → MU → Prop} {v : Int} : Wp E 63 127 ls [.inl v] g μ Q = ((v = 0 ∨ v = 1) ∧ Q (some (.inl v)) g μ) := Wp_retZ k63_127 (by decide)
theorem k64_0 : mCode 64 0 = some (.aload_n 0, 1) := by decide +kernel
theorem x64_0 {E : ME} {ls : MLs} {st : List MV} {g : MG} {μ : MU} {Q : Option MV → MG → MU → Prop} {v : Nat ⊕ Nat} : Wp E 64 0 (some (.inr (.inr v)) :: ls) st g μ Q = Wp E 64 1 (some (.inr (.inr v)) :: ls) (.inr (.inr v) :: st) g μ Q := Wp_nx k64_0 rfl
theorem k64_1 : mCode 64 1 = some (.getfield 33, 3) := by decide +kernel
theorem x64_1 {E : ME} {ls : MLs} {st : List MV} {g : MG} {μ : MU} {Q : Option MV → MG → MU → Prop} {a : Nat} : Wp E 64 1 ls (.inr (.inr (.inl a)) :: st) g μ Q = ((mKd g a).1 = 5 ∧ Wp E 64 4 ls (mRv (mRf g a 3) :: st) g μ Q) := Wp_getR k64_1 f5_33 (by decide) (by decide)
theorem k64_4 : mCode 64 4 = some (.lload_n 1, 1) := by decide +kernel
theorem x64_4 {E : ME} {ls : MLs} {st : List MV} {g : MG} {μ : MU} {Q : Option MV → MG → MU → Prop} {l0 : Option MV} {v : Int} : Wp E 64 4 (l0 :: some (.inr (.inl v)) :: ls) st g μ Q = Wp E 64 5 (l0 :: some (.inr (.inl v)) :: ls) (.inr (.inl v) :: st) g μ Q := Wp_nx k64_4 rfl
theorem k64_5 : mCode 64 5 = some (.invokevirtual 251, 3) := by decide +kernel
theorem x64_5 {E : ME} {ls : MLs} {st : List MV} {g : MG} {μ : MU} {Q : Option MV → MG → MU → Prop} {r : Nat} {a0 : Int} : Wp E 64 5 ls (.inr (.inl a0) :: .inr (.inr (.inl r)) :: st) g μ Q = ((st.length ≤ 4 ∧ ((mKd g r).1 == 2) = true) ∧ Wp E 19 0 [some (.inr (.inr (.inl r))), some (.inr (.inl a0)), none, none, none, none, none] [] g μ (fun r g' μ' => (g'.1 = g.1 ∧ g'.2.1 = g.2.1) ∧ Wp E 64 8 ls (mPush r st) g' μ' Q)) := Wp_cV k64_5 m5_251 (by decide) (as := [.inr (.inr (.inl r)), .inr (.inl a0)]) rfl rfl rfl ⟨Nat.le_of_ble_eq_true rfl, by decide⟩
theorem k64_8 : mCode 64 8 = some (.ireturn, 1) := by decide +kernel
theorem x64_8 {E : ME} {ls : MLs} {g : MG} {μ : MU} {Q : Option MV → MG → MU → Prop} {v : Int} : Wp E 64 8 ls [.inl v] g μ Q = Q (some (.inl v)) g μ := Wp_retI k64_8 (by decide)
theorem k65_0 : mCode 65 0 = some (.aload_n 0, 1) := by decide +kernel
theorem x65_0 {E : ME} {ls : MLs} {st : List MV} {g : MG} {μ : MU} {Q : Option MV → MG → MU → Prop} {v : Nat ⊕ Nat} : Wp E 65 0 (some (.inr (.inr v)) :: ls) st g μ Q = Wp E 65 1 (some (.inr (.inr v)) :: ls) (.inr (.inr v) :: st) g μ Q := Wp_nx k65_0 rfl
theorem k65_1 : mCode 65 1 = some (.getfield 33, 3) := by decide +kernel
theorem x65_1 {E : ME} {ls : MLs} {st : List MV} {g : MG} {μ : MU} {Q : Option MV → MG → MU → Prop} {a : Nat} : Wp E 65 1 ls (.inr (.inr (.inl a)) :: st) g μ Q = ((mKd g a).1 = 5 ∧ Wp E 65 4 ls (mRv (mRf g a 3) :: st) g μ Q) := Wp_getR k65_1 f5_33 (by decide) (by decide)
theorem k65_4 : mCode 65 4 = some (.getfield 197, 3) := by decide +kernel
theorem x65_4 {E : ME} {ls : MLs} {st : List MV} {g : MG} {μ : MU} {Q : Option MV → MG → MU → Prop} {a : Nat} : Wp E 65 4 ls (.inr (.inr (.inl a)) :: st) g μ Q = ((mKd g a).1 = 2 ∧ Wp E 65 7 ls (.inl (μ a 2) :: st) g μ Q) := Wp_getI k65_4 f5_197 (by decide) (by decide)
theorem k65_7 : mCode 65 7 = some (.istore_n 1, 1) := by decide +kernel
theorem x65_7 {E : ME} {ls : MLs} {st : List MV} {g : MG} {μ : MU} {Q : Option MV → MG → MU → Prop} {l0 : Option MV} {lk : Option MV} {v : Int} : Wp E 65 7 (l0 :: lk :: ls) (.inl v :: st) g μ Q = ((mNl (some l0) = true ∧ mNl (some lk) = true) ∧ Wp E 65 8 (l0 :: some (.inl v) :: ls) st g μ Q) := Wp_sti k65_7 (fun _ => rfl) rfl rfl rfl
theorem k65_8 : mCode 65 8 = some (.aload_n 0, 1) := by decide +kernel
theorem x65_8 {E : ME} {ls : MLs} {st : List MV} {g : MG} {μ : MU} {Q : Option MV → MG → MU → Prop} {v : Nat ⊕ Nat} : Wp E 65 8 (some (.inr (.inr v)) :: ls) st g μ Q = Wp E 65 9 (some (.inr (.inr v)) :: ls) (.inr (.inr v) :: st) g μ Q := Wp_nx k65_8 rfl
theorem k65_9 : mCode 65 9 = some (.getfield 33, 3) := by decide +kernel
theorem x65_9 {E : ME} {ls : MLs} {st : List MV} {g : MG} {μ : MU} {Q : Option MV → MG → MU → Prop} {a : Nat} : Wp E 65 9 ls (.inr (.inr (.inl a)) :: st) g μ Q = ((mKd g a).1 = 5 ∧ Wp E 65 12 ls (mRv (mRf g a 3) :: st) g μ Q) := Wp_getR k65_9 f5_33 (by decide) (by decide)
theorem k65_12 : mCode 65 12 = some (.iconst 0, 1) := by decide +kernel
theorem x65_12 {E : ME} {ls : MLs} {st : List MV} {g : MG} {μ : MU} {Q : Option MV → MG → MU → Prop} : Wp E 65 12 ls st g μ Q = Wp E 65 13 ls (.inl 0 :: st) g μ Q := Wp_nx k65_12 rfl
theorem k65_13 : mCode 65 13 = some (.putfield 197, 3) := by decide +kernel
theorem x65_13 {E : ME} {ls : MLs} {st : List MV} {g : MG} {μ : MU} {Q : Option MV → MG → MU → Prop} {a : Nat} {v : Int} : Wp E 65 13 ls (.inl v :: .inr (.inr (.inl a)) :: st) g μ Q = ((mKd g a).1 = 2 ∧ Wp E 65 16 ls st g (mUp μ a 2 v) Q) := Wp_putI0 k65_13 f5_197 (by decide) (by decide)
theorem k65_16 : mCode 65 16 = some (.iload_n 1, 1) := by decide +kernel
theorem x65_16 {E : ME} {ls : MLs} {st : List MV} {g : MG} {μ : MU} {Q : Option MV → MG → MU → Prop} {l0 : Option MV} {v : Int} : Wp E 65 16 (l0 :: some (.inl v) :: ls) st g μ Q = Wp E 65 17 (l0 :: some (.inl v) :: ls) (.inl v :: st) g μ Q := Wp_nx k65_16 rfl
theorem k65_17 : mCode 65 17 = some (.ireturn, 1) := by decide +kernel
theorem x65_17 {E : ME} {ls : MLs} {g : MG} {μ : MU} {Q : Option MV → MG → MU → Prop} {v : Int} : Wp E 65 17 ls [.inl v] g μ Q = Q (some (.inl v)) g μ := Wp_retI k65_17 (by decide)
theorem k66_0 : mCode 66 0 = some (.aload_n 0, 1) := by decide +kernel
theorem x66_0 {E : ME} {ls : MLs} {st : List MV} {g : MG} {μ : MU} {Q : Option MV → MG → MU → Prop} {v : Nat ⊕ Nat} : Wp E 66 0 (some (.inr (.inr v)) :: ls) st g μ Q = Wp E 66 1 (some (.inr (.inr v)) :: ls) (.inr (.inr v) :: st) g μ Q := Wp_nx k66_0 rfl
theorem k66_1 : mCode 66 1 = some (.getfield 33, 3) := by decide +kernel
theorem x66_1 {E : ME} {ls : MLs} {st : List MV} {g : MG} {μ : MU} {Q : Option MV → MG → MU → Prop} {a : Nat} : Wp E 66 1 ls (.inr (.inr (.inl a)) :: st) g μ Q = ((mKd g a).1 = 5 ∧ Wp E 66 4 ls (mRv (mRf g a 3) :: st) g μ Q) := Wp_getR k66_1 f5_33 (by decide) (by decide)
theorem k66_4 : mCode 66 4 = some (.invokevirtual 255, 3) := by decide +kernel
theorem x66_4 {E : ME} {ls : MLs} {st : List MV} {g : MG} {μ : MU} {Q : Option MV → MG → MU → Prop} {r : Nat} : Wp E 66 4 ls (.inr (.inr (.inl r)) :: st) g μ Q = ((st.length ≤ 4 ∧ ((mKd g r).1 == 2) = true) ∧ Wp E 20 0 [some (.inr (.inr (.inl r))), none] [] g μ (fun r g' μ' => (g'.1 = g.1 ∧ g'.2.1 = g.2.1) ∧ Wp E 66 7 ls (mPush r st) g' μ' Q)) := Wp_cV k66_4 m5_255 (by decide) (as := [.inr (.inr (.inl r))]) rfl rfl rfl ⟨Nat.le_of_ble_eq_true rfl, by decide⟩
theorem k66_7 : mCode 66 7 = some (.ireturn, 1) := by decide +kernel
theorem x66_7 {E : ME} {ls : MLs} {g : MG} {μ : MU} {Q : Option MV → MG → MU → Prop} {v : Int} : Wp E 66 7 ls [.inl v] g μ Q = Q (some (.inl v)) g μ := Wp_retI k66_7 (by decide)
theorem k67_0 : mCode 67 0 = some (.aload_n 0, 1) := by decide +kernel
theorem x67_0 {E : ME} {ls : MLs} {st : List MV} {g : MG} {μ : MU} {Q : Option MV → MG → MU → Prop} {v : Nat ⊕ Nat} : Wp E 67 0 (some (.inr (.inr v)) :: ls) st g μ Q = Wp E 67 1 (some (.inr (.inr v)) :: ls) (.inr (.inr v) :: st) g μ Q := Wp_nx k67_0 rfl
theorem k67_1 : mCode 67 1 = some (.getfield 33, 3) := by decide +kernel
theorem x67_1 {E : ME} {ls : MLs} {st : List MV} {g : MG} {μ : MU} {Q : Option MV → MG → MU → Prop} {a : Nat} : Wp E 67 1 ls (.inr (.inr (.inl a)) :: st) g μ Q = ((mKd g a).1 = 5 ∧ Wp E 67 4 ls (mRv (mRf g a 3) :: st) g μ Q) := Wp_getR k67_1 f5_33 (by decide) (by decide)
theorem k67_4 : mCode 67 4 = some (.invokevirtual 255, 3) := by decide +kernel
theorem x67_4 {E : ME} {ls : MLs} {st : List MV} {g : MG} {μ : MU} {Q : Option MV → MG → MU → Prop} {r : Nat} : Wp E 67 4 ls (.inr (.inr (.inl r)) :: st) g μ Q = ((st.length ≤ 4 ∧ ((mKd g r).1 == 2) = true) ∧ Wp E 20 0 [some (.inr (.inr (.inl r))), none] [] g μ (fun r g' μ' => (g'.1 = g.1 ∧ g'.2.1 = g.2.1) ∧ Wp E 67 7 ls (mPush r st) g' μ' Q)) := Wp_cV k67_4 m5_255 (by decide) (as := [.inr (.inr (.inl r))]) rfl rfl rfl ⟨Nat.le_of_ble_eq_true rfl, by decide⟩
theorem k67_7 : mCode 67 7 = some (.bipush (-6), 2) := by decide +kernel
theorem x67_7 {E : ME} {ls : MLs} {st : List MV} {g : MG} {μ : MU} {Q : Option MV → MG → MU → Prop} : Wp E 67 7 ls st g μ Q = Wp E 67 9 ls (.inl (-6) :: st) g μ Q := Wp_nx k67_7 rfl
theorem k67_9 : mCode 67 9 = some (.if_icmp .eq 6, 3) := by decide +kernel
theorem x67_9 {E : ME} {ls : MLs} {st : List MV} {g : MG} {μ : MU} {Q : Option MV → MG → MU → Prop} {a b : Int} : Wp E 67 9 ls (.inl b :: .inl a :: st) g μ Q = ((a = b → Wp E 67 15 ls st g μ Q) ∧ (¬ a = b → Wp E 67 12 ls st g μ Q)) := Wp_cmp_eq k67_9 (by decide)
theorem k67_12 : mCode 67 12 = some (.bipush (-3), 2) := by decide +kernel
theorem x67_12 {E : ME} {ls : MLs} {st : List MV} {g : MG} {μ : MU} {Q : Option MV → MG → MU → Prop} : Wp E 67 12 ls st g μ Q = Wp E 67 14 ls (.inl (-3) :: st) g μ Q := Wp_nx k67_12 rfl
theorem k67_14 : mCode 67 14 = some (.ireturn, 1) := by decide +kernel
theorem x67_14 {E : ME} {ls : MLs} {g : MG} {μ : MU} {Q : Option MV → MG → MU → Prop} {v : Int} : Wp E 67 14 ls [.inl v] g μ Q = Q (some (.inl v)) g μ := Wp_retI k67_14 (by decide)
theorem k67_15 : mCode 67 15 = some (.aload_n 0, 1) := by decide +kernel
theorem x67_15 {E : ME} {ls : MLs} {st : List MV} {g : MG} {μ : MU} {Q : Option MV → MG → MU → Prop} {v : Nat ⊕ Nat} : Wp E 67 15 (some (.inr (.inr v)) :: ls) st g μ Q = Wp E 67 16 (some (.inr (.inr v)) :: ls) (.inr (.inr v) :: st) g μ Q := Wp_nx k67_15 rfl
theorem k67_16 : mCode 67 16 = some (.getfield 26, 3) := by decide +kernel
theorem x67_16 {E : ME} {ls : MLs} {st : List MV} {g : MG} {μ : MU} {Q : Option MV → MG → MU → Prop} {a : Nat} : Wp E 67 16 ls (.inr (.inr (.inl a)) :: st) g μ Q = ((mKd g a).1 = 5 ∧ Wp E 67 19 ls (mRv (mRf g a 2) :: st) g μ Q) := Wp_getR k67_16 f5_26 (by decide) (by decide)
theorem k67_19 : mCode 67 19 = some (.aload_n 0, 1) := by decide +kernel
theorem x67_19 {E : ME} {ls : MLs} {st : List MV} {g : MG} {μ : MU} {Q : Option MV → MG → MU → Prop} {v : Nat ⊕ Nat} : Wp E 67 19 (some (.inr (.inr v)) :: ls) st g μ Q = Wp E 67 20 (some (.inr (.inr v)) :: ls) (.inr (.inr v) :: st) g μ Q := Wp_nx k67_19 rfl
theorem k67_20 : mCode 67 20 = some (.getfield 10, 3) := by decide +kernel
theorem x67_20 {E : ME} {ls : MLs} {st : List MV} {g : MG} {μ : MU} {Q : Option MV → MG → MU → Prop} {a : Nat} : Wp E 67 20 ls (.inr (.inr (.inl a)) :: st) g μ Q = ((mKd g a).1 = 5 ∧ Wp E 67 23 ls (mRv (mRf g a 0) :: st) g μ Q) := Wp_getR k67_20 f5_10 (by decide) (by decide)
theorem k67_23 : mCode 67 23 = some (.invokevirtual 58, 3) := by decide +kernel
theorem x67_23 {E : ME} {ls : MLs} {st : List MV} {g : MG} {μ : MU} {Q : Option MV → MG → MU → Prop} {r : Nat} {a0 : Nat ⊕ Nat} : Wp E 67 23 ls (.inr (.inr a0) :: .inr (.inr (.inl r)) :: st) g μ Q = ((st.length ≤ 4 ∧ ((mKd g r).1 == 1) = true) ∧ Wp E 15 0 [some (.inr (.inr (.inl r))), some (.inr (.inr a0))] [] g μ (fun r g' μ' => (g'.1 = g.1 ∧ g'.2.1 = g.2.1) ∧ Wp E 67 26 ls (mPush r st) g' μ' Q)) := Wp_cV k67_23 m5_58 (by decide) (as := [.inr (.inr (.inl r)), .inr (.inr a0)]) rfl rfl rfl ⟨Nat.le_of_ble_eq_true rfl, by decide⟩
theorem k67_26 : mCode 67 26 = some (.aload_n 0, 1) := by decide +kernel
theorem x67_26 {E : ME} {ls : MLs} {st : List MV} {g : MG} {μ : MU} {Q : Option MV → MG → MU → Prop} {v : Nat ⊕ Nat} : Wp E 67 26 (some (.inr (.inr v)) :: ls) st g μ Q = Wp E 67 27 (some (.inr (.inr v)) :: ls) (.inr (.inr v) :: st) g μ Q := Wp_nx k67_26 rfl
theorem k67_27 : mCode 67 27 = some (.invokevirtual 259, 3) := by decide +kernel
theorem x67_27 {E : ME} {ls : MLs} {st : List MV} {g : MG} {μ : MU} {Q : Option MV → MG → MU → Prop} {r : Nat} : Wp E 67 27 ls (.inr (.inr (.inl r)) :: st) g μ Q = ((st.length ≤ 4 ∧ ((mKd g r).1 == 5) = true) ∧ Wp E 68 0 [some (.inr (.inr (.inl r))), none, none] [] g μ (fun r g' μ' => (g'.1 = g.1 ∧ g'.2.1 = g.2.1) ∧ Wp E 67 30 ls (mPush r st) g' μ' Q)) := Wp_cV k67_27 m5_259 (by decide) (as := [.inr (.inr (.inl r))]) rfl rfl rfl ⟨Nat.le_of_ble_eq_true rfl, by decide⟩
theorem k67_30 : mCode 67 30 = some (.istore_n 1, 1) := by decide +kernel
theorem x67_30 {E : ME} {ls : MLs} {st : List MV} {g : MG} {μ : MU} {Q : Option MV → MG → MU → Prop} {l0 : Option MV} {lk : Option MV} {v : Int} : Wp E 67 30 (l0 :: lk :: ls) (.inl v :: st) g μ Q = ((mNl (some l0) = true ∧ mNl (some lk) = true) ∧ Wp E 67 31 (l0 :: some (.inl v) :: ls) st g μ Q) := Wp_sti k67_30 (fun _ => rfl) rfl rfl rfl
theorem k67_31 : mCode 67 31 = some (.aload_n 0, 1) := by decide +kernel
theorem x67_31 {E : ME} {ls : MLs} {st : List MV} {g : MG} {μ : MU} {Q : Option MV → MG → MU → Prop} {v : Nat ⊕ Nat} : Wp E 67 31 (some (.inr (.inr v)) :: ls) st g μ Q = Wp E 67 32 (some (.inr (.inr v)) :: ls) (.inr (.inr v) :: st) g μ Q := Wp_nx k67_31 rfl
theorem k67_32 : mCode 67 32 = some (.getfield 26, 3) := by decide +kernel
theorem x67_32 {E : ME} {ls : MLs} {st : List MV} {g : MG} {μ : MU} {Q : Option MV → MG → MU → Prop} {a : Nat} : Wp E 67 32 ls (.inr (.inr (.inl a)) :: st) g μ Q = ((mKd g a).1 = 5 ∧ Wp E 67 35 ls (mRv (mRf g a 2) :: st) g μ Q) := Wp_getR k67_32 f5_26 (by decide) (by decide)
theorem k67_35 : mCode 67 35 = some (.invokevirtual 94, 3) := by decide +kernel
theorem x67_35 {E : ME} {ls : MLs} {st : List MV} {g : MG} {μ : MU} {Q : Option MV → MG → MU → Prop} {r : Nat} : Wp E 67 35 ls (.inr (.inr (.inl r)) :: st) g μ Q = ((st.length ≤ 4 ∧ ((mKd g r).1 == 1) = true) ∧ Wp E 16 0 [some (.inr (.inr (.inl r)))] [] g μ (fun r g' μ' => (g'.1 = g.1 ∧ g'.2.1 = g.2.1) ∧ Wp E 67 38 ls (mPush r st) g' μ' Q)) := Wp_cV k67_35 m5_94 (by decide) (as := [.inr (.inr (.inl r))]) rfl rfl rfl ⟨Nat.le_of_ble_eq_true rfl, by decide⟩
theorem k67_38 : mCode 67 38 = some (.aload_n 0, 1) := by decide +kernel
theorem x67_38 {E : ME} {ls : MLs} {st : List MV} {g : MG} {μ : MU} {Q : Option MV → MG → MU → Prop} {v : Nat ⊕ Nat} : Wp E 67 38 (some (.inr (.inr v)) :: ls) st g μ Q = Wp E 67 39 (some (.inr (.inr v)) :: ls) (.inr (.inr v) :: st) g μ Q := Wp_nx k67_38 rfl
theorem k67_39 : mCode 67 39 = some (.getfield 33, 3) := by decide +kernel
theorem x67_39 {E : ME} {ls : MLs} {st : List MV} {g : MG} {μ : MU} {Q : Option MV → MG → MU → Prop} {a : Nat} : Wp E 67 39 ls (.inr (.inr (.inl a)) :: st) g μ Q = ((mKd g a).1 = 5 ∧ Wp E 67 42 ls (mRv (mRf g a 3) :: st) g μ Q) := Wp_getR k67_39 f5_33 (by decide) (by decide)
theorem k67_42 : mCode 67 42 = some (.iconst 0, 1) := by decide +kernel
theorem x67_42 {E : ME} {ls : MLs} {st : List MV} {g : MG} {μ : MU} {Q : Option MV → MG → MU → Prop} : Wp E 67 42 ls st g μ Q = Wp E 67 43 ls (.inl 0 :: st) g μ Q := Wp_nx k67_42 rfl
theorem k67_43 : mCode 67 43 = some (.putfield 197, 3) := by decide +kernel
theorem x67_43 {E : ME} {ls : MLs} {st : List MV} {g : MG} {μ : MU} {Q : Option MV → MG → MU → Prop} {a : Nat} {v : Int} : Wp E 67 43 ls (.inl v :: .inr (.inr (.inl a)) :: st) g μ Q = ((mKd g a).1 = 2 ∧ Wp E 67 46 ls st g (mUp μ a 2 v) Q) := Wp_putI0 k67_43 f5_197 (by decide) (by decide)
theorem k67_46 : mCode 67 46 = some (.iload_n 1, 1) := by decide +kernel
theorem x67_46 {E : ME} {ls : MLs} {st : List MV} {g : MG} {μ : MU} {Q : Option MV → MG → MU → Prop} {l0 : Option MV} {v : Int} : Wp E 67 46 (l0 :: some (.inl v) :: ls) st g μ Q = Wp E 67 47 (l0 :: some (.inl v) :: ls) (.inl v :: st) g μ Q := Wp_nx k67_46 rfl
theorem k67_47 : mCode 67 47 = some (.ireturn, 1) := by decide +kernel
theorem x67_47 {E : ME} {ls : MLs} {g : MG} {μ : MU} {Q : Option MV → MG → MU → Prop} {v : Int} : Wp E 67 47 ls [.inl v] g μ Q = Q (some (.inl v)) g μ := Wp_retI k67_47 (by decide)
theorem k68_0 : mCode 68 0 = some (.iconst 0, 1) := by decide +kernel
theorem x68_0 {E : ME} {ls : MLs} {st : List MV} {g : MG} {μ : MU} {Q : Option MV → MG → MU → Prop} : Wp E 68 0 ls st g μ Q = Wp E 68 1 ls (.inl 0 :: st) g μ Q := Wp_nx k68_0 rfl
theorem k68_1 : mCode 68 1 = some (.istore_n 1, 1) := by decide +kernel
theorem x68_1 {E : ME} {ls : MLs} {st : List MV} {g : MG} {μ : MU} {Q : Option MV → MG → MU → Prop} {l0 : Option MV} {lk : Option MV} {v : Int} : Wp E 68 1 (l0 :: lk :: ls) (.inl v :: st) g μ Q = ((mNl (some l0) = true ∧ mNl (some lk) = true) ∧ Wp E 68 2 (l0 :: some (.inl v) :: ls) st g μ Q) := Wp_sti k68_1 (fun _ => rfl) rfl rfl rfl
theorem k68_2 : mCode 68 2 = some (.aload_n 0, 1) := by decide +kernel
theorem x68_2 {E : ME} {ls : MLs} {st : List MV} {g : MG} {μ : MU} {Q : Option MV → MG → MU → Prop} {v : Nat ⊕ Nat} : Wp E 68 2 (some (.inr (.inr v)) :: ls) st g μ Q = Wp E 68 3 (some (.inr (.inr v)) :: ls) (.inr (.inr v) :: st) g μ Q := Wp_nx k68_2 rfl
theorem k68_3 : mCode 68 3 = some (.getfield 33, 3) := by decide +kernel
theorem x68_3 {E : ME} {ls : MLs} {st : List MV} {g : MG} {μ : MU} {Q : Option MV → MG → MU → Prop} {a : Nat} : Wp E 68 3 ls (.inr (.inr (.inl a)) :: st) g μ Q = ((mKd g a).1 = 5 ∧ Wp E 68 6 ls (mRv (mRf g a 3) :: st) g μ Q) := Wp_getR k68_3 f5_33 (by decide) (by decide)
theorem k68_6 : mCode 68 6 = some (.iconst 0, 1) := by decide +kernel
theorem x68_6 {E : ME} {ls : MLs} {st : List MV} {g : MG} {μ : MU} {Q : Option MV → MG → MU → Prop} : Wp E 68 6 ls st g μ Q = Wp E 68 7 ls (.inl 0 :: st) g μ Q := Wp_nx k68_6 rfl
theorem k68_7 : mCode 68 7 = some (.putfield 262, 3) := by decide +kernel
theorem x68_7 {E : ME} {ls : MLs} {st : List MV} {g : MG} {μ : MU} {Q : Option MV → MG → MU → Prop} {a : Nat} {v : Int} : Wp E 68 7 ls (.inl v :: .inr (.inr (.inl a)) :: st) g μ Q = ((mKd g a).1 = 2 ∧ Wp E 68 10 ls st g (mUp μ a 3 v) Q) := Wp_putI0 k68_7 f5_262 (by decide) (by decide)
theorem k68_10 : mCode 68 10 = some (.iconst 0, 1) := by decide +kernel
theorem x68_10 {E : ME} {ls : MLs} {st : List MV} {g : MG} {μ : MU} {Q : Option MV → MG → MU → Prop} : Wp E 68 10 ls st g μ Q = Wp E 68 11 ls (.inl 0 :: st) g μ Q := Wp_nx k68_10 rfl
theorem k68_11 : mCode 68 11 = some (.istore_n 2, 1) := by decide +kernel
theorem x68_11 {E : ME} {ls : MLs} {st : List MV} {g : MG} {μ : MU} {Q : Option MV → MG → MU → Prop} {l0 l1 : Option MV} {lk : Option MV} {v : Int} : Wp E 68 11 (l0 :: l1 :: lk :: ls) (.inl v :: st) g μ Q = ((mNl (some l1) = true ∧ mNl (some lk) = true) ∧ Wp E 68 12 (l0 :: l1 :: some (.inl v) :: ls) st g μ Q) := Wp_sti k68_11 (fun _ => rfl) rfl rfl rfl
theorem k68_12 : mCode 68 12 = some (.iload_n 2, 1) := by decide +kernel
theorem x68_12 {E : ME} {ls : MLs} {st : List MV} {g : MG} {μ : MU} {Q : Option MV → MG → MU → Prop} {l0 l1 : Option MV} {v : Int} : Wp E 68 12 (l0 :: l1 :: some (.inl v) :: ls) st g μ Q = Wp E 68 13 (l0 :: l1 :: some (.inl v) :: ls) (.inl v :: st) g μ Q := Wp_nx k68_12 rfl
theorem k68_13 : mCode 68 13 = some (.bipush 80, 2) := by decide +kernel
theorem x68_13 {E : ME} {ls : MLs} {st : List MV} {g : MG} {μ : MU} {Q : Option MV → MG → MU → Prop} : Wp E 68 13 ls st g μ Q = Wp E 68 15 ls (.inl 80 :: st) g μ Q := Wp_nx k68_13 rfl
theorem k68_15 : mCode 68 15 = some (.if_icmp .ge 44, 3) := by decide +kernel
theorem x68_15 {E : ME} {ls : MLs} {st : List MV} {g : MG} {μ : MU} {Q : Option MV → MG → MU → Prop} {a b : Int} : Wp E 68 15 ls (.inl b :: .inl a :: st) g μ Q = ((b ≤ a → Wp E 68 59 ls st g μ Q) ∧ (a < b → Wp E 68 18 ls st g μ Q)) := Wp_cmp_ge k68_15 (by decide)
theorem k68_18 : mCode 68 18 = some (.aload_n 0, 1) := by decide +kernel
theorem x68_18 {E : ME} {ls : MLs} {st : List MV} {g : MG} {μ : MU} {Q : Option MV → MG → MU → Prop} {v : Nat ⊕ Nat} : Wp E 68 18 (some (.inr (.inr v)) :: ls) st g μ Q = Wp E 68 19 (some (.inr (.inr v)) :: ls) (.inr (.inr v) :: st) g μ Q := Wp_nx k68_18 rfl
theorem k68_19 : mCode 68 19 = some (.getfield 33, 3) := by decide +kernel
theorem x68_19 {E : ME} {ls : MLs} {st : List MV} {g : MG} {μ : MU} {Q : Option MV → MG → MU → Prop} {a : Nat} : Wp E 68 19 ls (.inr (.inr (.inl a)) :: st) g μ Q = ((mKd g a).1 = 5 ∧ Wp E 68 22 ls (mRv (mRf g a 3) :: st) g μ Q) := Wp_getR k68_19 f5_33 (by decide) (by decide)
theorem k68_22 : mCode 68 22 = some (.invokevirtual 265, 3) := by decide +kernel
theorem x68_22 {E : ME} {ls : MLs} {st : List MV} {g : MG} {μ : MU} {Q : Option MV → MG → MU → Prop} {r : Nat} : Wp E 68 22 ls (.inr (.inr (.inl r)) :: st) g μ Q = ((st.length ≤ 4 ∧ ((mKd g r).1 == 2) = true) ∧ Wp E 21 0 [some (.inr (.inr (.inl r))), none, none] [] g μ (fun r g' μ' => (g'.1 = g.1 ∧ g'.2.1 = g.2.1) ∧ Wp E 68 25 ls (mPush r st) g' μ' Q)) := Wp_cV k68_22 m5_265 (by decide) (as := [.inr (.inr (.inl r))]) rfl rfl rfl ⟨Nat.le_of_ble_eq_true rfl, by decide⟩
theorem k68_25 : mCode 68 25 = some (.ifCond .eq 34, 3) := by decide +kernel
theorem x68_25 {E : ME} {ls : MLs} {st : List MV} {g : MG} {μ : MU} {Q : Option MV → MG → MU → Prop} {a : Int} : Wp E 68 25 ls (.inl a :: st) g μ Q = ((a = 0 → Wp E 68 59 ls st g μ Q) ∧ (¬ a = 0 → Wp E 68 28 ls st g μ Q)) := Wp_if_eq k68_25 (by decide)
theorem k68_28 : mCode 68 28 = some (.aload_n 0, 1) := by decide +kernel
theorem x68_28 {E : ME} {ls : MLs} {st : List MV} {g : MG} {μ : MU} {Q : Option MV → MG → MU → Prop} {v : Nat ⊕ Nat} : Wp E 68 28 (some (.inr (.inr v)) :: ls) st g μ Q = Wp E 68 29 (some (.inr (.inr v)) :: ls) (.inr (.inr v) :: st) g μ Q := Wp_nx k68_28 rfl
theorem k68_29 : mCode 68 29 = some (.invokevirtual 269, 3) := by decide +kernel
theorem x68_29 {E : ME} {ls : MLs} {st : List MV} {g : MG} {μ : MU} {Q : Option MV → MG → MU → Prop} {r : Nat} : Wp E 68 29 ls (.inr (.inr (.inl r)) :: st) g μ Q = ((st.length ≤ 4 ∧ ((mKd g r).1 == 5) = true) ∧ Wp E 69 0 [some (.inr (.inr (.inl r))), none] [] g μ (fun r g' μ' => (g'.1 = g.1 ∧ g'.2.1 = g.2.1) ∧ Wp E 68 32 ls (mPush r st) g' μ' Q)) := Wp_cV k68_29 m5_269 (by decide) (as := [.inr (.inr (.inl r))]) rfl rfl rfl ⟨Nat.le_of_ble_eq_true rfl, by decide⟩
theorem k68_32 : mCode 68 32 = some (.invokestatic 90, 3) := by decide +kernel
theorem x68_32 {E : ME} {ls : MLs} {st : List MV} {g : MG} {μ : MU} {Q : Option MV → MG → MU → Prop} {a0 : Int} : Wp E 68 32 ls (.inl a0 :: st) g μ Q = (st.length ≤ 4 ∧ Wp E 73 0 [some (.inl a0)] [] g μ (fun r g' μ' => (g'.1 = g.1 ∧ g'.2.1 = g.2.1) ∧ Wp E 68 35 ls (mPush r st) g' μ' Q)) := Wp_cS k68_32 m5_90 (by decide) (as := [.inl a0]) rfl rfl rfl ⟨Nat.le_of_ble_eq_true rfl, by decide⟩
theorem k68_35 : mCode 68 35 = some (.ifCond .eq 5, 3) := by decide +kernel
theorem x68_35 {E : ME} {ls : MLs} {st : List MV} {g : MG} {μ : MU} {Q : Option MV → MG → MU → Prop} {a : Int} : Wp E 68 35 ls (.inl a :: st) g μ Q = ((a = 0 → Wp E 68 40 ls st g μ Q) ∧ (¬ a = 0 → Wp E 68 38 ls st g μ Q)) := Wp_if_eq k68_35 (by decide)
theorem k68_38 : mCode 68 38 = some (.iload_n 1, 1) := by decide +kernel
theorem x68_38 {E : ME} {ls : MLs} {st : List MV} {g : MG} {μ : MU} {Q : Option MV → MG → MU → Prop} {l0 : Option MV} {v : Int} : Wp E 68 38 (l0 :: some (.inl v) :: ls) st g μ Q = Wp E 68 39 (l0 :: some (.inl v) :: ls) (.inl v :: st) g μ Q := Wp_nx k68_38 rfl
theorem k68_39 : mCode 68 39 = some (.ireturn, 1) := by decide +kernel
theorem x68_39 {E : ME} {ls : MLs} {g : MG} {μ : MU} {Q : Option MV → MG → MU → Prop} {v : Int} : Wp E 68 39 ls [.inl v] g μ Q = Q (some (.inl v)) g μ := Wp_retI k68_39 (by decide)
theorem k68_40 : mCode 68 40 = some (.iinc 1 1, 3) := by decide +kernel
theorem x68_40 {E : ME} {ls : MLs} {st : List MV} {g : MG} {μ : MU} {Q : Option MV → MG → MU → Prop} {l0 : Option MV} {v : Int} : Wp E 68 40 (l0 :: some (.inl v) :: ls) st g μ Q = (mNl (some l0) = true ∧ Wp E 68 43 (l0 :: some (.inl (mWr (v + 1))) :: ls) st g μ Q) := Wp_inc k68_40 rfl rfl rfl
theorem k68_43 : mCode 68 43 = some (.aload_n 0, 1) := by decide +kernel
theorem x68_43 {E : ME} {ls : MLs} {st : List MV} {g : MG} {μ : MU} {Q : Option MV → MG → MU → Prop} {v : Nat ⊕ Nat} : Wp E 68 43 (some (.inr (.inr v)) :: ls) st g μ Q = Wp E 68 44 (some (.inr (.inr v)) :: ls) (.inr (.inr v) :: st) g μ Q := Wp_nx k68_43 rfl
theorem k68_44 : mCode 68 44 = some (.getfield 33, 3) := by decide +kernel
theorem x68_44 {E : ME} {ls : MLs} {st : List MV} {g : MG} {μ : MU} {Q : Option MV → MG → MU → Prop} {a : Nat} : Wp E 68 44 ls (.inr (.inr (.inl a)) :: st) g μ Q = ((mKd g a).1 = 5 ∧ Wp E 68 47 ls (mRv (mRf g a 3) :: st) g μ Q) := Wp_getR k68_44 f5_33 (by decide) (by decide)
theorem k68_47 : mCode 68 47 = some (.bipush 59, 2) := by decide +kernel
theorem x68_47 {E : ME} {ls : MLs} {st : List MV} {g : MG} {μ : MU} {Q : Option MV → MG → MU → Prop} : Wp E 68 47 ls st g μ Q = Wp E 68 49 ls (.inl 59 :: st) g μ Q := Wp_nx k68_47 rfl
theorem k68_49 : mCode 68 49 = some (.invokevirtual 272, 3) := by decide +kernel
theorem x68_49 {E : ME} {ls : MLs} {st : List MV} {g : MG} {μ : MU} {Q : Option MV → MG → MU → Prop} {r : Nat} {a0 : Int} : Wp E 68 49 ls (.inl a0 :: .inr (.inr (.inl r)) :: st) g μ Q = ((st.length ≤ 4 ∧ ((mKd g r).1 == 2) = true) ∧ Wp E 25 0 [some (.inr (.inr (.inl r))), some (.inl a0)] [] g μ (fun r g' μ' => (g'.1 = g.1 ∧ g'.2.1 = g.2.1) ∧ Wp E 68 52 ls (mPush r st) g' μ' Q)) := Wp_cV k68_49 m5_272 (by decide) (as := [.inr (.inr (.inl r)), .inl a0]) rfl rfl rfl ⟨Nat.le_of_ble_eq_true rfl, by decide⟩
theorem k68_52 : mCode 68 52 = some (.pop, 1) := by decide +kernel
theorem x68_52 {E : ME} {ls : MLs} {st : List MV} {g : MG} {μ : MU} {Q : Option MV → MG → MU → Prop} {v : MV} : Wp E 68 52 ls (v :: st) g μ Q = (mC1 v = true ∧ Wp E 68 53 ls st g μ Q) := Wp_pop k68_52
theorem k68_53 : mCode 68 53 = some (.iinc 2 1, 3) := by decide +kernel
theorem x68_53 {E : ME} {ls : MLs} {st : List MV} {g : MG} {μ : MU} {Q : Option MV → MG → MU → Prop} {l0 l1 : Option MV} {v : Int} : Wp E 68 53 (l0 :: l1 :: some (.inl v) :: ls) st g μ Q = (mNl (some l1) = true ∧ Wp E 68 56 (l0 :: l1 :: some (.inl (mWr (v + 1))) :: ls) st g μ Q) := Wp_inc k68_53 rfl rfl rfl
theorem k68_56 : mCode 68 56 = some (.goto (-44), 3) := by decide +kernel
theorem x68_56 {E : ME} {ls : MLs} {st : List MV} {g : MG} {μ : MU} {Q : Option MV → MG → MU → Prop} : Wp E 68 56 ls st g μ Q = Wp E 68 12 ls st g μ Q := Wp_goto k68_56 (by decide)
theorem k68_59 : mCode 68 59 = some (.iload_n 1, 1) := by decide +kernel
theorem x68_59 {E : ME} {ls : MLs} {st : List MV} {g : MG} {μ : MU} {Q : Option MV → MG → MU → Prop} {l0 : Option MV} {v : Int} : Wp E 68 59 (l0 :: some (.inl v) :: ls) st g μ Q = Wp E 68 60 (l0 :: some (.inl v) :: ls) (.inl v :: st) g μ Q := Wp_nx k68_59 rfl
theorem k68_60 : mCode 68 60 = some (.ireturn, 1) := by decide +kernel
theorem x68_60 {E : ME} {ls : MLs} {g : MG} {μ : MU} {Q : Option MV → MG → MU → Prop} {v : Int} : Wp E 68 60 ls [.inl v] g μ Q = Q (some (.inl v)) g μ := Wp_retI k68_60 (by decide)
theorem k69_0 : mCode 69 0 = some (.aload_n 0, 1) := by decide +kernel
theorem x69_0 {E : ME} {ls : MLs} {st : List MV} {g : MG} {μ : MU} {Q : Option MV → MG → MU → Prop} {v : Nat ⊕ Nat} : Wp E 69 0 (some (.inr (.inr v)) :: ls) st g μ Q = Wp E 69 1 (some (.inr (.inr v)) :: ls) (.inr (.inr v) :: st) g μ Q := Wp_nx k69_0 rfl
theorem k69_1 : mCode 69 1 = some (.getfield 33, 3) := by decide +kernel
theorem x69_1 {E : ME} {ls : MLs} {st : List MV} {g : MG} {μ : MU} {Q : Option MV → MG → MU → Prop} {a : Nat} : Wp E 69 1 ls (.inr (.inr (.inl a)) :: st) g μ Q = ((mKd g a).1 = 5 ∧ Wp E 69 4 ls (mRv (mRf g a 3) :: st) g μ Q) := Wp_getR k69_1 f5_33 (by decide) (by decide)
theorem k69_4 : mCode 69 4 = some (.getfield 276, 3) := by decide +kernel
theorem x69_4 {E : ME} {ls : MLs} {st : List MV} {g : MG} {μ : MU} {Q : Option MV → MG → MU → Prop} {a : Nat} : Wp E 69 4 ls (.inr (.inr (.inl a)) :: st) g μ Q = ((mKd g a).1 = 2 ∧ Wp E 69 7 ls (mRv (mRf g a 1) :: st) g μ Q) := Wp_getR k69_4 f5_276 (by decide) (by decide)
theorem k69_7 : mCode 69 7 = some (.astore_n 1, 1) := by decide +kernel
theorem x69_7 {E : ME} {ls : MLs} {st : List MV} {g : MG} {μ : MU} {Q : Option MV → MG → MU → Prop} {l0 : Option MV} {lk : Option MV} {v : Nat ⊕ Nat} : Wp E 69 7 (l0 :: lk :: ls) (.inr (.inr v) :: st) g μ Q = ((mNl (some l0) = true ∧ mNl (some lk) = true) ∧ Wp E 69 8 (l0 :: some (.inr (.inr v)) :: ls) st g μ Q) := Wp_sta k69_7 (fun _ => rfl) rfl rfl rfl
theorem k69_8 : mCode 69 8 = some (.aload_n 0, 1) := by decide +kernel
theorem x69_8 {E : ME} {ls : MLs} {st : List MV} {g : MG} {μ : MU} {Q : Option MV → MG → MU → Prop} {v : Nat ⊕ Nat} : Wp E 69 8 (some (.inr (.inr v)) :: ls) st g μ Q = Wp E 69 9 (some (.inr (.inr v)) :: ls) (.inr (.inr v) :: st) g μ Q := Wp_nx k69_8 rfl
theorem k69_9 : mCode 69 9 = some (.getfield 33, 3) := by decide +kernel
theorem x69_9 {E : ME} {ls : MLs} {st : List MV} {g : MG} {μ : MU} {Q : Option MV → MG → MU → Prop} {a : Nat} : Wp E 69 9 ls (.inr (.inr (.inl a)) :: st) g μ Q = ((mKd g a).1 = 5 ∧ Wp E 69 12 ls (mRv (mRf g a 3) :: st) g μ Q) := Wp_getR k69_9 f5_33 (by decide) (by decide)
theorem k69_12 : mCode 69 12 = some (.getfield 279, 3) := by decide +kernel
theorem x69_12 {E : ME} {ls : MLs} {st : List MV} {g : MG} {μ : MU} {Q : Option MV → MG → MU → Prop} {a : Nat} : Wp E 69 12 ls (.inr (.inr (.inl a)) :: st) g μ Q = ((mKd g a).1 = 2 ∧ Wp E 69 15 ls (.inl (μ a 4) :: st) g μ Q) := Wp_getI k69_12 f5_279 (by decide) (by decide)
theorem k69_15 : mCode 69 15 = some (.lookupswitch 112 #[(102, 41), (115, 58), (116, 95), (119, 78)], 41) := by decide +kernel
theorem x69_15_102 {E : ME} {ls : MLs} {st : List MV} {g : MG} {μ : MU} {Q : Option MV → MG → MU → Prop} : Wp E 69 15 ls (.inl 102 :: st) g μ Q = Wp E 69 56 ls st g μ Q := Wp_nx k69_15 rfl
theorem x69_15_115 {E : ME} {ls : MLs} {st : List MV} {g : MG} {μ : MU} {Q : Option MV → MG → MU → Prop} : Wp E 69 15 ls (.inl 115 :: st) g μ Q = Wp E 69 73 ls st g μ Q := Wp_nx k69_15 rfl
theorem x69_15_116 {E : ME} {ls : MLs} {st : List MV} {g : MG} {μ : MU} {Q : Option MV → MG → MU → Prop} : Wp E 69 15 ls (.inl 116 :: st) g μ Q = Wp E 69 110 ls st g μ Q := Wp_nx k69_15 rfl
theorem x69_15_119 {E : ME} {ls : MLs} {st : List MV} {g : MG} {μ : MU} {Q : Option MV → MG → MU → Prop} : Wp E 69 15 ls (.inl 119 :: st) g μ Q = Wp E 69 93 ls st g μ Q := Wp_nx k69_15 rfl
theorem x69_15_d {E : ME} {ls : MLs} {st : List MV} {g : MG} {μ : MU} {Q : Option MV → MG → MU → Prop} {a : Int} (h : ¬ a = 102 ∧ ¬ a = 115 ∧ ¬ a = 116 ∧ ¬ a = 119) : Wp E 69 15 ls (.inl a :: st) g μ Q = Wp E 69 127 ls st g μ Q := Wp_lsw (off := 112) k69_15 (by decide) (by simp [Op.lookupswitch.offset]; omega) (by decide)
theorem k69_56 : mCode 69 56 = some (.aload_n 0, 1) := by decide +kernel
theorem x69_56 {E : ME} {ls : MLs} {st : List MV} {g : MG} {μ : MU} {Q : Option MV → MG → MU → Prop} {v : Nat ⊕ Nat} : Wp E 69 56 (some (.inr (.inr v)) :: ls) st g μ Q = Wp E 69 57 (some (.inr (.inr v)) :: ls) (.inr (.inr v) :: st) g μ Q := Wp_nx k69_56 rfl
theorem k69_57 : mCode 69 57 = some (.getfield 10, 3) := by decide +kernel
theorem x69_57 {E : ME} {ls : MLs} {st : List MV} {g : MG} {μ : MU} {Q : Option MV → MG → MU → Prop} {a : Nat} : Wp E 69 57 ls (.inr (.inr (.inl a)) :: st) g μ Q = ((mKd g a).1 = 5 ∧ Wp E 69 60 ls (mRv (mRf g a 0) :: st) g μ Q) := Wp_getR k69_57 f5_10 (by decide) (by decide)
theorem k69_60 : mCode 69 60 = some (.aload_n 1, 1) := by decide +kernel
theorem x69_60 {E : ME} {ls : MLs} {st : List MV} {g : MG} {μ : MU} {Q : Option MV → MG → MU → Prop} {l0 : Option MV} {v : Nat ⊕ Nat} : Wp E 69 60 (l0 :: some (.inr (.inr v)) :: ls) st g μ Q = Wp E 69 61 (l0 :: some (.inr (.inr v)) :: ls) (.inr (.inr v) :: st) g μ Q := Wp_nx k69_60 rfl
theorem k69_61 : mCode 69 61 = some (.iconst 0, 1) := by decide +kernel
theorem x69_61 {E : ME} {ls : MLs} {st : List MV} {g : MG} {μ : MU} {Q : Option MV → MG → MU → Prop} : Wp E 69 61 ls st g μ Q = Wp E 69 62 ls (.inl 0 :: st) g μ Q := Wp_nx k69_61 rfl
theorem k69_62 : mCode 69 62 = some (.iaload, 1) := by decide +kernel
theorem x69_62 {E : ME} {ls : MLs} {st : List MV} {g : MG} {μ : MU} {Q : Option MV → MG → MU → Prop} {a : Nat} {j : Int} : Wp E 69 62 ls (.inl j :: .inr (.inr (.inl a)) :: st) g μ Q = (((mKd g a).1 = 10 ∧ 0 ≤ j ∧ j < (mKd g a).2) ∧ Wp E 69 63 ls (.inl (μ a j.toNat) :: st) g μ Q) := Wp_ald k69_62 (fun _ => rfl)
theorem k69_63 : mCode 69 63 = some (.aload_n 1, 1) := by decide +kernel
theorem x69_63 {E : ME} {ls : MLs} {st : List MV} {g : MG} {μ : MU} {Q : Option MV → MG → MU → Prop} {l0 : Option MV} {v : Nat ⊕ Nat} : Wp E 69 63 (l0 :: some (.inr (.inr v)) :: ls) st g μ Q = Wp E 69 64 (l0 :: some (.inr (.inr v)) :: ls) (.inr (.inr v) :: st) g μ Q := Wp_nx k69_63 rfl
theorem k69_64 : mCode 69 64 = some (.iconst 1, 1) := by decide +kernel
theorem x69_64 {E : ME} {ls : MLs} {st : List MV} {g : MG} {μ : MU} {Q : Option MV → MG → MU → Prop} : Wp E 69 64 ls st g μ Q = Wp E 69 65 ls (.inl 1 :: st) g μ Q := Wp_nx k69_64 rfl
theorem k69_65 : mCode 69 65 = some (.iaload, 1) := by decide +kernel
theorem x69_65 {E : ME} {ls : MLs} {st : List MV} {g : MG} {μ : MU} {Q : Option MV → MG → MU → Prop} {a : Nat} {j : Int} : Wp E 69 65 ls (.inl j :: .inr (.inr (.inl a)) :: st) g μ Q = (((mKd g a).1 = 10 ∧ 0 ≤ j ∧ j < (mKd g a).2) ∧ Wp E 69 66 ls (.inl (μ a j.toNat) :: st) g μ Q) := Wp_ald k69_65 (fun _ => rfl)
theorem k69_66 : mCode 69 66 = some (.aload_n 1, 1) := by decide +kernel
theorem x69_66 {E : ME} {ls : MLs} {st : List MV} {g : MG} {μ : MU} {Q : Option MV → MG → MU → Prop} {l0 : Option MV} {v : Nat ⊕ Nat} : Wp E 69 66 (l0 :: some (.inr (.inr v)) :: ls) st g μ Q = Wp E 69 67 (l0 :: some (.inr (.inr v)) :: ls) (.inr (.inr v) :: st) g μ Q := Wp_nx k69_66 rfl
theorem k69_67 : mCode 69 67 = some (.iconst 2, 1) := by decide +kernel
theorem x69_67 {E : ME} {ls : MLs} {st : List MV} {g : MG} {μ : MU} {Q : Option MV → MG → MU → Prop} : Wp E 69 67 ls st g μ Q = Wp E 69 68 ls (.inl 2 :: st) g μ Q := Wp_nx k69_67 rfl
theorem k69_68 : mCode 69 68 = some (.iaload, 1) := by decide +kernel
theorem x69_68 {E : ME} {ls : MLs} {st : List MV} {g : MG} {μ : MU} {Q : Option MV → MG → MU → Prop} {a : Nat} {j : Int} : Wp E 69 68 ls (.inl j :: .inr (.inr (.inl a)) :: st) g μ Q = (((mKd g a).1 = 10 ∧ 0 ≤ j ∧ j < (mKd g a).2) ∧ Wp E 69 69 ls (.inl (μ a j.toNat) :: st) g μ Q) := Wp_ald k69_68 (fun _ => rfl)
theorem k69_69 : mCode 69 69 = some (.invokevirtual 70, 3) := by decide +kernel
theorem x69_69 {E : ME} {ls : MLs} {st : List MV} {g : MG} {μ : MU} {Q : Option MV → MG → MU → Prop} {r : Nat} {a0 : Int} {a1 : Int} {a2 : Int} : Wp E 69 69 ls (.inl a2 :: .inl a1 :: .inl a0 :: .inr (.inr (.inl r)) :: st) g μ Q = ((st.length ≤ 4 ∧ ((mKd g r).1 == 0) = true) ∧ Wp E 7 0 [some (.inr (.inr (.inl r))), some (.inl a0), some (.inl a1), some (.inl a2)] [] g μ (fun r g' μ' => (g'.1 = g.1 ∧ g'.2.1 = g.2.1) ∧ Wp E 69 72 ls (mPush r st) g' μ' Q)) := Wp_cV k69_69 m5_70 (by decide) (as := [.inr (.inr (.inl r)), .inl a0, .inl a1, .inl a2]) rfl rfl rfl ⟨Nat.le_of_ble_eq_true rfl, by decide⟩
theorem k69_72 : mCode 69 72 = some (.ireturn, 1) := by decide +kernel
theorem x69_72 {E : ME} {ls : MLs} {g : MG} {μ : MU} {Q : Option MV → MG → MU → Prop} {v : Int} : Wp E 69 72 ls [.inl v] g μ Q = Q (some (.inl v)) g μ := Wp_retI k69_72 (by decide)
theorem k69_73 : mCode 69 73 = some (.aload_n 0, 1) := by decide +kernel
theorem x69_73 {E : ME} {ls : MLs} {st : List MV} {g : MG} {μ : MU} {Q : Option MV → MG → MU → Prop} {v : Nat ⊕ Nat} : Wp E 69 73 (some (.inr (.inr v)) :: ls) st g μ Q = Wp E 69 74 (some (.inr (.inr v)) :: ls) (.inr (.inr v) :: st) g μ Q := Wp_nx k69_73 rfl
theorem k69_74 : mCode 69 74 = some (.getfield 10, 3) := by decide +kernel
theorem x69_74 {E : ME} {ls : MLs} {st : List MV} {g : MG} {μ : MU} {Q : Option MV → MG → MU → Prop} {a : Nat} : Wp E 69 74 ls (.inr (.inr (.inl a)) :: st) g μ Q = ((mKd g a).1 = 5 ∧ Wp E 69 77 ls (mRv (mRf g a 0) :: st) g μ Q) := Wp_getR k69_74 f5_10 (by decide) (by decide)
theorem k69_77 : mCode 69 77 = some (.aload_n 1, 1) := by decide +kernel
theorem x69_77 {E : ME} {ls : MLs} {st : List MV} {g : MG} {μ : MU} {Q : Option MV → MG → MU → Prop} {l0 : Option MV} {v : Nat ⊕ Nat} : Wp E 69 77 (l0 :: some (.inr (.inr v)) :: ls) st g μ Q = Wp E 69 78 (l0 :: some (.inr (.inr v)) :: ls) (.inr (.inr v) :: st) g μ Q := Wp_nx k69_77 rfl
theorem k69_78 : mCode 69 78 = some (.iconst 0, 1) := by decide +kernel
theorem x69_78 {E : ME} {ls : MLs} {st : List MV} {g : MG} {μ : MU} {Q : Option MV → MG → MU → Prop} : Wp E 69 78 ls st g μ Q = Wp E 69 79 ls (.inl 0 :: st) g μ Q := Wp_nx k69_78 rfl
theorem k69_79 : mCode 69 79 = some (.iaload, 1) := by decide +kernel
theorem x69_79 {E : ME} {ls : MLs} {st : List MV} {g : MG} {μ : MU} {Q : Option MV → MG → MU → Prop} {a : Nat} {j : Int} : Wp E 69 79 ls (.inl j :: .inr (.inr (.inl a)) :: st) g μ Q = (((mKd g a).1 = 10 ∧ 0 ≤ j ∧ j < (mKd g a).2) ∧ Wp E 69 80 ls (.inl (μ a j.toNat) :: st) g μ Q) := Wp_ald k69_79 (fun _ => rfl)
theorem k69_80 : mCode 69 80 = some (.aload_n 1, 1) := by decide +kernel
theorem x69_80 {E : ME} {ls : MLs} {st : List MV} {g : MG} {μ : MU} {Q : Option MV → MG → MU → Prop} {l0 : Option MV} {v : Nat ⊕ Nat} : Wp E 69 80 (l0 :: some (.inr (.inr v)) :: ls) st g μ Q = Wp E 69 81 (l0 :: some (.inr (.inr v)) :: ls) (.inr (.inr v) :: st) g μ Q := Wp_nx k69_80 rfl
theorem k69_81 : mCode 69 81 = some (.iconst 1, 1) := by decide +kernel
theorem x69_81 {E : ME} {ls : MLs} {st : List MV} {g : MG} {μ : MU} {Q : Option MV → MG → MU → Prop} : Wp E 69 81 ls st g μ Q = Wp E 69 82 ls (.inl 1 :: st) g μ Q := Wp_nx k69_81 rfl
theorem k69_82 : mCode 69 82 = some (.iaload, 1) := by decide +kernel
theorem x69_82 {E : ME} {ls : MLs} {st : List MV} {g : MG} {μ : MU} {Q : Option MV → MG → MU → Prop} {a : Nat} {j : Int} : Wp E 69 82 ls (.inl j :: .inr (.inr (.inl a)) :: st) g μ Q = (((mKd g a).1 = 10 ∧ 0 ≤ j ∧ j < (mKd g a).2) ∧ Wp E 69 83 ls (.inl (μ a j.toNat) :: st) g μ Q) := Wp_ald k69_82 (fun _ => rfl)
theorem k69_83 : mCode 69 83 = some (.aload_n 1, 1) := by decide +kernel
theorem x69_83 {E : ME} {ls : MLs} {st : List MV} {g : MG} {μ : MU} {Q : Option MV → MG → MU → Prop} {l0 : Option MV} {v : Nat ⊕ Nat} : Wp E 69 83 (l0 :: some (.inr (.inr v)) :: ls) st g μ Q = Wp E 69 84 (l0 :: some (.inr (.inr v)) :: ls) (.inr (.inr v) :: st) g μ Q := Wp_nx k69_83 rfl
theorem k69_84 : mCode 69 84 = some (.iconst 2, 1) := by decide +kernel
theorem x69_84 {E : ME} {ls : MLs} {st : List MV} {g : MG} {μ : MU} {Q : Option MV → MG → MU → Prop} : Wp E 69 84 ls st g μ Q = Wp E 69 85 ls (.inl 2 :: st) g μ Q := Wp_nx k69_84 rfl
theorem k69_85 : mCode 69 85 = some (.iaload, 1) := by decide +kernel
theorem x69_85 {E : ME} {ls : MLs} {st : List MV} {g : MG} {μ : MU} {Q : Option MV → MG → MU → Prop} {a : Nat} {j : Int} : Wp E 69 85 ls (.inl j :: .inr (.inr (.inl a)) :: st) g μ Q = (((mKd g a).1 = 10 ∧ 0 ≤ j ∧ j < (mKd g a).2) ∧ Wp E 69 86 ls (.inl (μ a j.toNat) :: st) g μ Q) := Wp_ald k69_85 (fun _ => rfl)
theorem k69_86 : mCode 69 86 = some (.aload_n 1, 1) := by decide +kernel
theorem x69_86 {E : ME} {ls : MLs} {st : List MV} {g : MG} {μ : MU} {Q : Option MV → MG → MU → Prop} {l0 : Option MV} {v : Nat ⊕ Nat} : Wp E 69 86 (l0 :: some (.inr (.inr v)) :: ls) st g μ Q = Wp E 69 87 (l0 :: some (.inr (.inr v)) :: ls) (.inr (.inr v) :: st) g μ Q := Wp_nx k69_86 rfl
theorem k69_87 : mCode 69 87 = some (.iconst 3, 1) := by decide +kernel
theorem x69_87 {E : ME} {ls : MLs} {st : List MV} {g : MG} {μ : MU} {Q : Option MV → MG → MU → Prop} : Wp E 69 87 ls st g μ Q = Wp E 69 88 ls (.inl 3 :: st) g μ Q := Wp_nx k69_87 rfl
theorem k69_88 : mCode 69 88 = some (.iaload, 1) := by decide +kernel
theorem x69_88 {E : ME} {ls : MLs} {st : List MV} {g : MG} {μ : MU} {Q : Option MV → MG → MU → Prop} {a : Nat} {j : Int} : Wp E 69 88 ls (.inl j :: .inr (.inr (.inl a)) :: st) g μ Q = (((mKd g a).1 = 10 ∧ 0 ≤ j ∧ j < (mKd g a).2) ∧ Wp E 69 89 ls (.inl (μ a j.toNat) :: st) g μ Q) := Wp_ald k69_88 (fun _ => rfl)
theorem k69_89 : mCode 69 89 = some (.invokevirtual 77, 3) := by decide +kernel
theorem x69_89 {E : ME} {ls : MLs} {st : List MV} {g : MG} {μ : MU} {Q : Option MV → MG → MU → Prop} {r : Nat} {a0 : Int} {a1 : Int} {a2 : Int} {a3 : Int} : Wp E 69 89 ls (.inl a3 :: .inl a2 :: .inl a1 :: .inl a0 :: .inr (.inr (.inl r)) :: st) g μ Q = ((st.length ≤ 4 ∧ ((mKd g r).1 == 0) = true) ∧ Wp E 10 0 [some (.inr (.inr (.inl r))), some (.inl a0), some (.inl a1), some (.inl a2), some (.inl a3)] [] g μ (fun r g' μ' => (g'.1 = g.1 ∧ g'.2.1 = g.2.1) ∧ Wp E 69 92 ls (mPush r st) g' μ' Q)) := Wp_cV k69_89 m5_77 (by decide) (as := [.inr (.inr (.inl r)), .inl a0, .inl a1, .inl a2, .inl a3]) rfl rfl rfl ⟨Nat.le_of_ble_eq_true rfl, by decide⟩
theorem k69_92 : mCode 69 92 = some (.ireturn, 1) := by decide +kernel
theorem x69_92 {E : ME} {ls : MLs} {g : MG} {μ : MU} {Q : Option MV → MG → MU → Prop} {v : Int} : Wp E 69 92 ls [.inl v] g μ Q = Q (some (.inl v)) g μ := Wp_retI k69_92 (by decide)
theorem k69_93 : mCode 69 93 = some (.aload_n 0, 1) := by decide +kernel
theorem x69_93 {E : ME} {ls : MLs} {st : List MV} {g : MG} {μ : MU} {Q : Option MV → MG → MU → Prop} {v : Nat ⊕ Nat} : Wp E 69 93 (some (.inr (.inr v)) :: ls) st g μ Q = Wp E 69 94 (some (.inr (.inr v)) :: ls) (.inr (.inr v) :: st) g μ Q := Wp_nx k69_93 rfl
theorem k69_94 : mCode 69 94 = some (.getfield 10, 3) := by decide +kernel
theorem x69_94 {E : ME} {ls : MLs} {st : List MV} {g : MG} {μ : MU} {Q : Option MV → MG → MU → Prop} {a : Nat} : Wp E 69 94 ls (.inr (.inr (.inl a)) :: st) g μ Q = ((mKd g a).1 = 5 ∧ Wp E 69 97 ls (mRv (mRf g a 0) :: st) g μ Q) := Wp_getR k69_94 f5_10 (by decide) (by decide)
theorem k69_97 : mCode 69 97 = some (.aload_n 1, 1) := by decide +kernel
theorem x69_97 {E : ME} {ls : MLs} {st : List MV} {g : MG} {μ : MU} {Q : Option MV → MG → MU → Prop} {l0 : Option MV} {v : Nat ⊕ Nat} : Wp E 69 97 (l0 :: some (.inr (.inr v)) :: ls) st g μ Q = Wp E 69 98 (l0 :: some (.inr (.inr v)) :: ls) (.inr (.inr v) :: st) g μ Q := Wp_nx k69_97 rfl
theorem k69_98 : mCode 69 98 = some (.iconst 0, 1) := by decide +kernel
theorem x69_98 {E : ME} {ls : MLs} {st : List MV} {g : MG} {μ : MU} {Q : Option MV → MG → MU → Prop} : Wp E 69 98 ls st g μ Q = Wp E 69 99 ls (.inl 0 :: st) g μ Q := Wp_nx k69_98 rfl
theorem k69_99 : mCode 69 99 = some (.iaload, 1) := by decide +kernel
theorem x69_99 {E : ME} {ls : MLs} {st : List MV} {g : MG} {μ : MU} {Q : Option MV → MG → MU → Prop} {a : Nat} {j : Int} : Wp E 69 99 ls (.inl j :: .inr (.inr (.inl a)) :: st) g μ Q = (((mKd g a).1 = 10 ∧ 0 ≤ j ∧ j < (mKd g a).2) ∧ Wp E 69 100 ls (.inl (μ a j.toNat) :: st) g μ Q) := Wp_ald k69_99 (fun _ => rfl)
theorem k69_100 : mCode 69 100 = some (.aload_n 1, 1) := by decide +kernel
theorem x69_100 {E : ME} {ls : MLs} {st : List MV} {g : MG} {μ : MU} {Q : Option MV → MG → MU → Prop} {l0 : Option MV} {v : Nat ⊕ Nat} : Wp E 69 100 (l0 :: some (.inr (.inr v)) :: ls) st g μ Q = Wp E 69 101 (l0 :: some (.inr (.inr v)) :: ls) (.inr (.inr v) :: st) g μ Q := Wp_nx k69_100 rfl
theorem k69_101 : mCode 69 101 = some (.iconst 1, 1) := by decide +kernel
theorem x69_101 {E : ME} {ls : MLs} {st : List MV} {g : MG} {μ : MU} {Q : Option MV → MG → MU → Prop} : Wp E 69 101 ls st g μ Q = Wp E 69 102 ls (.inl 1 :: st) g μ Q := Wp_nx k69_101 rfl
theorem k69_102 : mCode 69 102 = some (.iaload, 1) := by decide +kernel
theorem x69_102 {E : ME} {ls : MLs} {st : List MV} {g : MG} {μ : MU} {Q : Option MV → MG → MU → Prop} {a : Nat} {j : Int} : Wp E 69 102 ls (.inl j :: .inr (.inr (.inl a)) :: st) g μ Q = (((mKd g a).1 = 10 ∧ 0 ≤ j ∧ j < (mKd g a).2) ∧ Wp E 69 103 ls (.inl (μ a j.toNat) :: st) g μ Q) := Wp_ald k69_102 (fun _ => rfl)
theorem k69_103 : mCode 69 103 = some (.aload_n 1, 1) := by decide +kernel
theorem x69_103 {E : ME} {ls : MLs} {st : List MV} {g : MG} {μ : MU} {Q : Option MV → MG → MU → Prop} {l0 : Option MV} {v : Nat ⊕ Nat} : Wp E 69 103 (l0 :: some (.inr (.inr v)) :: ls) st g μ Q = Wp E 69 104 (l0 :: some (.inr (.inr v)) :: ls) (.inr (.inr v) :: st) g μ Q := Wp_nx k69_103 rfl
theorem k69_104 : mCode 69 104 = some (.iconst 2, 1) := by decide +kernel
theorem x69_104 {E : ME} {ls : MLs} {st : List MV} {g : MG} {μ : MU} {Q : Option MV → MG → MU → Prop} : Wp E 69 104 ls st g μ Q = Wp E 69 105 ls (.inl 2 :: st) g μ Q := Wp_nx k69_104 rfl
theorem k69_105 : mCode 69 105 = some (.iaload, 1) := by decide +kernel
theorem x69_105 {E : ME} {ls : MLs} {st : List MV} {g : MG} {μ : MU} {Q : Option MV → MG → MU → Prop} {a : Nat} {j : Int} : Wp E 69 105 ls (.inl j :: .inr (.inr (.inl a)) :: st) g μ Q = (((mKd g a).1 = 10 ∧ 0 ≤ j ∧ j < (mKd g a).2) ∧ Wp E 69 106 ls (.inl (μ a j.toNat) :: st) g μ Q) := Wp_ald k69_105 (fun _ => rfl)
theorem k69_106 : mCode 69 106 = some (.invokevirtual 74, 3) := by decide +kernel
theorem x69_106 {E : ME} {ls : MLs} {st : List MV} {g : MG} {μ : MU} {Q : Option MV → MG → MU → Prop} {r : Nat} {a0 : Int} {a1 : Int} {a2 : Int} : Wp E 69 106 ls (.inl a2 :: .inl a1 :: .inl a0 :: .inr (.inr (.inl r)) :: st) g μ Q = ((st.length ≤ 4 ∧ ((mKd g r).1 == 0) = true) ∧ Wp E 8 0 [some (.inr (.inr (.inl r))), some (.inl a0), some (.inl a1), some (.inl a2), none] [] g μ (fun r g' μ' => (g'.1 = g.1 ∧ g'.2.1 = g.2.1) ∧ Wp E 69 109 ls (mPush r st) g' μ' Q)) := Wp_cV k69_106 m5_74 (by decide) (as := [.inr (.inr (.inl r)), .inl a0, .inl a1, .inl a2]) rfl rfl rfl ⟨Nat.le_of_ble_eq_true rfl, by decide⟩
theorem k69_109 : mCode 69 109 = some (.ireturn, 1) := by decide +kernel
theorem x69_109 {E : ME} {ls : MLs} {g : MG} {μ : MU} {Q : Option MV → MG → MU → Prop} {v : Int} : Wp E 69 109 ls [.inl v] g μ Q = Q (some (.inl v)) g μ := Wp_retI k69_109 (by decide)
theorem k69_110 : mCode 69 110 = some (.aload_n 0, 1) := by decide +kernel
theorem x69_110 {E : ME} {ls : MLs} {st : List MV} {g : MG} {μ : MU} {Q : Option MV → MG → MU → Prop} {v : Nat ⊕ Nat} : Wp E 69 110 (some (.inr (.inr v)) :: ls) st g μ Q = Wp E 69 111 (some (.inr (.inr v)) :: ls) (.inr (.inr v) :: st) g μ Q := Wp_nx k69_110 rfl
theorem k69_111 : mCode 69 111 = some (.getfield 10, 3) := by decide +kernel
theorem x69_111 {E : ME} {ls : MLs} {st : List MV} {g : MG} {μ : MU} {Q : Option MV → MG → MU → Prop} {a : Nat} : Wp E 69 111 ls (.inr (.inr (.inl a)) :: st) g μ Q = ((mKd g a).1 = 5 ∧ Wp E 69 114 ls (mRv (mRf g a 0) :: st) g μ Q) := Wp_getR k69_111 f5_10 (by decide) (by decide)
theorem k69_114 : mCode 69 114 = some (.aload_n 1, 1) := by decide +kernel
theorem x69_114 {E : ME} {ls : MLs} {st : List MV} {g : MG} {μ : MU} {Q : Option MV → MG → MU → Prop} {l0 : Option MV} {v : Nat ⊕ Nat} : Wp E 69 114 (l0 :: some (.inr (.inr v)) :: ls) st g μ Q = Wp E 69 115 (l0 :: some (.inr (.inr v)) :: ls) (.inr (.inr v) :: st) g μ Q := Wp_nx k69_114 rfl
theorem k69_115 : mCode 69 115 = some (.iconst 0, 1) := by decide +kernel
theorem x69_115 {E : ME} {ls : MLs} {st : List MV} {g : MG} {μ : MU} {Q : Option MV → MG → MU → Prop} : Wp E 69 115 ls st g μ Q = Wp E 69 116 ls (.inl 0 :: st) g μ Q := Wp_nx k69_115 rfl
theorem k69_116 : mCode 69 116 = some (.iaload, 1) := by decide +kernel
theorem x69_116 {E : ME} {ls : MLs} {st : List MV} {g : MG} {μ : MU} {Q : Option MV → MG → MU → Prop} {a : Nat} {j : Int} : Wp E 69 116 ls (.inl j :: .inr (.inr (.inl a)) :: st) g μ Q = (((mKd g a).1 = 10 ∧ 0 ≤ j ∧ j < (mKd g a).2) ∧ Wp E 69 117 ls (.inl (μ a j.toNat) :: st) g μ Q) := Wp_ald k69_116 (fun _ => rfl)
theorem k69_117 : mCode 69 117 = some (.aload_n 1, 1) := by decide +kernel
theorem x69_117 {E : ME} {ls : MLs} {st : List MV} {g : MG} {μ : MU} {Q : Option MV → MG → MU → Prop} {l0 : Option MV} {v : Nat ⊕ Nat} : Wp E 69 117 (l0 :: some (.inr (.inr v)) :: ls) st g μ Q = Wp E 69 118 (l0 :: some (.inr (.inr v)) :: ls) (.inr (.inr v) :: st) g μ Q := Wp_nx k69_117 rfl
theorem k69_118 : mCode 69 118 = some (.iconst 1, 1) := by decide +kernel
theorem x69_118 {E : ME} {ls : MLs} {st : List MV} {g : MG} {μ : MU} {Q : Option MV → MG → MU → Prop} : Wp E 69 118 ls st g μ Q = Wp E 69 119 ls (.inl 1 :: st) g μ Q := Wp_nx k69_118 rfl
theorem k69_119 : mCode 69 119 = some (.iaload, 1) := by decide +kernel
theorem x69_119 {E : ME} {ls : MLs} {st : List MV} {g : MG} {μ : MU} {Q : Option MV → MG → MU → Prop} {a : Nat} {j : Int} : Wp E 69 119 ls (.inl j :: .inr (.inr (.inl a)) :: st) g μ Q = (((mKd g a).1 = 10 ∧ 0 ≤ j ∧ j < (mKd g a).2) ∧ Wp E 69 120 ls (.inl (μ a j.toNat) :: st) g μ Q) := Wp_ald k69_119 (fun _ => rfl)
theorem k69_120 : mCode 69 120 = some (.aload_n 1, 1) := by decide +kernel
theorem x69_120 {E : ME} {ls : MLs} {st : List MV} {g : MG} {μ : MU} {Q : Option MV → MG → MU → Prop} {l0 : Option MV} {v : Nat ⊕ Nat} : Wp E 69 120 (l0 :: some (.inr (.inr v)) :: ls) st g μ Q = Wp E 69 121 (l0 :: some (.inr (.inr v)) :: ls) (.inr (.inr v) :: st) g μ Q := Wp_nx k69_120 rfl
theorem k69_121 : mCode 69 121 = some (.iconst 2, 1) := by decide +kernel
theorem x69_121 {E : ME} {ls : MLs} {st : List MV} {g : MG} {μ : MU} {Q : Option MV → MG → MU → Prop} : Wp E 69 121 ls st g μ Q = Wp E 69 122 ls (.inl 2 :: st) g μ Q := Wp_nx k69_121 rfl
theorem k69_122 : mCode 69 122 = some (.iaload, 1) := by decide +kernel
theorem x69_122 {E : ME} {ls : MLs} {st : List MV} {g : MG} {μ : MU} {Q : Option MV → MG → MU → Prop} {a : Nat} {j : Int} : Wp E 69 122 ls (.inl j :: .inr (.inr (.inl a)) :: st) g μ Q = (((mKd g a).1 = 10 ∧ 0 ≤ j ∧ j < (mKd g a).2) ∧ Wp E 69 123 ls (.inl (μ a j.toNat) :: st) g μ Q) := Wp_ald k69_122 (fun _ => rfl)
theorem k69_123 : mCode 69 123 = some (.invokevirtual 84, 3) := by decide +kernel
theorem x69_123 {E : ME} {ls : MLs} {st : List MV} {g : MG} {μ : MU} {Q : Option MV → MG → MU → Prop} {r : Nat} {a0 : Int} {a1 : Int} {a2 : Int} : Wp E 69 123 ls (.inl a2 :: .inl a1 :: .inl a0 :: .inr (.inr (.inl r)) :: st) g μ Q = ((st.length ≤ 4 ∧ ((mKd g r).1 == 0) = true) ∧ Wp E 12 0 [some (.inr (.inr (.inl r))), some (.inl a0), some (.inl a1), some (.inl a2), none] [] g μ (fun r g' μ' => (g'.1 = g.1 ∧ g'.2.1 = g.2.1) ∧ Wp E 69 126 ls (mPush r st) g' μ' Q)) := Wp_cV k69_123 m5_84 (by decide) (as := [.inr (.inr (.inl r)), .inl a0, .inl a1, .inl a2]) rfl rfl rfl ⟨Nat.le_of_ble_eq_true rfl, by decide⟩
theorem k69_126 : mCode 69 126 = some (.ireturn, 1) := by decide +kernel
theorem x69_126 {E : ME} {ls : MLs} {g : MG} {μ : MU} {Q : Option MV → MG → MU → Prop} {v : Int} : Wp E 69 126 ls [.inl v] g μ Q = Q (some (.inl v)) g μ := Wp_retI k69_126 (by decide)
theorem k69_127 : mCode 69 127 = some (.aload_n 0, 1) := by decide +kernel
theorem x69_127 {E : ME} {ls : MLs} {st : List MV} {g : MG} {μ : MU} {Q : Option MV → MG → MU → Prop} {v : Nat ⊕ Nat} : Wp E 69 127 (some (.inr (.inr v)) :: ls) st g μ Q = Wp E 69 128 (some (.inr (.inr v)) :: ls) (.inr (.inr v) :: st) g μ Q := Wp_nx k69_127 rfl
theorem k69_128 : mCode 69 128 = some (.getfield 10, 3) := by decide +kernel
theorem x69_128 {E : ME} {ls : MLs} {st : List MV} {g : MG} {μ : MU} {Q : Option MV → MG → MU → Prop} {a : Nat} : Wp E 69 128 ls (.inr (.inr (.inl a)) :: st) g μ Q = ((mKd g a).1 = 5 ∧ Wp E 69 131 ls (mRv (mRf g a 0) :: st) g μ Q) := Wp_getR k69_128 f5_10 (by decide) (by decide)
theorem k69_131 : mCode 69 131 = some (.aload_n 1, 1) := by decide +kernel
theorem x69_131 {E : ME} {ls : MLs} {st : List MV} {g : MG} {μ : MU} {Q : Option MV → MG → MU → Prop} {l0 : Option MV} {v : Nat ⊕ Nat} : Wp E 69 131 (l0 :: some (.inr (.inr v)) :: ls) st g μ Q = Wp E 69 132 (l0 :: some (.inr (.inr v)) :: ls) (.inr (.inr v) :: st) g μ Q := Wp_nx k69_131 rfl
theorem k69_132 : mCode 69 132 = some (.iconst 0, 1) := by decide +kernel
theorem x69_132 {E : ME} {ls : MLs} {st : List MV} {g : MG} {μ : MU} {Q : Option MV → MG → MU → Prop} : Wp E 69 132 ls st g μ Q = Wp E 69 133 ls (.inl 0 :: st) g μ Q := Wp_nx k69_132 rfl
theorem k69_133 : mCode 69 133 = some (.iaload, 1) := by decide +kernel
theorem x69_133 {E : ME} {ls : MLs} {st : List MV} {g : MG} {μ : MU} {Q : Option MV → MG → MU → Prop} {a : Nat} {j : Int} : Wp E 69 133 ls (.inl j :: .inr (.inr (.inl a)) :: st) g μ Q = (((mKd g a).1 = 10 ∧ 0 ≤ j ∧ j < (mKd g a).2) ∧ Wp E 69 134 ls (.inl (μ a j.toNat) :: st) g μ Q) := Wp_ald k69_133 (fun _ => rfl)
theorem k69_134 : mCode 69 134 = some (.invokevirtual 81, 3) := by decide +kernel
theorem x69_134 {E : ME} {ls : MLs} {st : List MV} {g : MG} {μ : MU} {Q : Option MV → MG → MU → Prop} {r : Nat} {a0 : Int} : Wp E 69 134 ls (.inl a0 :: .inr (.inr (.inl r)) :: st) g μ Q = ((st.length ≤ 4 ∧ ((mKd g r).1 == 0) = true) ∧ Wp E 11 0 [some (.inr (.inr (.inl r))), some (.inl a0), none] [] g μ (fun r g' μ' => (g'.1 = g.1 ∧ g'.2.1 = g.2.1) ∧ Wp E 69 137 ls (mPush r st) g' μ' Q)) := Wp_cV k69_134 m5_81 (by decide) (as := [.inr (.inr (.inl r)), .inl a0]) rfl rfl rfl ⟨Nat.le_of_ble_eq_true rfl, by decide⟩
theorem k69_137 : mCode 69 137 = some (.ireturn, 1) := by decide +kernel
theorem x69_137 {E : ME} {ls : MLs} {g : MG} {μ : MU} {Q : Option MV → MG → MU → Prop} {v : Int} : Wp E 69 137 ls [.inl v] g μ Q = Q (some (.inl v)) g μ := Wp_retI k69_137 (by decide)
theorem k70_0 : mCode 70 0 = some (.aload_n 0, 1) := by decide +kernel
theorem x70_0 {E : ME} {ls : MLs} {st : List MV} {g : MG} {μ : MU} {Q : Option MV → MG → MU → Prop} {v : Nat ⊕ Nat} : Wp E 70 0 (some (.inr (.inr v)) :: ls) st g μ Q = Wp E 70 1 (some (.inr (.inr v)) :: ls) (.inr (.inr v) :: st) g μ Q := Wp_nx k70_0 rfl
theorem k70_1 : mCode 70 1 = some (.getfield 26, 3) := by decide +kernel
theorem x70_1 {E : ME} {ls : MLs} {st : List MV} {g : MG} {μ : MU} {Q : Option MV → MG → MU → Prop} {a : Nat} : Wp E 70 1 ls (.inr (.inr (.inl a)) :: st) g μ Q = ((mKd g a).1 = 5 ∧ Wp E 70 4 ls (mRv (mRf g a 2) :: st) g μ Q) := Wp_getR k70_1 f5_26 (by decide) (by decide)
theorem k70_4 : mCode 70 4 = some (.aload_n 0, 1) := by decide +kernel
theorem x70_4 {E : ME} {ls : MLs} {st : List MV} {g : MG} {μ : MU} {Q : Option MV → MG → MU → Prop} {v : Nat ⊕ Nat} : Wp E 70 4 (some (.inr (.inr v)) :: ls) st g μ Q = Wp E 70 5 (some (.inr (.inr v)) :: ls) (.inr (.inr v) :: st) g μ Q := Wp_nx k70_4 rfl
theorem k70_5 : mCode 70 5 = some (.getfield 10, 3) := by decide +kernel
theorem x70_5 {E : ME} {ls : MLs} {st : List MV} {g : MG} {μ : MU} {Q : Option MV → MG → MU → Prop} {a : Nat} : Wp E 70 5 ls (.inr (.inr (.inl a)) :: st) g μ Q = ((mKd g a).1 = 5 ∧ Wp E 70 8 ls (mRv (mRf g a 0) :: st) g μ Q) := Wp_getR k70_5 f5_10 (by decide) (by decide)
theorem k70_8 : mCode 70 8 = some (.invokevirtual 283, 3) := by decide +kernel
theorem x70_8 {E : ME} {ls : MLs} {st : List MV} {g : MG} {μ : MU} {Q : Option MV → MG → MU → Prop} {r : Nat} {a0 : Nat ⊕ Nat} : Wp E 70 8 ls (.inr (.inr a0) :: .inr (.inr (.inl r)) :: st) g μ Q = ((st.length ≤ 4 ∧ ((mKd g r).1 == 1) = true) ∧ Wp E 17 0 [some (.inr (.inr (.inl r))), some (.inr (.inr a0))] [] g μ (fun r g' μ' => (g'.1 = g.1 ∧ g'.2.1 = g.2.1) ∧ Wp E 70 11 ls (mPush r st) g' μ' Q)) := Wp_cV k70_8 m5_283 (by decide) (as := [.inr (.inr (.inl r)), .inr (.inr a0)]) rfl rfl rfl ⟨Nat.le_of_ble_eq_true rfl, by decide⟩
theorem k70_11 : mCode 70 11 = some (.ireturn, 1) := by decide +kernel
theorem x70_11 {E : ME} {ls : MLs} {g : MG} {μ : MU} {Q : Option MV → MG → MU → Prop} {v : Int} : Wp E 70 11 ls [.inl v] g μ Q = Q (some (.inl v)) g μ := Wp_retI k70_11 (by decide)
theorem k71_0 : mCode 71 0 = some (.iload_n 1, 1) := by decide +kernel
theorem x71_0 {E : ME} {ls : MLs} {st : List MV} {g : MG} {μ : MU} {Q : Option MV → MG → MU → Prop} {l0 : Option MV} {v : Int} : Wp E 71 0 (l0 :: some (.inl v) :: ls) st g μ Q = Wp E 71 1 (l0 :: some (.inl v) :: ls) (.inl v :: st) g μ Q := Wp_nx k71_0 rfl
theorem k71_1 : mCode 71 1 = some (.iconst 0, 1) := by decide +kernel
theorem x71_1 {E : ME} {ls : MLs} {st : List MV} {g : MG} {μ : MU} {Q : Option MV → MG → MU → Prop} : Wp E 71 1 ls st g μ Q = Wp E 71 2 ls (.inl 0 :: st) g μ Q := Wp_nx k71_1 rfl
theorem k71_2 : mCode 71 2 = some (.iconst 1, 1) := by decide +kernel
theorem x71_2 {E : ME} {ls : MLs} {st : List MV} {g : MG} {μ : MU} {Q : Option MV → MG → MU → Prop} : Wp E 71 2 ls st g μ Q = Wp E 71 3 ls (.inl 1 :: st) g μ Q := Wp_nx k71_2 rfl
theorem k71_3 : mCode 71 3 = some (.invokestatic 170, 3) := by decide +kernel
theorem x71_3 {E : ME} {ls : MLs} {st : List MV} {g : MG} {μ : MU} {Q : Option MV → MG → MU → Prop} {a0 : Int} {a1 : Int} {a2 : Int} : Wp E 71 3 ls (.inl a2 :: .inl a1 :: .inl a0 :: st) g μ Q = (st.length ≤ 4 ∧ Wp E 74 0 [some (.inl a0), some (.inl a1), some (.inl a2)] [] g μ (fun r g' μ' => (g'.1 = g.1 ∧ g'.2.1 = g.2.1) ∧ Wp E 71 6 ls (mPush r st) g' μ' Q)) := Wp_cS k71_3 m5_170 (by decide) (as := [.inl a0, .inl a1, .inl a2]) rfl rfl rfl ⟨Nat.le_of_ble_eq_true rfl, by decide⟩
theorem k71_6 : mCode 71 6 = some (.ifCond .ne 6, 3) := by decide +kernel
theorem x71_6 {E : ME} {ls : MLs} {st : List MV} {g : MG} {μ : MU} {Q : Option MV → MG → MU → Prop} {a : Int} : Wp E 71 6 ls (.inl a :: st) g μ Q = ((¬ a = 0 → Wp E 71 12 ls st g μ Q) ∧ (a = 0 → Wp E 71 9 ls st g μ Q)) := Wp_if_ne k71_6 (by decide)
theorem k71_9 : mCode 71 9 = some (.bipush (-2), 2) := by decide +kernel
theorem x71_9 {E : ME} {ls : MLs} {st : List MV} {g : MG} {μ : MU} {Q : Option MV → MG → MU → Prop} : Wp E 71 9 ls st g μ Q = Wp E 71 11 ls (.inl (-2) :: st) g μ Q := Wp_nx k71_9 rfl
theorem k71_11 : mCode 71 11 = some (.ireturn, 1) := by decide +kernel
theorem x71_11 {E : ME} {ls : MLs} {g : MG} {μ : MU} {Q : Option MV → MG → MU → Prop} {v : Int} : Wp E 71 11 ls [.inl v] g μ Q = Q (some (.inl v)) g μ := Wp_retI k71_11 (by decide)
theorem k71_12 : mCode 71 12 = some (.aload_n 0, 1) := by decide +kernel
theorem x71_12 {E : ME} {ls : MLs} {st : List MV} {g : MG} {μ : MU} {Q : Option MV → MG → MU → Prop} {v : Nat ⊕ Nat} : Wp E 71 12 (some (.inr (.inr v)) :: ls) st g μ Q = Wp E 71 13 (some (.inr (.inr v)) :: ls) (.inr (.inr v) :: st) g μ Q := Wp_nx k71_12 rfl
theorem k71_13 : mCode 71 13 = some (.getfield 37, 3) := by decide +kernel
theorem x71_13 {E : ME} {ls : MLs} {st : List MV} {g : MG} {μ : MU} {Q : Option MV → MG → MU → Prop} {a : Nat} : Wp E 71 13 ls (.inr (.inr (.inl a)) :: st) g μ Q = ((mKd g a).1 = 5 ∧ Wp E 71 16 ls (mRv (mRf g a 4) :: st) g μ Q) := Wp_getR k71_13 f5_37 (by decide) (by decide)
theorem k71_16 : mCode 71 16 = some (.iload_n 1, 1) := by decide +kernel
theorem x71_16 {E : ME} {ls : MLs} {st : List MV} {g : MG} {μ : MU} {Q : Option MV → MG → MU → Prop} {l0 : Option MV} {v : Int} : Wp E 71 16 (l0 :: some (.inl v) :: ls) st g μ Q = Wp E 71 17 (l0 :: some (.inl v) :: ls) (.inl v :: st) g μ Q := Wp_nx k71_16 rfl
theorem k71_17 : mCode 71 17 = some (.aaload, 1) := by decide +kernel
theorem x71_17 {E : ME} {ls : MLs} {st : List MV} {g : MG} {μ : MU} {Q : Option MV → MG → MU → Prop} {a : Nat} {j : Int} : Wp E 71 17 ls (.inl j :: .inr (.inr (.inl a)) :: st) g μ Q = ((((mKd g a).1 = 13 ∨ (mKd g a).1 = 14) ∧ 0 ≤ j ∧ j < (mKd g a).2) ∧ Wp E 71 18 ls (mRv (mRf g a j.toNat) :: st) g μ Q) := Wp_aald k71_17
theorem k71_18 : mCode 71 18 = some (.aload_n 0, 1) := by decide +kernel
theorem x71_18 {E : ME} {ls : MLs} {st : List MV} {g : MG} {μ : MU} {Q : Option MV → MG → MU → Prop} {v : Nat ⊕ Nat} : Wp E 71 18 (some (.inr (.inr v)) :: ls) st g μ Q = Wp E 71 19 (some (.inr (.inr v)) :: ls) (.inr (.inr v) :: st) g μ Q := Wp_nx k71_18 rfl
theorem k71_19 : mCode 71 19 = some (.getfield 10, 3) := by decide +kernel
theorem x71_19 {E : ME} {ls : MLs} {st : List MV} {g : MG} {μ : MU} {Q : Option MV → MG → MU → Prop} {a : Nat} : Wp E 71 19 ls (.inr (.inr (.inl a)) :: st) g μ Q = ((mKd g a).1 = 5 ∧ Wp E 71 22 ls (mRv (mRf g a 0) :: st) g μ Q) := Wp_getR k71_19 f5_10 (by decide) (by decide)
theorem k71_22 : mCode 71 22 = some (.invokevirtual 240, 3) := by decide +kernel
theorem x71_22 {E : ME} {ls : MLs} {st : List MV} {g : MG} {μ : MU} {Q : Option MV → MG → MU → Prop} {r : Nat} {a0 : Nat ⊕ Nat} : Wp E 71 22 ls (.inr (.inr a0) :: .inr (.inr (.inl r)) :: st) g μ Q = ((st.length ≤ 4 ∧ ((mKd g r).1 == 0) = true) ∧ Wp E 1 0 [some (.inr (.inr (.inl r))), some (.inr (.inr a0))] [] g μ (fun r g' μ' => (g'.1 = g.1 ∧ g'.2.1 = g.2.1) ∧ Wp E 71 25 ls (mPush r st) g' μ' Q)) := Wp_cV k71_22 m5_240 (by decide) (as := [.inr (.inr (.inl r)), .inr (.inr a0)]) rfl rfl rfl ⟨Nat.le_of_ble_eq_true rfl, by decide⟩
theorem k71_25 : mCode 71 25 = some (.aload_n 0, 1) := by decide +kernel
theorem x71_25 {E : ME} {ls : MLs} {st : List MV} {g : MG} {μ : MU} {Q : Option MV → MG → MU → Prop} {v : Nat ⊕ Nat} : Wp E 71 25 (some (.inr (.inr v)) :: ls) st g μ Q = Wp E 71 26 (some (.inr (.inr v)) :: ls) (.inr (.inr v) :: st) g μ Q := Wp_nx k71_25 rfl
theorem k71_26 : mCode 71 26 = some (.getfield 41, 3) := by decide +kernel
theorem x71_26 {E : ME} {ls : MLs} {st : List MV} {g : MG} {μ : MU} {Q : Option MV → MG → MU → Prop} {a : Nat} : Wp E 71 26 ls (.inr (.inr (.inl a)) :: st) g μ Q = ((mKd g a).1 = 5 ∧ Wp E 71 29 ls (mRv (mRf g a 5) :: st) g μ Q) := Wp_getR k71_26 f5_41 (by decide) (by decide)
theorem k71_29 : mCode 71 29 = some (.iload_n 1, 1) := by decide +kernel
theorem x71_29 {E : ME} {ls : MLs} {st : List MV} {g : MG} {μ : MU} {Q : Option MV → MG → MU → Prop} {l0 : Option MV} {v : Int} : Wp E 71 29 (l0 :: some (.inl v) :: ls) st g μ Q = Wp E 71 30 (l0 :: some (.inl v) :: ls) (.inl v :: st) g μ Q := Wp_nx k71_29 rfl
theorem k71_30 : mCode 71 30 = some (.iconst 1, 1) := by decide +kernel
theorem x71_30 {E : ME} {ls : MLs} {st : List MV} {g : MG} {μ : MU} {Q : Option MV → MG → MU → Prop} : Wp E 71 30 ls st g μ Q = Wp E 71 31 ls (.inl 1 :: st) g μ Q := Wp_nx k71_30 rfl
theorem k71_31 : mCode 71 31 = some (.bastore, 1) := by decide +kernel
theorem x71_31 {E : ME} {ls : MLs} {st : List MV} {g : MG} {μ : MU} {Q : Option MV → MG → MU → Prop} {a : Nat} {j v : Int} : Wp E 71 31 ls (.inl v :: .inl j :: .inr (.inr (.inl a)) :: st) g μ Q = (((mKd g a).1 = 12 ∧ 0 ≤ j ∧ j < (mKd g a).2 ∧ mOk 2 v = true) ∧ Wp E 71 32 ls st g (mUp μ a j.toNat v) Q) := Wp_ast k71_31 (fun _ => rfl)
theorem k71_32 : mCode 71 32 = some (.aload_n 0, 1) := by decide +kernel
theorem x71_32 {E : ME} {ls : MLs} {st : List MV} {g : MG} {μ : MU} {Q : Option MV → MG → MU → Prop} {v : Nat ⊕ Nat} : Wp E 71 32 (some (.inr (.inr v)) :: ls) st g μ Q = Wp E 71 33 (some (.inr (.inr v)) :: ls) (.inr (.inr v) :: st) g μ Q := Wp_nx k71_32 rfl
theorem k71_33 : mCode 71 33 = some (.getfield 10, 3) := by decide +kernel
theorem x71_33 {E : ME} {ls : MLs} {st : List MV} {g : MG} {μ : MU} {Q : Option MV → MG → MU → Prop} {a : Nat} : Wp E 71 33 ls (.inr (.inr (.inl a)) :: st) g μ Q = ((mKd g a).1 = 5 ∧ Wp E 71 36 ls (mRv (mRf g a 0) :: st) g μ Q) := Wp_getR k71_33 f5_10 (by decide) (by decide)
theorem k71_36 : mCode 71 36 = some (.getfield 181, 3) := by decide +kernel
theorem x71_36 {E : ME} {ls : MLs} {st : List MV} {g : MG} {μ : MU} {Q : Option MV → MG → MU → Prop} {a : Nat} : Wp E 71 36 ls (.inr (.inr (.inl a)) :: st) g μ Q = ((mKd g a).1 = 0 ∧ Wp E 71 39 ls (.inl (μ a 7) :: st) g μ Q) := Wp_getI k71_36 f5_181 (by decide) (by decide)
theorem k71_39 : mCode 71 39 = some (.ireturn, 1) := by decide +kernel
theorem x71_39 {E : ME} {ls : MLs} {g : MG} {μ : MU} {Q : Option MV → MG → MU → Prop} {v : Int} : Wp E 71 39 ls [.inl v] g μ Q = Q (some (.inl v)) g μ := Wp_retI k71_39 (by decide)
theorem k72_0 : mCode 72 0 = some (.iload_n 1, 1) := by decide +kernel
theorem x72_0 {E : ME} {ls : MLs} {st : List MV} {g : MG} {μ : MU} {Q : Option MV → MG → MU → Prop} {l0 : Option MV} {v : Int} : Wp E 72 0 (l0 :: some (.inl v) :: ls) st g μ Q = Wp E 72 1 (l0 :: some (.inl v) :: ls) (.inl v :: st) g μ Q := Wp_nx k72_0 rfl
theorem k72_1 : mCode 72 1 = some (.iconst 0, 1) := by decide +kernel
theorem x72_1 {E : ME} {ls : MLs} {st : List MV} {g : MG} {μ : MU} {Q : Option MV → MG → MU → Prop} : Wp E 72 1 ls st g μ Q = Wp E 72 2 ls (.inl 0 :: st) g μ Q := Wp_nx k72_1 rfl
theorem k72_2 : mCode 72 2 = some (.iconst 1, 1) := by decide +kernel
theorem x72_2 {E : ME} {ls : MLs} {st : List MV} {g : MG} {μ : MU} {Q : Option MV → MG → MU → Prop} : Wp E 72 2 ls st g μ Q = Wp E 72 3 ls (.inl 1 :: st) g μ Q := Wp_nx k72_2 rfl
theorem k72_3 : mCode 72 3 = some (.invokestatic 170, 3) := by decide +kernel
theorem x72_3 {E : ME} {ls : MLs} {st : List MV} {g : MG} {μ : MU} {Q : Option MV → MG → MU → Prop} {a0 : Int} {a1 : Int} {a2 : Int} : Wp E 72 3 ls (.inl a2 :: .inl a1 :: .inl a0 :: st) g μ Q = (st.length ≤ 4 ∧ Wp E 74 0 [some (.inl a0), some (.inl a1), some (.inl a2)] [] g μ (fun r g' μ' => (g'.1 = g.1 ∧ g'.2.1 = g.2.1) ∧ Wp E 72 6 ls (mPush r st) g' μ' Q)) := Wp_cS k72_3 m5_170 (by decide) (as := [.inl a0, .inl a1, .inl a2]) rfl rfl rfl ⟨Nat.le_of_ble_eq_true rfl, by decide⟩
theorem k72_6 : mCode 72 6 = some (.ifCond .ne 6, 3) := by decide +kernel
theorem x72_6 {E : ME} {ls : MLs} {st : List MV} {g : MG} {μ : MU} {Q : Option MV → MG → MU → Prop} {a : Int} : Wp E 72 6 ls (.inl a :: st) g μ Q = ((¬ a = 0 → Wp E 72 12 ls st g μ Q) ∧ (a = 0 → Wp E 72 9 ls st g μ Q)) := Wp_if_ne k72_6 (by decide)
theorem k72_9 : mCode 72 9 = some (.bipush (-2), 2) := by decide +kernel
theorem x72_9 {E : ME} {ls : MLs} {st : List MV} {g : MG} {μ : MU} {Q : Option MV → MG → MU → Prop} : Wp E 72 9 ls st g μ Q = Wp E 72 11 ls (.inl (-2) :: st) g μ Q := Wp_nx k72_9 rfl
theorem k72_11 : mCode 72 11 = some (.ireturn, 1) := by decide +kernel
theorem x72_11 {E : ME} {ls : MLs} {g : MG} {μ : MU} {Q : Option MV → MG → MU → Prop} {v : Int} : Wp E 72 11 ls [.inl v] g μ Q = Q (some (.inl v)) g μ := Wp_retI k72_11 (by decide)
theorem k72_12 : mCode 72 12 = some (.aload_n 0, 1) := by decide +kernel
theorem x72_12 {E : ME} {ls : MLs} {st : List MV} {g : MG} {μ : MU} {Q : Option MV → MG → MU → Prop} {v : Nat ⊕ Nat} : Wp E 72 12 (some (.inr (.inr v)) :: ls) st g μ Q = Wp E 72 13 (some (.inr (.inr v)) :: ls) (.inr (.inr v) :: st) g μ Q := Wp_nx k72_12 rfl
theorem k72_13 : mCode 72 13 = some (.getfield 41, 3) := by decide +kernel
theorem x72_13 {E : ME} {ls : MLs} {st : List MV} {g : MG} {μ : MU} {Q : Option MV → MG → MU → Prop} {a : Nat} : Wp E 72 13 ls (.inr (.inr (.inl a)) :: st) g μ Q = ((mKd g a).1 = 5 ∧ Wp E 72 16 ls (mRv (mRf g a 5) :: st) g μ Q) := Wp_getR k72_13 f5_41 (by decide) (by decide)
theorem k72_16 : mCode 72 16 = some (.iload_n 1, 1) := by decide +kernel
theorem x72_16 {E : ME} {ls : MLs} {st : List MV} {g : MG} {μ : MU} {Q : Option MV → MG → MU → Prop} {l0 : Option MV} {v : Int} : Wp E 72 16 (l0 :: some (.inl v) :: ls) st g μ Q = Wp E 72 17 (l0 :: some (.inl v) :: ls) (.inl v :: st) g μ Q := Wp_nx k72_16 rfl
theorem k72_17 : mCode 72 17 = some (.baload, 1) := by decide +kernel
theorem x72_17 {E : ME} {ls : MLs} {st : List MV} {g : MG} {μ : MU} {Q : Option MV → MG → MU → Prop} {a : Nat} {j : Int} : Wp E 72 17 ls (.inl j :: .inr (.inr (.inl a)) :: st) g μ Q = (((mKd g a).1 = 12 ∧ 0 ≤ j ∧ j < (mKd g a).2) ∧ Wp E 72 18 ls (.inl (μ a j.toNat) :: st) g μ Q) := Wp_ald k72_17 (fun _ => rfl)
theorem k72_18 : mCode 72 18 = some (.ifCond .ne 6, 3) := by decide +kernel
theorem x72_18 {E : ME} {ls : MLs} {st : List MV} {g : MG} {μ : MU} {Q : Option MV → MG → MU → Prop} {a : Int} : Wp E 72 18 ls (.inl a :: st) g μ Q = ((¬ a = 0 → Wp E 72 24 ls st g μ Q) ∧ (a = 0 → Wp E 72 21 ls st g μ Q)) := Wp_if_ne k72_18 (by decide)
theorem k72_21 : mCode 72 21 = some (.bipush (-5), 2) := by decide +kernel
theorem x72_21 {E : ME} {ls : MLs} {st : List MV} {g : MG} {μ : MU} {Q : Option MV → MG → MU → Prop} : Wp E 72 21 ls st g μ Q = Wp E 72 23 ls (.inl (-5) :: st) g μ Q := Wp_nx k72_21 rfl
theorem k72_23 : mCode 72 23 = some (.ireturn, 1) := by decide +kernel
theorem x72_23 {E : ME} {ls : MLs} {g : MG} {μ : MU} {Q : Option MV → MG → MU → Prop} {v : Int} : Wp E 72 23 ls [.inl v] g μ Q = Q (some (.inl v)) g μ := Wp_retI k72_23 (by decide)
theorem k72_24 : mCode 72 24 = some (.aload_n 0, 1) := by decide +kernel
theorem x72_24 {E : ME} {ls : MLs} {st : List MV} {g : MG} {μ : MU} {Q : Option MV → MG → MU → Prop} {v : Nat ⊕ Nat} : Wp E 72 24 (some (.inr (.inr v)) :: ls) st g μ Q = Wp E 72 25 (some (.inr (.inr v)) :: ls) (.inr (.inr v) :: st) g μ Q := Wp_nx k72_24 rfl
theorem k72_25 : mCode 72 25 = some (.getfield 26, 3) := by decide +kernel
theorem x72_25 {E : ME} {ls : MLs} {st : List MV} {g : MG} {μ : MU} {Q : Option MV → MG → MU → Prop} {a : Nat} : Wp E 72 25 ls (.inr (.inr (.inl a)) :: st) g μ Q = ((mKd g a).1 = 5 ∧ Wp E 72 28 ls (mRv (mRf g a 2) :: st) g μ Q) := Wp_getR k72_25 f5_26 (by decide) (by decide)
theorem k72_28 : mCode 72 28 = some (.aload_n 0, 1) := by decide +kernel
theorem x72_28 {E : ME} {ls : MLs} {st : List MV} {g : MG} {μ : MU} {Q : Option MV → MG → MU → Prop} {v : Nat ⊕ Nat} : Wp E 72 28 (some (.inr (.inr v)) :: ls) st g μ Q = Wp E 72 29 (some (.inr (.inr v)) :: ls) (.inr (.inr v) :: st) g μ Q := Wp_nx k72_28 rfl
theorem k72_29 : mCode 72 29 = some (.getfield 10, 3) := by decide +kernel
theorem x72_29 {E : ME} {ls : MLs} {st : List MV} {g : MG} {μ : MU} {Q : Option MV → MG → MU → Prop} {a : Nat} : Wp E 72 29 ls (.inr (.inr (.inl a)) :: st) g μ Q = ((mKd g a).1 = 5 ∧ Wp E 72 32 ls (mRv (mRf g a 0) :: st) g μ Q) := Wp_getR k72_29 f5_10 (by decide) (by decide)
theorem k72_32 : mCode 72 32 = some (.invokevirtual 58, 3) := by decide +kernel
theorem x72_32 {E : ME} {ls : MLs} {st : List MV} {g : MG} {μ : MU} {Q : Option MV → MG → MU → Prop} {r : Nat} {a0 : Nat ⊕ Nat} : Wp E 72 32 ls (.inr (.inr a0) :: .inr (.inr (.inl r)) :: st) g μ Q = ((st.length ≤ 4 ∧ ((mKd g r).1 == 1) = true) ∧ Wp E 15 0 [some (.inr (.inr (.inl r))), some (.inr (.inr a0))] [] g μ (fun r g' μ' => (g'.1 = g.1 ∧ g'.2.1 = g.2.1) ∧ Wp E 72 35 ls (mPush r st) g' μ' Q)) := Wp_cV k72_32 m5_58 (by decide) (as := [.inr (.inr (.inl r)), .inr (.inr a0)]) rfl rfl rfl ⟨Nat.le_of_ble_eq_true rfl, by decide⟩
theorem k72_35 : mCode 72 35 = some (.aload_n 0, 1) := by decide +kernel
theorem x72_35 {E : ME} {ls : MLs} {st : List MV} {g : MG} {μ : MU} {Q : Option MV → MG → MU → Prop} {v : Nat ⊕ Nat} : Wp E 72 35 (some (.inr (.inr v)) :: ls) st g μ Q = Wp E 72 36 (some (.inr (.inr v)) :: ls) (.inr (.inr v) :: st) g μ Q := Wp_nx k72_35 rfl
theorem k72_36 : mCode 72 36 = some (.getfield 10, 3) := by decide +kernel
theorem x72_36 {E : ME} {ls : MLs} {st : List MV} {g : MG} {μ : MU} {Q : Option MV → MG → MU → Prop} {a : Nat} : Wp E 72 36 ls (.inr (.inr (.inl a)) :: st) g μ Q = ((mKd g a).1 = 5 ∧ Wp E 72 39 ls (mRv (mRf g a 0) :: st) g μ Q) := Wp_getR k72_36 f5_10 (by decide) (by decide)
theorem k72_39 : mCode 72 39 = some (.aload_n 0, 1) := by decide +kernel
theorem x72_39 {E : ME} {ls : MLs} {st : List MV} {g : MG} {μ : MU} {Q : Option MV → MG → MU → Prop} {v : Nat ⊕ Nat} : Wp E 72 39 (some (.inr (.inr v)) :: ls) st g μ Q = Wp E 72 40 (some (.inr (.inr v)) :: ls) (.inr (.inr v) :: st) g μ Q := Wp_nx k72_39 rfl
theorem k72_40 : mCode 72 40 = some (.getfield 37, 3) := by decide +kernel
theorem x72_40 {E : ME} {ls : MLs} {st : List MV} {g : MG} {μ : MU} {Q : Option MV → MG → MU → Prop} {a : Nat} : Wp E 72 40 ls (.inr (.inr (.inl a)) :: st) g μ Q = ((mKd g a).1 = 5 ∧ Wp E 72 43 ls (mRv (mRf g a 4) :: st) g μ Q) := Wp_getR k72_40 f5_37 (by decide) (by decide)
theorem k72_43 : mCode 72 43 = some (.iload_n 1, 1) := by decide +kernel
theorem x72_43 {E : ME} {ls : MLs} {st : List MV} {g : MG} {μ : MU} {Q : Option MV → MG → MU → Prop} {l0 : Option MV} {v : Int} : Wp E 72 43 (l0 :: some (.inl v) :: ls) st g μ Q = Wp E 72 44 (l0 :: some (.inl v) :: ls) (.inl v :: st) g μ Q := Wp_nx k72_43 rfl
theorem k72_44 : mCode 72 44 = some (.aaload, 1) := by decide +kernel
theorem x72_44 {E : ME} {ls : MLs} {st : List MV} {g : MG} {μ : MU} {Q : Option MV → MG → MU → Prop} {a : Nat} {j : Int} : Wp E 72 44 ls (.inl j :: .inr (.inr (.inl a)) :: st) g μ Q = ((((mKd g a).1 = 13 ∨ (mKd g a).1 = 14) ∧ 0 ≤ j ∧ j < (mKd g a).2) ∧ Wp E 72 45 ls (mRv (mRf g a j.toNat) :: st) g μ Q) := Wp_aald k72_44
theorem k72_45 : mCode 72 45 = some (.invokevirtual 240, 3) := by decide +kernel
theorem x72_45 {E : ME} {ls : MLs} {st : List MV} {g : MG} {μ : MU} {Q : Option MV → MG → MU → Prop} {r : Nat} {a0 : Nat ⊕ Nat} : Wp E 72 45 ls (.inr (.inr a0) :: .inr (.inr (.inl r)) :: st) g μ Q = ((st.length ≤ 4 ∧ ((mKd g r).1 == 0) = true) ∧ Wp E 1 0 [some (.inr (.inr (.inl r))), some (.inr (.inr a0))] [] g μ (fun r g' μ' => (g'.1 = g.1 ∧ g'.2.1 = g.2.1) ∧ Wp E 72 48 ls (mPush r st) g' μ' Q)) := Wp_cV k72_45 m5_240 (by decide) (as := [.inr (.inr (.inl r)), .inr (.inr a0)]) rfl rfl rfl ⟨Nat.le_of_ble_eq_true rfl, by decide⟩
theorem k72_48 : mCode 72 48 = some (.aload_n 0, 1) := by decide +kernel
theorem x72_48 {E : ME} {ls : MLs} {st : List MV} {g : MG} {μ : MU} {Q : Option MV → MG → MU → Prop} {v : Nat ⊕ Nat} : Wp E 72 48 (some (.inr (.inr v)) :: ls) st g μ Q = Wp E 72 49 (some (.inr (.inr v)) :: ls) (.inr (.inr v) :: st) g μ Q := Wp_nx k72_48 rfl
theorem k72_49 : mCode 72 49 = some (.getfield 26, 3) := by decide +kernel
theorem x72_49 {E : ME} {ls : MLs} {st : List MV} {g : MG} {μ : MU} {Q : Option MV → MG → MU → Prop} {a : Nat} : Wp E 72 49 ls (.inr (.inr (.inl a)) :: st) g μ Q = ((mKd g a).1 = 5 ∧ Wp E 72 52 ls (mRv (mRf g a 2) :: st) g μ Q) := Wp_getR k72_49 f5_26 (by decide) (by decide)
theorem k72_52 : mCode 72 52 = some (.invokevirtual 94, 3) := by decide +kernel
theorem x72_52 {E : ME} {ls : MLs} {st : List MV} {g : MG} {μ : MU} {Q : Option MV → MG → MU → Prop} {r : Nat} : Wp E 72 52 ls (.inr (.inr (.inl r)) :: st) g μ Q = ((st.length ≤ 4 ∧ ((mKd g r).1 == 1) = true) ∧ Wp E 16 0 [some (.inr (.inr (.inl r)))] [] g μ (fun r g' μ' => (g'.1 = g.1 ∧ g'.2.1 = g.2.1) ∧ Wp E 72 55 ls (mPush r st) g' μ' Q)) := Wp_cV k72_52 m5_94 (by decide) (as := [.inr (.inr (.inl r))]) rfl rfl rfl ⟨Nat.le_of_ble_eq_true rfl, by decide⟩
theorem k72_55 : mCode 72 55 = some (.aload_n 0, 1) := by decide +kernel
theorem x72_55 {E : ME} {ls : MLs} {st : List MV} {g : MG} {μ : MU} {Q : Option MV → MG → MU → Prop} {v : Nat ⊕ Nat} : Wp E 72 55 (some (.inr (.inr v)) :: ls) st g μ Q = Wp E 72 56 (some (.inr (.inr v)) :: ls) (.inr (.inr v) :: st) g μ Q := Wp_nx k72_55 rfl
theorem k72_56 : mCode 72 56 = some (.getfield 10, 3) := by decide +kernel
theorem x72_56 {E : ME} {ls : MLs} {st : List MV} {g : MG} {μ : MU} {Q : Option MV → MG → MU → Prop} {a : Nat} : Wp E 72 56 ls (.inr (.inr (.inl a)) :: st) g μ Q = ((mKd g a).1 = 5 ∧ Wp E 72 59 ls (mRv (mRf g a 0) :: st) g μ Q) := Wp_getR k72_56 f5_10 (by decide) (by decide)
theorem k72_59 : mCode 72 59 = some (.getfield 181, 3) := by decide +kernel
theorem x72_59 {E : ME} {ls : MLs} {st : List MV} {g : MG} {μ : MU} {Q : Option MV → MG → MU → Prop} {a : Nat} : Wp E 72 59 ls (.inr (.inr (.inl a)) :: st) g μ Q = ((mKd g a).1 = 0 ∧ Wp E 72 62 ls (.inl (μ a 7) :: st) g μ Q) := Wp_getI k72_59 f5_181 (by decide) (by decide)
theorem k72_62 : mCode 72 62 = some (.ireturn, 1) := by decide +kernel
theorem x72_62 {E : ME} {ls : MLs} {g : MG} {μ : MU} {Q : Option MV → MG → MU → Prop} {v : Int} : Wp E 72 62 ls [.inl v] g μ Q = Q (some (.inl v)) g μ := Wp_retI k72_62 (by decide)
theorem k73_0 : mCode 73 0 = some (.iload_n 0, 1) := by decide +kernel
theorem x73_0 {E : ME} {ls : MLs} {st : List MV} {g : MG} {μ : MU} {Q : Option MV → MG → MU → Prop} {v : Int} : Wp E 73 0 (some (.inl v) :: ls) st g μ Q = Wp E 73 1 (some (.inl v) :: ls) (.inl v :: st) g μ Q := Wp_nx k73_0 rfl
theorem k73_1 : mCode 73 1 = some (.ifCond .ge 13, 3) := by decide +kernel
theorem x73_1 {E : ME} {ls : MLs} {st : List MV} {g : MG} {μ : MU} {Q : Option MV → MG → MU → Prop} {a : Int} : Wp E 73 1 ls (.inl a :: st) g μ Q = ((0 ≤ a → Wp E 73 14 ls st g μ Q) ∧ (a < 0 → Wp E 73 4 ls st g μ Q)) := Wp_if_ge k73_1 (by decide)
theorem k73_4 : mCode 73 4 = some (.iload_n 0, 1) := by decide +kernel
theorem x73_4 {E : ME} {ls : MLs} {st : List MV} {g : MG} {μ : MU} {Q : Option MV → MG → MU → Prop} {v : Int} : Wp E 73 4 (some (.inl v) :: ls) st g μ Q = Wp E 73 5 (some (.inl v) :: ls) (.inl v :: st) g μ Q := Wp_nx k73_4 rfl
theorem k73_5 : mCode 73 5 = some (.bipush (-6), 2) := by decide +kernel
theorem x73_5 {E : ME} {ls : MLs} {st : List MV} {g : MG} {μ : MU} {Q : Option MV → MG → MU → Prop} : Wp E 73 5 ls st g μ Q = Wp E 73 7 ls (.inl (-6) :: st) g μ Q := Wp_nx k73_5 rfl
theorem k73_7 : mCode 73 7 = some (.if_icmp .eq 7, 3) := by decide +kernel
theorem x73_7 {E : ME} {ls : MLs} {st : List MV} {g : MG} {μ : MU} {Q : Option MV → MG → MU → Prop} {a b : Int} : Wp E 73 7 ls (.inl b :: .inl a :: st) g μ Q = ((a = b → Wp E 73 14 ls st g μ Q) ∧ (¬ a = b → Wp E 73 10 ls st g μ Q)) := Wp_cmp_eq k73_7 (by decide)
theorem k73_10 : mCode 73 10 = some (.iconst 1, 1) := by decide +kernel
theorem x73_10 {E : ME} {ls : MLs} {st : List MV} {g : MG} {μ : MU} {Q : Option MV → MG → MU → Prop} : Wp E 73 10 ls st g μ Q = Wp E 73 11 ls (.inl 1 :: st) g μ Q := Wp_nx k73_10 rfl
theorem k73_11 : mCode 73 11 = some (.goto 4, 3) := by decide +kernel
theorem x73_11 {E : ME} {ls : MLs} {st : List MV} {g : MG} {μ : MU} {Q : Option MV → MG → MU → Prop} : Wp E 73 11 ls st g μ Q = Wp E 73 15 ls st g μ Q := Wp_goto k73_11 (by decide)
theorem k73_14 : mCode 73 14 = some (.iconst 0, 1) := by decide +kernel
theorem x73_14 {E : ME} {ls : MLs} {st : List MV} {g : MG} {μ : MU} {Q : Option MV → MG → MU → Prop} : Wp E 73 14 ls st g μ Q = Wp E 73 15 ls (.inl 0 :: st) g μ Q := Wp_nx k73_14 rfl
theorem k73_15 : mCode 73 15 = some (.ireturn, 1) := by decide +kernel
theorem x73_15 {E : ME} {ls : MLs} {g : MG} {μ : MU} {Q : Option MV → MG → MU → Prop} {v : Int} : Wp E 73 15 ls [.inl v] g μ Q = ((v = 0 ∨ v = 1) ∧ Q (some (.inl v)) g μ) := Wp_retZ k73_15 (by decide)
theorem k74_0 : mCode 74 0 = some (.iload_n 0, 1) := by decide +kernel
theorem x74_0 {E : ME} {ls : MLs} {st : List MV} {g : MG} {μ : MU} {Q : Option MV → MG → MU → Prop} {v : Int} : Wp E 74 0 (some (.inl v) :: ls) st g μ Q = Wp E 74 1 (some (.inl v) :: ls) (.inl v :: st) g μ Q := Wp_nx k74_0 rfl
theorem k74_1 : mCode 74 1 = some (.iload_n 1, 1) := by decide +kernel
theorem x74_1 {E : ME} {ls : MLs} {st : List MV} {g : MG} {μ : MU} {Q : Option MV → MG → MU → Prop} {l0 : Option MV} {v : Int} : Wp E 74 1 (l0 :: some (.inl v) :: ls) st g μ Q = Wp E 74 2 (l0 :: some (.inl v) :: ls) (.inl v :: st) g μ Q := Wp_nx k74_1 rfl
theorem k74_2 : mCode 74 2 = some (.if_icmp .lt 12, 3) := by decide +kernel
theorem x74_2 {E : ME} {ls : MLs} {st : List MV} {g : MG} {μ : MU} {Q : Option MV → MG → MU → Prop} {a b : Int} : Wp E 74 2 ls (.inl b :: .inl a :: st) g μ Q = ((a < b → Wp E 74 14 ls st g μ Q) ∧ (b ≤ a → Wp E 74 5 ls st g μ Q)) := Wp_cmp_lt k74_2 (by decide)
theorem k74_5 : mCode 74 5 = some (.iload_n 0, 1) := by decide +kernel
theorem x74_5 {E : ME} {ls : MLs} {st : List MV} {g : MG} {μ : MU} {Q : Option MV → MG → MU → Prop} {v : Int} : Wp E 74 5 (some (.inl v) :: ls) st g μ Q = Wp E 74 6 (some (.inl v) :: ls) (.inl v :: st) g μ Q := Wp_nx k74_5 rfl
theorem k74_6 : mCode 74 6 = some (.iload_n 2, 1) := by decide +kernel
theorem x74_6 {E : ME} {ls : MLs} {st : List MV} {g : MG} {μ : MU} {Q : Option MV → MG → MU → Prop} {l0 l1 : Option MV} {v : Int} : Wp E 74 6 (l0 :: l1 :: some (.inl v) :: ls) st g μ Q = Wp E 74 7 (l0 :: l1 :: some (.inl v) :: ls) (.inl v :: st) g μ Q := Wp_nx k74_6 rfl
theorem k74_7 : mCode 74 7 = some (.if_icmp .gt 7, 3) := by decide +kernel
theorem x74_7 {E : ME} {ls : MLs} {st : List MV} {g : MG} {μ : MU} {Q : Option MV → MG → MU → Prop} {a b : Int} : Wp E 74 7 ls (.inl b :: .inl a :: st) g μ Q = ((b < a → Wp E 74 14 ls st g μ Q) ∧ (a ≤ b → Wp E 74 10 ls st g μ Q)) := Wp_cmp_gt k74_7 (by decide)
theorem k74_10 : mCode 74 10 = some (.iconst 1, 1) := by decide +kernel
theorem x74_10 {E : ME} {ls : MLs} {st : List MV} {g : MG} {μ : MU} {Q : Option MV → MG → MU → Prop} : Wp E 74 10 ls st g μ Q = Wp E 74 11 ls (.inl 1 :: st) g μ Q := Wp_nx k74_10 rfl
theorem k74_11 : mCode 74 11 = some (.goto 4, 3) := by decide +kernel
theorem x74_11 {E : ME} {ls : MLs} {st : List MV} {g : MG} {μ : MU} {Q : Option MV → MG → MU → Prop} : Wp E 74 11 ls st g μ Q = Wp E 74 15 ls st g μ Q := Wp_goto k74_11 (by decide)
theorem k74_14 : mCode 74 14 = some (.iconst 0, 1) := by decide +kernel
theorem x74_14 {E : ME} {ls : MLs} {st : List MV} {g : MG} {μ : MU} {Q : Option MV → MG → MU → Prop} : Wp E 74 14 ls st g μ Q = Wp E 74 15 ls (.inl 0 :: st) g μ Q := Wp_nx k74_14 rfl
theorem k74_15 : mCode 74 15 = some (.ireturn, 1) := by decide +kernel
theorem x74_15 {E : ME} {ls : MLs} {g : MG} {μ : MU} {Q : Option MV → MG → MU → Prop} {v : Int} : Wp E 74 15 ls [.inl v] g μ Q = ((v = 0 ∨ v = 1) ∧ Q (some (.inl v)) g μ) := Wp_retZ k74_15 (by decide)
theorem k75_0 : mCode 75 0 = some (.iload_n 0, 1) := by decide +kernel
theorem x75_0 {E : ME} {ls : MLs} {st : List MV} {g : MG} {μ : MU} {Q : Option MV → MG → MU → Prop} {v : Int} : Wp E 75 0 (some (.inl v) :: ls) st g μ Q = Wp E 75 1 (some (.inl v) :: ls) (.inl v :: st) g μ Q := Wp_nx k75_0 rfl
theorem k75_1 : mCode 75 1 = some (.iconst 0, 1) := by decide +kernel
theorem x75_1 {E : ME} {ls : MLs} {st : List MV} {g : MG} {μ : MU} {Q : Option MV → MG → MU → Prop} : Wp E 75 1 ls st g μ Q = Wp E 75 2 ls (.inl 0 :: st) g μ Q := Wp_nx k75_1 rfl
theorem k75_2 : mCode 75 2 = some (.iconst 3, 1) := by decide +kernel
theorem x75_2 {E : ME} {ls : MLs} {st : List MV} {g : MG} {μ : MU} {Q : Option MV → MG → MU → Prop} : Wp E 75 2 ls st g μ Q = Wp E 75 3 ls (.inl 3 :: st) g μ Q := Wp_nx k75_2 rfl
theorem k75_3 : mCode 75 3 = some (.invokestatic 170, 3) := by decide +kernel
theorem x75_3 {E : ME} {ls : MLs} {st : List MV} {g : MG} {μ : MU} {Q : Option MV → MG → MU → Prop} {a0 : Int} {a1 : Int} {a2 : Int} : Wp E 75 3 ls (.inl a2 :: .inl a1 :: .inl a0 :: st) g μ Q = (st.length ≤ 4 ∧ Wp E 74 0 [some (.inl a0), some (.inl a1), some (.inl a2)] [] g μ (fun r g' μ' => (g'.1 = g.1 ∧ g'.2.1 = g.2.1) ∧ Wp E 75 6 ls (mPush r st) g' μ' Q)) := Wp_cS k75_3 m5_170 (by decide) (as := [.inl a0, .inl a1, .inl a2]) rfl rfl rfl ⟨Nat.le_of_ble_eq_true rfl, by decide⟩
theorem k75_6 : mCode 75 6 = some (.ireturn, 1) := by decide +kernel
theorem x75_6 {E : ME} {ls : MLs} {g : MG} {μ : MU} {Q : Option MV → MG → MU → Prop} {v : Int} : Wp E 75 6 ls [.inl v] g μ Q = ((v = 0 ∨ v = 1) ∧ Q (some (.inl v)) g μ) := Wp_retZ k75_6 (by decide)
theorem k153_0 : mCode 153 0 = some (.new 7, 3) := by decide +kernel
theorem x153_0 {E : ME} {ls : MLs} {st : List MV} {g : MG} {μ : MU} {Q : Option MV → MG → MU → Prop} : Wp E 153 0 ls st g μ Q = Wp E 153 3 ls (mR g.1 :: st) (mGrow g (5, 0) 9) (mZero μ g.1) Q := Wp_new (ci := 5) k153_0 (by decide +kernel)
theorem k153_3 : mCode 153 3 = some (.dup, 1) := by decide +kernel
theorem x153_3 {E : ME} {ls : MLs} {st : List MV} {g : MG} {μ : MU} {Q : Option MV → MG → MU → Prop} {v : MV} : Wp E 153 3 ls (v :: st) g μ Q = (mC1 v = true ∧ Wp E 153 4 ls (v :: v :: st) g μ Q) := Wp_dup k153_3
theorem k153_4 : mCode 153 4 = some (.invokespecial 9, 3) := by decide +kernel
theorem x153_4 {E : ME} {ls : MLs} {st : List MV} {g : MG} {μ : MU} {Q : Option MV → MG → MU → Prop} {r : Nat} : Wp E 153 4 ls (.inr (.inr (.inl r)) :: st) g μ Q = ((st.length ≤ 4 ∧ ((mKd g r).1 == 5) = true) ∧ Wp E 39 0 [some (.inr (.inr (.inl r))), none] [] g μ (fun r g' μ' => (g'.1 = g.1 + 175 ∧ g'.2.1 = g.2.1 + 2374) ∧ Wp E 153 7 ls (mPush r st) g' μ' Q)) := Wp_cI (w := 5) k153_4 m13_9 (by decide) (by decide) (as := [.inr (.inr (.inl r))]) rfl rfl rfl ⟨Nat.le_of_ble_eq_true rfl, by decide⟩
theorem k153_7 : mCode 153 7 = some (.astore_n 1, 1) := by decide +kernel
theorem x153_7 {E : ME} {ls : MLs} {st : List MV} {g : MG} {μ : MU} {Q : Option MV → MG → MU → Prop} {l0 : Option MV} {lk : Option MV} {v : Nat ⊕ Nat} : Wp E 153 7 (l0 :: lk :: ls) (.inr (.inr v) :: st) g μ Q = ((mNl (some l0) = true ∧ mNl (some lk) = true) ∧ Wp E 153 8 (l0 :: some (.inr (.inr v)) :: ls) st g μ Q) := Wp_sta k153_7 (fun _ => rfl) rfl rfl rfl
theorem k153_8 : mCode 153 8 = some (.new 10, 3) := by decide +kernel
theorem x153_8 {E : ME} {ls : MLs} {st : List MV} {g : MG} {μ : MU} {Q : Option MV → MG → MU → Prop} : Wp E 153 8 ls st g μ Q = Wp E 153 11 ls (mR g.1 :: st) (mGrow g (6, 0) 25) (mZero μ g.1) Q := Wp_new (ci := 6) k153_8 (by decide +kernel)
theorem k153_11 : mCode 153 11 = some (.dup, 1) := by decide +kernel
theorem x153_11 {E : ME} {ls : MLs} {st : List MV} {g : MG} {μ : MU} {Q : Option MV → MG → MU → Prop} {v : MV} : Wp E 153 11 ls (v :: st) g μ Q = (mC1 v = true ∧ Wp E 153 12 ls (v :: v :: st) g μ Q) := Wp_dup k153_11
theorem k153_12 : mCode 153 12 = some (.invokespecial 12, 3) := by decide +kernel
theorem x153_12 {E : ME} {ls : MLs} {st : List MV} {g : MG} {μ : MU} {Q : Option MV → MG → MU → Prop} {r : Nat} : Wp E 153 12 ls (.inr (.inr (.inl r)) :: st) g μ Q = ((st.length ≤ 4 ∧ ((mKd g r).1 == 6) = true) ∧ Wp E 76 0 [some (.inr (.inr (.inl r))), none] [] g μ (fun r g' μ' => (g'.1 = g.1 + 18 ∧ g'.2.1 = g.2.1 + 2131) ∧ Wp E 153 15 ls (mPush r st) g' μ' Q)) := Wp_cI (w := 6) k153_12 m13_12 (by decide) (by decide) (as := [.inr (.inr (.inl r))]) rfl rfl rfl ⟨Nat.le_of_ble_eq_true rfl, by decide⟩
theorem k153_15 : mCode 153 15 = some (.astore_n 2, 1) := by decide +kernel
theorem x153_15 {E : ME} {ls : MLs} {st : List MV} {g : MG} {μ : MU} {Q : Option MV → MG → MU → Prop} {l0 l1 : Option MV} {lk : Option MV} {v : Nat ⊕ Nat} : Wp E 153 15 (l0 :: l1 :: lk :: ls) (.inr (.inr v) :: st) g μ Q = ((mNl (some l1) = true ∧ mNl (some lk) = true) ∧ Wp E 153 16 (l0 :: l1 :: some (.inr (.inr v)) :: ls) st g μ Q) := Wp_sta k153_15 (fun _ => rfl) rfl rfl rfl
theorem k153_16 : mCode 153 16 = some (.iconst 0, 1) := by decide +kernel
theorem x153_16 {E : ME} {ls : MLs} {st : List MV} {g : MG} {μ : MU} {Q : Option MV → MG → MU → Prop} : Wp E 153 16 ls st g μ Q = Wp E 153 17 ls (.inl 0 :: st) g μ Q := Wp_nx k153_16 rfl
theorem k153_17 : mCode 153 17 = some (.istore_n 3, 1) := by decide +kernel
theorem x153_17 {E : ME} {ls : MLs} {st : List MV} {g : MG} {μ : MU} {Q : Option MV → MG → MU → Prop} {l0 l1 l2 : Option MV} {lk : Option MV} {v : Int} : Wp E 153 17 (l0 :: l1 :: l2 :: lk :: ls) (.inl v :: st) g μ Q = ((mNl (some l2) = true ∧ mNl (some lk) = true) ∧ Wp E 153 18 (l0 :: l1 :: l2 :: some (.inl v) :: ls) st g μ Q) := Wp_sti k153_17 (fun _ => rfl) rfl rfl rfl
theorem k153_18 : mCode 153 18 = some (.iload_n 3, 1) := by decide +kernel
theorem x153_18 {E : ME} {ls : MLs} {st : List MV} {g : MG} {μ : MU} {Q : Option MV → MG → MU → Prop} {l0 l1 l2 : Option MV} {v : Int} : Wp E 153 18 (l0 :: l1 :: l2 :: some (.inl v) :: ls) st g μ Q = Wp E 153 19 (l0 :: l1 :: l2 :: some (.inl v) :: ls) (.inl v :: st) g μ Q := Wp_nx k153_18 rfl
theorem k153_19 : mCode 153 19 = some (.aload_n 0, 1) := by decide +kernel
theorem x153_19 {E : ME} {ls : MLs} {st : List MV} {g : MG} {μ : MU} {Q : Option MV → MG → MU → Prop} {v : Nat ⊕ Nat} : Wp E 153 19 (some (.inr (.inr v)) :: ls) st g μ Q = Wp E 153 20 (some (.inr (.inr v)) :: ls) (.inr (.inr v) :: st) g μ Q := Wp_nx k153_19 rfl
theorem k153_20 : mCode 153 20 = some (.arraylength, 1) := by decide +kernel
theorem x153_20 {E : ME} {ls : MLs} {st : List MV} {g : MG} {μ : MU} {Q : Option MV → MG → MU → Prop} {a : Nat} : Wp E 153 20 ls (.inr (.inr (.inl a)) :: st) g μ Q = ((10 ≤ (mKd g a).1 ∧ (mKd g a).1 < 15) ∧ Wp E 153 21 ls (.inl (mKd g a).2 :: st) g μ Q) := Wp_alen k153_20
theorem x153_20K {E : ME} {ls : MLs} {st : List MV} {g : MG} {μ : MU} {Q : Option MV → MG → MU → Prop} {c : Nat} : Wp E 153 20 ls (.inr (.inr (.inr c)) :: st) g μ Q = ((mk_isI c = true ∨ mk_isB c = true) ∧ Wp E 153 21 ls (.inl (mk_len E c) :: st) g μ Q) := Wp_alenK k153_20
theorem k153_21 : mCode 153 21 = some (.iconst 5, 1) := by decide +kernel
theorem x153_21 {E : ME} {ls : MLs} {st : List MV} {g : MG} {μ : MU} {Q : Option MV → MG → MU → Prop} : Wp E 153 21 ls st g μ Q = Wp E 153 22 ls (.inl 5 :: st) g μ Q := Wp_nx k153_21 rfl
theorem k153_22 : mCode 153 22 = some (.isub, 1) := by decide +kernel
theorem x153_22 {E : ME} {ls : MLs} {st : List MV} {g : MG} {μ : MU} {Q : Option MV → MG → MU → Prop} {a b : Int} : Wp E 153 22 ls (.inl b :: .inl a :: st) g μ Q = Wp E 153 23 ls (.inl (mWr (a - b)) :: st) g μ Q := Wp_nx k153_22 rfl
theorem k153_23 : mCode 153 23 = some (.if_icmp .gt 832, 3) := by decide +kernel
theorem x153_23 {E : ME} {ls : MLs} {st : List MV} {g : MG} {μ : MU} {Q : Option MV → MG → MU → Prop} {a b : Int} : Wp E 153 23 ls (.inl b :: .inl a :: st) g μ Q = ((b < a → Wp E 153 855 ls st g μ Q) ∧ (a ≤ b → Wp E 153 26 ls st g μ Q)) := Wp_cmp_gt k153_23 (by decide)
theorem k153_26 : mCode 153 26 = some (.aload_n 0, 1) := by decide +kernel
theorem x153_26 {E : ME} {ls : MLs} {st : List MV} {g : MG} {μ : MU} {Q : Option MV → MG → MU → Prop} {v : Nat ⊕ Nat} : Wp E 153 26 (some (.inr (.inr v)) :: ls) st g μ Q = Wp E 153 27 (some (.inr (.inr v)) :: ls) (.inr (.inr v) :: st) g μ Q := Wp_nx k153_26 rfl
theorem k153_27 : mCode 153 27 = some (.iload_n 3, 1) := by decide +kernel
theorem x153_27 {E : ME} {ls : MLs} {st : List MV} {g : MG} {μ : MU} {Q : Option MV → MG → MU → Prop} {l0 l1 l2 : Option MV} {v : Int} : Wp E 153 27 (l0 :: l1 :: l2 :: some (.inl v) :: ls) st g μ Q = Wp E 153 28 (l0 :: l1 :: l2 :: some (.inl v) :: ls) (.inl v :: st) g μ Q := Wp_nx k153_27 rfl
theorem k153_28 : mCode 153 28 = some (.iaload, 1) := by decide +kernel
theorem x153_28 {E : ME} {ls : MLs} {st : List MV} {g : MG} {μ : MU} {Q : Option MV → MG → MU → Prop} {a : Nat} {j : Int} : Wp E 153 28 ls (.inl j :: .inr (.inr (.inl a)) :: st) g μ Q = (((mKd g a).1 = 10 ∧ 0 ≤ j ∧ j < (mKd g a).2) ∧ Wp E 153 29 ls (.inl (μ a j.toNat) :: st) g μ Q) := Wp_ald k153_28 (fun _ => rfl)
theorem x153_28K {E : ME} {ls : MLs} {st : List MV} {g : MG} {μ : MU} {Q : Option MV → MG → MU → Prop} {c : Nat} {j : Int} (hk : mk_isI c = true) : Wp E 153 28 ls (.inl j :: .inr (.inr (.inr c)) :: st) g μ Q = ((0 ≤ j ∧ j < mk_len E c) ∧ Wp E 153 29 ls (.inl (mk_int E c j.toNat) :: st) g μ Q) := Wp_aldK k153_28 hk
theorem k153_29 : mCode 153 29 = some (.bipush 31, 2) := by decide +kernel
theorem x153_29 {E : ME} {ls : MLs} {st : List MV} {g : MG} {μ : MU} {Q : Option MV → MG → MU → Prop} : Wp E 153 29 ls st g μ Q = Wp E 153 31 ls (.inl 31 :: st) g μ Q := Wp_nx k153_29 rfl
theorem k153_31 : mCode 153 31 = some (.iand, 1) := by decide +kernel
theorem x153_31 {E : ME} {ls : MLs} {st : List MV} {g : MG} {μ : MU} {Q : Option MV → MG → MU → Prop} {a b : Int} : Wp E 153 31 ls (.inl b :: .inl a :: st) g μ Q = Wp E 153 32 ls (.inl (mIand a b) :: st) g μ Q := Wp_nx k153_31 rfl
theorem k153_32 : mCode 153 32 = some (.tableswitch 817 0 22 #[108, 141, 184, 227, 280, 303, 346, 379, 412, 445, 478, 521, 544, 577, 600, 643, 666, 719, 732, 745, 758, 771, 794], 108) := by decide +kernel
theorem x153_32_0 {E : ME} {ls : MLs} {st : List MV} {g : MG} {μ : MU} {Q : Option MV → MG → MU → Prop} : Wp E 153 32 ls (.inl 0 :: st) g μ Q = Wp E 153 140 ls st g μ Q := Wp_nx k153_32 rfl
theorem x153_32_1 {E : ME} {ls : MLs} {st : List MV} {g : MG} {μ : MU} {Q : Option MV → MG → MU → Prop} : Wp E 153 32 ls (.inl 1 :: st) g μ Q = Wp E 153 173 ls st g μ Q := Wp_nx k153_32 rfl
theorem x153_32_2 {E : ME} {ls : MLs} {st : List MV} {g : MG} {μ : MU} {Q : Option MV → MG → MU → Prop} : Wp E 153 32 ls (.inl 2 :: st) g μ Q = Wp E 153 216 ls st g μ Q := Wp_nx k153_32 rfl
theorem x153_32_3 {E : ME} {ls : MLs} {st : List MV} {g : MG} {μ : MU} {Q : Option MV → MG → MU → Prop} : Wp E 153 32 ls (.inl 3 :: st) g μ Q = Wp E 153 259 ls st g μ Q := Wp_nx k153_32 rfl
theorem x153_32_4 {E : ME} {ls : MLs} {st : List MV} {g : MG} {μ : MU} {Q : Option MV → MG → MU → Prop} : Wp E 153 32 ls (.inl 4 :: st) g μ Q = Wp E 153 312 ls st g μ Q := Wp_nx k153_32 rfl
theorem x153_32_5 {E : ME} {ls : MLs} {st : List MV} {g : MG} {μ : MU} {Q : Option MV → MG → MU → Prop} : Wp E 153 32 ls (.inl 5 :: st) g μ Q = Wp E 153 335 ls st g μ Q := Wp_nx k153_32 rfl
theorem x153_32_6 {E : ME} {ls : MLs} {st : List MV} {g : MG} {μ : MU} {Q : Option MV → MG → MU → Prop} : Wp E 153 32 ls (.inl 6 :: st) g μ Q = Wp E 153 378 ls st g μ Q := Wp_nx k153_32 rfl
theorem x153_32_7 {E : ME} {ls : MLs} {st : List MV} {g : MG} {μ : MU} {Q : Option MV → MG → MU → Prop} : Wp E 153 32 ls (.inl 7 :: st) g μ Q = Wp E 153 411 ls st g μ Q := Wp_nx k153_32 rfl
theorem x153_32_8 {E : ME} {ls : MLs} {st : List MV} {g : MG} {μ : MU} {Q : Option MV → MG → MU → Prop} : Wp E 153 32 ls (.inl 8 :: st) g μ Q = Wp E 153 444 ls st g μ Q := Wp_nx k153_32 rfl
theorem x153_32_9 {E : ME} {ls : MLs} {st : List MV} {g : MG} {μ : MU} {Q : Option MV → MG → MU → Prop} : Wp E 153 32 ls (.inl 9 :: st) g μ Q = Wp E 153 477 ls st g μ Q := Wp_nx k153_32 rfl
theorem x153_32_10 {E : ME} {ls : MLs} {st : List MV} {g : MG} {μ : MU} {Q : Option MV → MG → MU → Prop} : Wp E 153 32 ls (.inl 10 :: st) g μ Q = Wp E 153 510 ls st g μ Q := Wp_nx k153_32 rfl
theorem x153_32_11 {E : ME} {ls : MLs} {st : List MV} {g : MG} {μ : MU} {Q : Option MV → MG → MU → Prop} : Wp E 153 32 ls (.inl 11 :: st) g μ Q = Wp E 153 553 ls st g μ Q := Wp_nx k153_32 rfl
theorem x153_32_12 {E : ME} {ls : MLs} {st : List MV} {g : MG} {μ : MU} {Q : Option MV → MG → MU → Prop} : Wp E 153 32 ls (.inl 12 :: st) g μ Q = Wp E 153 576 ls st g μ Q := Wp_nx k153_32 rfl
theorem x153_32_13 {E : ME} {ls : MLs} {st : List MV} {g : MG} {μ : MU} {Q : Option MV → MG → MU → Prop} : Wp E 153 32 ls (.inl 13 :: st) g μ Q = Wp E 153 609 ls st g μ Q := Wp_nx k153_32 rfl
theorem x153_32_14 {E : ME} {ls : MLs} {st : List MV} {g : MG} {μ : MU} {Q : Option MV → MG → MU → Prop} : Wp E 153 32 ls (.inl 14 :: st) g μ Q = Wp E 153 632 ls st g μ Q := Wp_nx k153_32 rfl
theorem x153_32_15 {E : ME} {ls : MLs} {st : List MV} {g : MG} {μ : MU} {Q : Option MV → MG → MU → Prop} : Wp E 153 32 ls (.inl 15 :: st) g μ Q = Wp E 153 675 ls st g μ Q := Wp_nx k153_32 rfl
theorem x153_32_16 {E : ME} {ls : MLs} {st : List MV} {g : MG} {μ : MU} {Q : Option MV → MG → MU → Prop} : Wp E 153 32 ls (.inl 16 :: st) g μ Q = Wp E 153 698 ls st g μ Q := Wp_nx k153_32 rfl
theorem x153_32_17 {E : ME} {ls : MLs} {st : List MV} {g : MG} {μ : MU} {Q : Option MV → MG → MU → Prop} : Wp E 153 32 ls (.inl 17 :: st) g μ Q = Wp E 153 751 ls st g μ Q := Wp_nx k153_32 rfl
theorem x153_32_18 {E : ME} {ls : MLs} {st : List MV} {g : MG} {μ : MU} {Q : Option MV → MG → MU → Prop} : Wp E 153 32 ls (.inl 18 :: st) g μ Q = Wp E 153 764 ls st g μ Q := Wp_nx k153_32 rfl
theorem x153_32_19 {E : ME} {ls : MLs} {st : List MV} {g : MG} {μ : MU} {Q : Option MV → MG → MU → Prop} : Wp E 153 32 ls (.inl 19 :: st) g μ Q = Wp E 153 777 ls st g μ Q := Wp_nx k153_32 rfl
theorem x153_32_20 {E : ME} {ls : MLs} {st : List MV} {g : MG} {μ : MU} {Q : Option MV → MG → MU → Prop} : Wp E 153 32 ls (.inl 20 :: st) g μ Q = Wp E 153 790 ls st g μ Q := Wp_nx k153_32 rfl
theorem x153_32_21 {E : ME} {ls : MLs} {st : List MV} {g : MG} {μ : MU} {Q : Option MV → MG → MU → Prop} : Wp E 153 32 ls (.inl 21 :: st) g μ Q = Wp E 153 803 ls st g μ Q := Wp_nx k153_32 rfl
theorem x153_32_22 {E : ME} {ls : MLs} {st : List MV} {g : MG} {μ : MU} {Q : Option MV → MG → MU → Prop} : Wp E 153 32 ls (.inl 22 :: st) g μ Q = Wp E 153 826 ls st g μ Q := Wp_nx k153_32 rfl
theorem x153_32_d {E : ME} {ls : MLs} {st : List MV} {g : MG} {μ : MU} {Q : Option MV → MG → MU → Prop} {a : Int} (h : a < 0 ∨ 22 < a) : Wp E 153 32 ls (.inl a :: st) g μ Q = Wp E 153 849 ls st g μ Q := Wp_tswD k153_32 h (by decide)
theorem k153_140 : mCode 153 140 = some (.aload_n 1, 1) := by decide +kernel
theorem x153_140 {E : ME} {ls : MLs} {st : List MV} {g : MG} {μ : MU} {Q : Option MV → MG → MU → Prop} {l0 : Option MV} {v : Nat ⊕ Nat} : Wp E 153 140 (l0 :: some (.inr (.inr v)) :: ls) st g μ Q = Wp E 153 141 (l0 :: some (.inr (.inr v)) :: ls) (.inr (.inr v) :: st) g μ Q := Wp_nx k153_140 rfl
theorem k153_141 : mCode 153 141 = some (.aload_n 0, 1) := by decide +kernel
theorem x153_141 {E : ME} {ls : MLs} {st : List MV} {g : MG} {μ : MU} {Q : Option MV → MG → MU → Prop} {v : Nat ⊕ Nat} : Wp E 153 141 (some (.inr (.inr v)) :: ls) st g μ Q = Wp E 153 142 (some (.inr (.inr v)) :: ls) (.inr (.inr v) :: st) g μ Q := Wp_nx k153_141 rfl
theorem k153_142 : mCode 153 142 = some (.iload_n 3, 1) := by decide +kernel
theorem x153_142 {E : ME} {ls : MLs} {st : List MV} {g : MG} {μ : MU} {Q : Option MV → MG → MU → Prop} {l0 l1 l2 : Option MV} {v : Int} : Wp E 153 142 (l0 :: l1 :: l2 :: some (.inl v) :: ls) st g μ Q = Wp E 153 143 (l0 :: l1 :: l2 :: some (.inl v) :: ls) (.inl v :: st) g μ Q := Wp_nx k153_142 rfl
theorem k153_143 : mCode 153 143 = some (.iconst 1, 1) := by decide +kernel
theorem x153_143 {E : ME} {ls : MLs} {st : List MV} {g : MG} {μ : MU} {Q : Option MV → MG → MU → Prop} : Wp E 153 143 ls st g μ Q = Wp E 153 144 ls (.inl 1 :: st) g μ Q := Wp_nx k153_143 rfl
theorem k153_144 : mCode 153 144 = some (.iadd, 1) := by decide +kernel
theorem x153_144 {E : ME} {ls : MLs} {st : List MV} {g : MG} {μ : MU} {Q : Option MV → MG → MU → Prop} {a b : Int} : Wp E 153 144 ls (.inl b :: .inl a :: st) g μ Q = Wp E 153 145 ls (.inl (mWr (a + b)) :: st) g μ Q := Wp_nx k153_144 rfl
theorem k153_145 : mCode 153 145 = some (.iaload, 1) := by decide +kernel
theorem x153_145 {E : ME} {ls : MLs} {st : List MV} {g : MG} {μ : MU} {Q : Option MV → MG → MU → Prop} {a : Nat} {j : Int} : Wp E 153 145 ls (.inl j :: .inr (.inr (.inl a)) :: st) g μ Q = (((mKd g a).1 = 10 ∧ 0 ≤ j ∧ j < (mKd g a).2) ∧ Wp E 153 146 ls (.inl (μ a j.toNat) :: st) g μ Q) := Wp_ald k153_145 (fun _ => rfl)
theorem x153_145K {E : ME} {ls : MLs} {st : List MV} {g : MG} {μ : MU} {Q : Option MV → MG → MU → Prop} {c : Nat} {j : Int} (hk : mk_isI c = true) : Wp E 153 145 ls (.inl j :: .inr (.inr (.inr c)) :: st) g μ Q = ((0 ≤ j ∧ j < mk_len E c) ∧ Wp E 153 146 ls (.inl (mk_int E c j.toNat) :: st) g μ Q) := Wp_aldK k153_145 hk
theorem k153_146 : mCode 153 146 = some (.aload_n 0, 1) := by decide +kernel
theorem x153_146 {E : ME} {ls : MLs} {st : List MV} {g : MG} {μ : MU} {Q : Option MV → MG → MU → Prop} {v : Nat ⊕ Nat} : Wp E 153 146 (some (.inr (.inr v)) :: ls) st g μ Q = Wp E 153 147 (some (.inr (.inr v)) :: ls) (.inr (.inr v) :: st) g μ Q := Wp_nx k153_146 rfl
theorem k153_147 : mCode 153 147 = some (.iload_n 3, 1) := by decide +kernel
theorem x153_147 {E : ME} {ls : MLs} {st : List MV} {g : MG} {μ : MU} {Q : Option MV → MG → MU → Prop} {l0 l1 l2 : Option MV} {v : Int} : Wp E 153 147 (l0 :: l1 :: l2 :: some (.inl v) :: ls) st g μ Q = Wp E 153 148 (l0 :: l1 :: l2 :: some (.inl v) :: ls) (.inl v :: st) g μ Q := Wp_nx k153_147 rfl
theorem k153_148 : mCode 153 148 = some (.iconst 2, 1) := by decide +kernel
theorem x153_148 {E : ME} {ls : MLs} {st : List MV} {g : MG} {μ : MU} {Q : Option MV → MG → MU → Prop} : Wp E 153 148 ls st g μ Q = Wp E 153 149 ls (.inl 2 :: st) g μ Q := Wp_nx k153_148 rfl
theorem k153_149 : mCode 153 149 = some (.iadd, 1) := by decide +kernel
theorem x153_149 {E : ME} {ls : MLs} {st : List MV} {g : MG} {μ : MU} {Q : Option MV → MG → MU → Prop} {a b : Int} : Wp E 153 149 ls (.inl b :: .inl a :: st) g μ Q = Wp E 153 150 ls (.inl (mWr (a + b)) :: st) g μ Q := Wp_nx k153_149 rfl
theorem k153_150 : mCode 153 150 = some (.iaload, 1) := by decide +kernel
theorem x153_150 {E : ME} {ls : MLs} {st : List MV} {g : MG} {μ : MU} {Q : Option MV → MG → MU → Prop} {a : Nat} {j : Int} : Wp E 153 150 ls (.inl j :: .inr (.inr (.inl a)) :: st) g μ Q = (((mKd g a).1 = 10 ∧ 0 ≤ j ∧ j < (mKd g a).2) ∧ Wp E 153 151 ls (.inl (μ a j.toNat) :: st) g μ Q) := Wp_ald k153_150 (fun _ => rfl)
theorem x153_150K {E : ME} {ls : MLs} {st : List MV} {g : MG} {μ : MU} {Q : Option MV → MG → MU → Prop} {c : Nat} {j : Int} (hk : mk_isI c = true) : Wp E 153 150 ls (.inl j :: .inr (.inr (.inr c)) :: st) g μ Q = ((0 ≤ j ∧ j < mk_len E c) ∧ Wp E 153 151 ls (.inl (mk_int E c j.toNat) :: st) g μ Q) := Wp_aldK k153_150 hk
theorem k153_151 : mCode 153 151 = some (.invokevirtual 13, 3) := by decide +kernel
theorem x153_151 {E : ME} {ls : MLs} {st : List MV} {g : MG} {μ : MU} {Q : Option MV → MG → MU → Prop} {r : Nat} {a0 : Int} {a1 : Int} : Wp E 153 151 ls (.inl a1 :: .inl a0 :: .inr (.inr (.inl r)) :: st) g μ Q = ((st.length ≤ 4 ∧ ((mKd g r).1 == 5) = true) ∧ Wp E 40 0 [some (.inr (.inr (.inl r))), some (.inl a0), some (.inl a1)] [] g μ (fun r g' μ' => (g'.1 = g.1 ∧ g'.2.1 = g.2.1) ∧ Wp E 153 154 ls (mPush r st) g' μ' Q)) := Wp_cV k153_151 m13_13 (by decide) (as := [.inr (.inr (.inl r)), .inl a0, .inl a1]) rfl rfl rfl ⟨Nat.le_of_ble_eq_true rfl, by decide⟩
theorem k153_154 : mCode 153 154 = some (.aload_n 2, 1) := by decide +kernel
theorem x153_154 {E : ME} {ls : MLs} {st : List MV} {g : MG} {μ : MU} {Q : Option MV → MG → MU → Prop} {l0 l1 : Option MV} {v : Nat ⊕ Nat} : Wp E 153 154 (l0 :: l1 :: some (.inr (.inr v)) :: ls) st g μ Q = Wp E 153 155 (l0 :: l1 :: some (.inr (.inr v)) :: ls) (.inr (.inr v) :: st) g μ Q := Wp_nx k153_154 rfl
theorem k153_155 : mCode 153 155 = some (.aload_n 0, 1) := by decide +kernel
theorem x153_155 {E : ME} {ls : MLs} {st : List MV} {g : MG} {μ : MU} {Q : Option MV → MG → MU → Prop} {v : Nat ⊕ Nat} : Wp E 153 155 (some (.inr (.inr v)) :: ls) st g μ Q = Wp E 153 156 (some (.inr (.inr v)) :: ls) (.inr (.inr v) :: st) g μ Q := Wp_nx k153_155 rfl
theorem k153_156 : mCode 153 156 = some (.iload_n 3, 1) := by decide +kernel
theorem x153_156 {E : ME} {ls : MLs} {st : List MV} {g : MG} {μ : MU} {Q : Option MV → MG → MU → Prop} {l0 l1 l2 : Option MV} {v : Int} : Wp E 153 156 (l0 :: l1 :: l2 :: some (.inl v) :: ls) st g μ Q = Wp E 153 157 (l0 :: l1 :: l2 :: some (.inl v) :: ls) (.inl v :: st) g μ Q := Wp_nx k153_156 rfl
theorem k153_157 : mCode 153 157 = some (.iconst 1, 1) := by decide +kernel
theorem x153_157 {E : ME} {ls : MLs} {st : List MV} {g : MG} {μ : MU} {Q : Option MV → MG → MU → Prop} : Wp E 153 157 ls st g μ Q = Wp E 153 158 ls (.inl 1 :: st) g μ Q := Wp_nx k153_157 rfl
theorem k153_158 : mCode 153 158 = some (.iadd, 1) := by decide +kernel
theorem x153_158 {E : ME} {ls : MLs} {st : List MV} {g : MG} {μ : MU} {Q : Option MV → MG → MU → Prop} {a b : Int} : Wp E 153 158 ls (.inl b :: .inl a :: st) g μ Q = Wp E 153 159 ls (.inl (mWr (a + b)) :: st) g μ Q := Wp_nx k153_158 rfl
theorem k153_159 : mCode 153 159 = some (.iaload, 1) := by decide +kernel
theorem x153_159 {E : ME} {ls : MLs} {st : List MV} {g : MG} {μ : MU} {Q : Option MV → MG → MU → Prop} {a : Nat} {j : Int} : Wp E 153 159 ls (.inl j :: .inr (.inr (.inl a)) :: st) g μ Q = (((mKd g a).1 = 10 ∧ 0 ≤ j ∧ j < (mKd g a).2) ∧ Wp E 153 160 ls (.inl (μ a j.toNat) :: st) g μ Q) := Wp_ald k153_159 (fun _ => rfl)
theorem x153_159K {E : ME} {ls : MLs} {st : List MV} {g : MG} {μ : MU} {Q : Option MV → MG → MU → Prop} {c : Nat} {j : Int} (hk : mk_isI c = true) : Wp E 153 159 ls (.inl j :: .inr (.inr (.inr c)) :: st) g μ Q = ((0 ≤ j ∧ j < mk_len E c) ∧ Wp E 153 160 ls (.inl (mk_int E c j.toNat) :: st) g μ Q) := Wp_aldK k153_159 hk
theorem k153_160 : mCode 153 160 = some (.aload_n 0, 1) := by decide +kernel
theorem x153_160 {E : ME} {ls : MLs} {st : List MV} {g : MG} {μ : MU} {Q : Option MV → MG → MU → Prop} {v : Nat ⊕ Nat} : Wp E 153 160 (some (.inr (.inr v)) :: ls) st g μ Q = Wp E 153 161 (some (.inr (.inr v)) :: ls) (.inr (.inr v) :: st) g μ Q := Wp_nx k153_160 rfl
theorem k153_161 : mCode 153 161 = some (.iload_n 3, 1) := by decide +kernel
theorem x153_161 {E : ME} {ls : MLs} {st : List MV} {g : MG} {μ : MU} {Q : Option MV → MG → MU → Prop} {l0 l1 l2 : Option MV} {v : Int} : Wp E 153 161 (l0 :: l1 :: l2 :: some (.inl v) :: ls) st g μ Q = Wp E 153 162 (l0 :: l1 :: l2 :: some (.inl v) :: ls) (.inl v :: st) g μ Q := Wp_nx k153_161 rfl
theorem k153_162 : mCode 153 162 = some (.iconst 2, 1) := by decide +kernel
theorem x153_162 {E : ME} {ls : MLs} {st : List MV} {g : MG} {μ : MU} {Q : Option MV → MG → MU → Prop} : Wp E 153 162 ls st g μ Q = Wp E 153 163 ls (.inl 2 :: st) g μ Q := Wp_nx k153_162 rfl
theorem k153_163 : mCode 153 163 = some (.iadd, 1) := by decide +kernel
theorem x153_163 {E : ME} {ls : MLs} {st : List MV} {g : MG} {μ : MU} {Q : Option MV → MG → MU → Prop} {a b : Int} : Wp E 153 163 ls (.inl b :: .inl a :: st) g μ Q = Wp E 153 164 ls (.inl (mWr (a + b)) :: st) g μ Q := Wp_nx k153_163 rfl
theorem k153_164 : mCode 153 164 = some (.iaload, 1) := by decide +kernel
theorem x153_164 {E : ME} {ls : MLs} {st : List MV} {g : MG} {μ : MU} {Q : Option MV → MG → MU → Prop} {a : Nat} {j : Int} : Wp E 153 164 ls (.inl j :: .inr (.inr (.inl a)) :: st) g μ Q = (((mKd g a).1 = 10 ∧ 0 ≤ j ∧ j < (mKd g a).2) ∧ Wp E 153 165 ls (.inl (μ a j.toNat) :: st) g μ Q) := Wp_ald k153_164 (fun _ => rfl)
theorem x153_164K {E : ME} {ls : MLs} {st : List MV} {g : MG} {μ : MU} {Q : Option MV → MG → MU → Prop} {c : Nat} {j : Int} (hk : mk_isI c = true) : Wp E 153 164 ls (.inl j :: .inr (.inr (.inr c)) :: st) g μ Q = ((0 ≤ j ∧ j < mk_len E c) ∧ Wp E 153 165 ls (.inl (mk_int E c j.toNat) :: st) g μ Q) := Wp_aldK k153_164 hk
theorem k153_165 : mCode 153 165 = some (.invokevirtual 17, 3) := by decide +kernel
theorem x153_165 {E : ME} {ls : MLs} {st : List MV} {g : MG} {μ : MU} {Q : Option MV → MG → MU → Prop} {r : Nat} {a0 : Int} {a1 : Int} : Wp E 153 165 ls (.inl a1 :: .inl a0 :: .inr (.inr (.inl r)) :: st) g μ Q = ((st.length ≤ 4 ∧ ((mKd g r).1 == 6) = true) ∧ Wp E 96 0 [some (.inr (.inr (.inl r))), some (.inl a0), some (.inl a1), none] [] g μ (fun r g' μ' => (g'.1 = g.1 ∧ g'.2.1 = g.2.1) ∧ Wp E 153 168 ls (mPush r st) g' μ' Q)) := Wp_cV k153_165 m13_17 (by decide) (as := [.inr (.inr (.inl r)), .inl a0, .inl a1]) rfl rfl rfl ⟨Nat.le_of_ble_eq_true rfl, by decide⟩
theorem k153_168 : mCode 153 168 = some (.if_icmp .eq 681, 3) := by decide +kernel
theorem x153_168 {E : ME} {ls : MLs} {st : List MV} {g : MG} {μ : MU} {Q : Option MV → MG → MU → Prop} {a b : Int} : Wp E 153 168 ls (.inl b :: .inl a :: st) g μ Q = ((a = b → Wp E 153 849 ls st g μ Q) ∧ (¬ a = b → Wp E 153 171 ls st g μ Q)) := Wp_cmp_eq k153_168 (by decide)
theorem k153_171 : mCode 153 171 = some (.iconst 0, 1) := by decide +kernel
theorem x153_171 {E : ME} {ls : MLs} {st : List MV} {g : MG} {μ : MU} {Q : Option MV → MG → MU → Prop} : Wp E 153 171 ls st g μ Q = Wp E 153 172 ls (.inl 0 :: st) g μ Q := Wp_nx k153_171 rfl
theorem k153_172 : mCode 153 172 = some (.ireturn, 1) := by decide +kernel
theorem x153_172 {E : ME} {ls : MLs} {g : MG} {μ : MU} {Q : Option MV → MG → MU → Prop} {v : Int} : Wp E 153 172 ls [.inl v] g μ Q = ((v = 0 ∨ v = 1) ∧ Q (some (.inl v)) g μ) := Wp_retZ k153_172 (by decide)
theorem k153_173 : mCode 153 173 = some (.aload_n 1, 1) := by decide +kernel
theorem x153_173 {E : ME} {ls : MLs} {st : List MV} {g : MG} {μ : MU} {Q : Option MV → MG → MU → Prop} {l0 : Option MV} {v : Nat ⊕ Nat} : Wp E 153 173 (l0 :: some (.inr (.inr v)) :: ls) st g μ Q = Wp E 153 174 (l0 :: some (.inr (.inr v)) :: ls) (.inr (.inr v) :: st) g μ Q := Wp_nx k153_173 rfl
theorem k153_174 : mCode 153 174 = some (.aload_n 0, 1) := by decide +kernel
theorem x153_174 {E : ME} {ls : MLs} {st : List MV} {g : MG} {μ : MU} {Q : Option MV → MG → MU → Prop} {v : Nat ⊕ Nat} : Wp E 153 174 (some (.inr (.inr v)) :: ls) st g μ Q = Wp E 153 175 (some (.inr (.inr v)) :: ls) (.inr (.inr v) :: st) g μ Q := Wp_nx k153_174 rfl
theorem k153_175 : mCode 153 175 = some (.iload_n 3, 1) := by decide +kernel
theorem x153_175 {E : ME} {ls : MLs} {st : List MV} {g : MG} {μ : MU} {Q : Option MV → MG → MU → Prop} {l0 l1 l2 : Option MV} {v : Int} : Wp E 153 175 (l0 :: l1 :: l2 :: some (.inl v) :: ls) st g μ Q = Wp E 153 176 (l0 :: l1 :: l2 :: some (.inl v) :: ls) (.inl v :: st) g μ Q := Wp_nx k153_175 rfl
theorem k153_176 : mCode 153 176 = some (.iconst 1, 1) := by decide +kernel
theorem x153_176 {E : ME} {ls : MLs} {st : List MV} {g : MG} {μ : MU} {Q : Option MV → MG → MU → Prop} : Wp E 153 176 ls st g μ Q = Wp E 153 177 ls (.inl 1 :: st) g μ Q := Wp_nx k153_176 rfl
theorem k153_177 : mCode 153 177 = some (.iadd, 1) := by decide +kernel
theorem x153_177 {E : ME} {ls : MLs} {st : List MV} {g : MG} {μ : MU} {Q : Option MV → MG → MU → Prop} {a b : Int} : Wp E 153 177 ls (.inl b :: .inl a :: st) g μ Q = Wp E 153 178 ls (.inl (mWr (a + b)) :: st) g μ Q := Wp_nx k153_177 rfl
theorem k153_178 : mCode 153 178 = some (.iaload, 1) := by decide +kernel
theorem x153_178 {E : ME} {ls : MLs} {st : List MV} {g : MG} {μ : MU} {Q : Option MV → MG → MU → Prop} {a : Nat} {j : Int} : Wp E 153 178 ls (.inl j :: .inr (.inr (.inl a)) :: st) g μ Q = (((mKd g a).1 = 10 ∧ 0 ≤ j ∧ j < (mKd g a).2) ∧ Wp E 153 179 ls (.inl (μ a j.toNat) :: st) g μ Q) := Wp_ald k153_178 (fun _ => rfl)
theorem x153_178K {E : ME} {ls : MLs} {st : List MV} {g : MG} {μ : MU} {Q : Option MV → MG → MU → Prop} {c : Nat} {j : Int} (hk : mk_isI c = true) : Wp E 153 178 ls (.inl j :: .inr (.inr (.inr c)) :: st) g μ Q = ((0 ≤ j ∧ j < mk_len E c) ∧ Wp E 153 179 ls (.inl (mk_int E c j.toNat) :: st) g μ Q) := Wp_aldK k153_178 hk
theorem k153_179 : mCode 153 179 = some (.aload_n 0, 1) := by decide +kernel
theorem x153_179 {E : ME} {ls : MLs} {st : List MV} {g : MG} {μ : MU} {Q : Option MV → MG → MU → Prop} {v : Nat ⊕ Nat} : Wp E 153 179 (some (.inr (.inr v)) :: ls) st g μ Q = Wp E 153 180 (some (.inr (.inr v)) :: ls) (.inr (.inr v) :: st) g μ Q := Wp_nx k153_179 rfl
theorem k153_180 : mCode 153 180 = some (.iload_n 3, 1) := by decide +kernel
theorem x153_180 {E : ME} {ls : MLs} {st : List MV} {g : MG} {μ : MU} {Q : Option MV → MG → MU → Prop} {l0 l1 l2 : Option MV} {v : Int} : Wp E 153 180 (l0 :: l1 :: l2 :: some (.inl v) :: ls) st g μ Q = Wp E 153 181 (l0 :: l1 :: l2 :: some (.inl v) :: ls) (.inl v :: st) g μ Q := Wp_nx k153_180 rfl
theorem k153_181 : mCode 153 181 = some (.iconst 2, 1) := by decide +kernel
theorem x153_181 {E : ME} {ls : MLs} {st : List MV} {g : MG} {μ : MU} {Q : Option MV → MG → MU → Prop} : Wp E 153 181 ls st g μ Q = Wp E 153 182 ls (.inl 2 :: st) g μ Q := Wp_nx k153_181 rfl
theorem k153_182 : mCode 153 182 = some (.iadd, 1) := by decide +kernel
theorem x153_182 {E : ME} {ls : MLs} {st : List MV} {g : MG} {μ : MU} {Q : Option MV → MG → MU → Prop} {a b : Int} : Wp E 153 182 ls (.inl b :: .inl a :: st) g μ Q = Wp E 153 183 ls (.inl (mWr (a + b)) :: st) g μ Q := Wp_nx k153_182 rfl
theorem k153_183 : mCode 153 183 = some (.iaload, 1) := by decide +kernel
theorem x153_183 {E : ME} {ls : MLs} {st : List MV} {g : MG} {μ : MU} {Q : Option MV → MG → MU → Prop} {a : Nat} {j : Int} : Wp E 153 183 ls (.inl j :: .inr (.inr (.inl a)) :: st) g μ Q = (((mKd g a).1 = 10 ∧ 0 ≤ j ∧ j < (mKd g a).2) ∧ Wp E 153 184 ls (.inl (μ a j.toNat) :: st) g μ Q) := Wp_ald k153_183 (fun _ => rfl)
theorem x153_183K {E : ME} {ls : MLs} {st : List MV} {g : MG} {μ : MU} {Q : Option MV → MG → MU → Prop} {c : Nat} {j : Int} (hk : mk_isI c = true) : Wp E 153 183 ls (.inl j :: .inr (.inr (.inr c)) :: st) g μ Q = ((0 ≤ j ∧ j < mk_len E c) ∧ Wp E 153 184 ls (.inl (mk_int E c j.toNat) :: st) g μ Q) := Wp_aldK k153_183 hk
theorem k153_184 : mCode 153 184 = some (.aload_n 0, 1) := by decide +kernel
theorem x153_184 {E : ME} {ls : MLs} {st : List MV} {g : MG} {μ : MU} {Q : Option MV → MG → MU → Prop} {v : Nat ⊕ Nat} : Wp E 153 184 (some (.inr (.inr v)) :: ls) st g μ Q = Wp E 153 185 (some (.inr (.inr v)) :: ls) (.inr (.inr v) :: st) g μ Q := Wp_nx k153_184 rfl
theorem k153_185 : mCode 153 185 = some (.iload_n 3, 1) := by decide +kernel
theorem x153_185 {E : ME} {ls : MLs} {st : List MV} {g : MG} {μ : MU} {Q : Option MV → MG → MU → Prop} {l0 l1 l2 : Option MV} {v : Int} : Wp E 153 185 (l0 :: l1 :: l2 :: some (.inl v) :: ls) st g μ Q = Wp E 153 186 (l0 :: l1 :: l2 :: some (.inl v) :: ls) (.inl v :: st) g μ Q := Wp_nx k153_185 rfl
theorem k153_186 : mCode 153 186 = some (.iconst 3, 1) := by decide +kernel
theorem x153_186 {E : ME} {ls : MLs} {st : List MV} {g : MG} {μ : MU} {Q : Option MV → MG → MU → Prop} : Wp E 153 186 ls st g μ Q = Wp E 153 187 ls (.inl 3 :: st) g μ Q := Wp_nx k153_186 rfl
theorem k153_187 : mCode 153 187 = some (.iadd, 1) := by decide +kernel
theorem x153_187 {E : ME} {ls : MLs} {st : List MV} {g : MG} {μ : MU} {Q : Option MV → MG → MU → Prop} {a b : Int} : Wp E 153 187 ls (.inl b :: .inl a :: st) g μ Q = Wp E 153 188 ls (.inl (mWr (a + b)) :: st) g μ Q := Wp_nx k153_187 rfl
theorem k153_188 : mCode 153 188 = some (.iaload, 1) := by decide +kernel
theorem x153_188 {E : ME} {ls : MLs} {st : List MV} {g : MG} {μ : MU} {Q : Option MV → MG → MU → Prop} {a : Nat} {j : Int} : Wp E 153 188 ls (.inl j :: .inr (.inr (.inl a)) :: st) g μ Q = (((mKd g a).1 = 10 ∧ 0 ≤ j ∧ j < (mKd g a).2) ∧ Wp E 153 189 ls (.inl (μ a j.toNat) :: st) g μ Q) := Wp_ald k153_188 (fun _ => rfl)
theorem x153_188K {E : ME} {ls : MLs} {st : List MV} {g : MG} {μ : MU} {Q : Option MV → MG → MU → Prop} {c : Nat} {j : Int} (hk : mk_isI c = true) : Wp E 153 188 ls (.inl j :: .inr (.inr (.inr c)) :: st) g μ Q = ((0 ≤ j ∧ j < mk_len E c) ∧ Wp E 153 189 ls (.inl (mk_int E c j.toNat) :: st) g μ Q) := Wp_aldK k153_188 hk
theorem k153_189 : mCode 153 189 = some (.invokevirtual 18, 3) := by decide +kernel
theorem x153_189 {E : ME} {ls : MLs} {st : List MV} {g : MG} {μ : MU} {Q : Option MV → MG → MU → Prop} {r : Nat} {a0 : Int} {a1 : Int} {a2 : Int} : Wp E 153 189 ls (.inl a2 :: .inl a1 :: .inl a0 :: .inr (.inr (.inl r)) :: st) g μ Q = ((st.length ≤ 4 ∧ ((mKd g r).1 == 5) = true) ∧ Wp E 41 0 [some (.inr (.inr (.inl r))), some (.inl a0), some (.inl a1), some (.inl a2)] [] g μ (fun r g' μ' => (g'.1 = g.1 ∧ g'.2.1 = g.2.1) ∧ Wp E 153 192 ls (mPush r st) g' μ' Q)) := Wp_cV k153_189 m13_18 (by decide) (as := [.inr (.inr (.inl r)), .inl a0, .inl a1, .inl a2]) rfl rfl rfl ⟨Nat.le_of_ble_eq_true rfl, by decide⟩
theorem k153_192 : mCode 153 192 = some (.aload_n 2, 1) := by decide +kernel
theorem x153_192 {E : ME} {ls : MLs} {st : List MV} {g : MG} {μ : MU} {Q : Option MV → MG → MU → Prop} {l0 l1 : Option MV} {v : Nat ⊕ Nat} : Wp E 153 192 (l0 :: l1 :: some (.inr (.inr v)) :: ls) st g μ Q = Wp E 153 193 (l0 :: l1 :: some (.inr (.inr v)) :: ls) (.inr (.inr v) :: st) g μ Q := Wp_nx k153_192 rfl
theorem k153_193 : mCode 153 193 = some (.aload_n 0, 1) := by decide +kernel
theorem x153_193 {E : ME} {ls : MLs} {st : List MV} {g : MG} {μ : MU} {Q : Option MV → MG → MU → Prop} {v : Nat ⊕ Nat} : Wp E 153 193 (some (.inr (.inr v)) :: ls) st g μ Q = Wp E 153 194 (some (.inr (.inr v)) :: ls) (.inr (.inr v) :: st) g μ Q := Wp_nx k153_193 rfl
theorem k153_194 : mCode 153 194 = some (.iload_n 3, 1) := by decide +kernel
theorem x153_194 {E : ME} {ls : MLs} {st : List MV} {g : MG} {μ : MU} {Q : Option MV → MG → MU → Prop} {l0 l1 l2 : Option MV} {v : Int} : Wp E 153 194 (l0 :: l1 :: l2 :: some (.inl v) :: ls) st g μ Q = Wp E 153 195 (l0 :: l1 :: l2 :: some (.inl v) :: ls) (.inl v :: st) g μ Q := Wp_nx k153_194 rfl
theorem k153_195 : mCode 153 195 = some (.iconst 1, 1) := by decide +kernel
theorem x153_195 {E : ME} {ls : MLs} {st : List MV} {g : MG} {μ : MU} {Q : Option MV → MG → MU → Prop} : Wp E 153 195 ls st g μ Q = Wp E 153 196 ls (.inl 1 :: st) g μ Q := Wp_nx k153_195 rfl
theorem k153_196 : mCode 153 196 = some (.iadd, 1) := by decide +kernel
theorem x153_196 {E : ME} {ls : MLs} {st : List MV} {g : MG} {μ : MU} {Q : Option MV → MG → MU → Prop} {a b : Int} : Wp E 153 196 ls (.inl b :: .inl a :: st) g μ Q = Wp E 153 197 ls (.inl (mWr (a + b)) :: st) g μ Q := Wp_nx k153_196 rfl
theorem k153_197 : mCode 153 197 = some (.iaload, 1) := by decide +kernel
theorem x153_197 {E : ME} {ls : MLs} {st : List MV} {g : MG} {μ : MU} {Q : Option MV → MG → MU → Prop} {a : Nat} {j : Int} : Wp E 153 197 ls (.inl j :: .inr (.inr (.inl a)) :: st) g μ Q = (((mKd g a).1 = 10 ∧ 0 ≤ j ∧ j < (mKd g a).2) ∧ Wp E 153 198 ls (.inl (μ a j.toNat) :: st) g μ Q) := Wp_ald k153_197 (fun _ => rfl)
theorem x153_197K {E : ME} {ls : MLs} {st : List MV} {g : MG} {μ : MU} {Q : Option MV → MG → MU → Prop} {c : Nat} {j : Int} (hk : mk_isI c = true) : Wp E 153 197 ls (.inl j :: .inr (.inr (.inr c)) :: st) g μ Q = ((0 ≤ j ∧ j < mk_len E c) ∧ Wp E 153 198 ls (.inl (mk_int E c j.toNat) :: st) g μ Q) := Wp_aldK k153_197 hk
theorem k153_198 : mCode 153 198 = some (.aload_n 0, 1) := by decide +kernel
theorem x153_198 {E : ME} {ls : MLs} {st : List MV} {g : MG} {μ : MU} {Q : Option MV → MG → MU → Prop} {v : Nat ⊕ Nat} : Wp E 153 198 (some (.inr (.inr v)) :: ls) st g μ Q = Wp E 153 199 (some (.inr (.inr v)) :: ls) (.inr (.inr v) :: st) g μ Q := Wp_nx k153_198 rfl
theorem k153_199 : mCode 153 199 = some (.iload_n 3, 1) := by decide +kernel
theorem x153_199 {E : ME} {ls : MLs} {st : List MV} {g : MG} {μ : MU} {Q : Option MV → MG → MU → Prop} {l0 l1 l2 : Option MV} {v : Int} : Wp E 153 199 (l0 :: l1 :: l2 :: some (.inl v) :: ls) st g μ Q = Wp E 153 200 (l0 :: l1 :: l2 :: some (.inl v) :: ls) (.inl v :: st) g μ Q := Wp_nx k153_199 rfl
theorem k153_200 : mCode 153 200 = some (.iconst 2, 1) := by decide +kernel
theorem x153_200 {E : ME} {ls : MLs} {st : List MV} {g : MG} {μ : MU} {Q : Option MV → MG → MU → Prop} : Wp E 153 200 ls st g μ Q = Wp E 153 201 ls (.inl 2 :: st) g μ Q := Wp_nx k153_200 rfl
theorem k153_201 : mCode 153 201 = some (.iadd, 1) := by decide +kernel
theorem x153_201 {E : ME} {ls : MLs} {st : List MV} {g : MG} {μ : MU} {Q : Option MV → MG → MU → Prop} {a b : Int} : Wp E 153 201 ls (.inl b :: .inl a :: st) g μ Q = Wp E 153 202 ls (.inl (mWr (a + b)) :: st) g μ Q := Wp_nx k153_201 rfl
theorem k153_202 : mCode 153 202 = some (.iaload, 1) := by decide +kernel
theorem x153_202 {E : ME} {ls : MLs} {st : List MV} {g : MG} {μ : MU} {Q : Option MV → MG → MU → Prop} {a : Nat} {j : Int} : Wp E 153 202 ls (.inl j :: .inr (.inr (.inl a)) :: st) g μ Q = (((mKd g a).1 = 10 ∧ 0 ≤ j ∧ j < (mKd g a).2) ∧ Wp E 153 203 ls (.inl (μ a j.toNat) :: st) g μ Q) := Wp_ald k153_202 (fun _ => rfl)
theorem x153_202K {E : ME} {ls : MLs} {st : List MV} {g : MG} {μ : MU} {Q : Option MV → MG → MU → Prop} {c : Nat} {j : Int} (hk : mk_isI c = true) : Wp E 153 202 ls (.inl j :: .inr (.inr (.inr c)) :: st) g μ Q = ((0 ≤ j ∧ j < mk_len E c) ∧ Wp E 153 203 ls (.inl (mk_int E c j.toNat) :: st) g μ Q) := Wp_aldK k153_202 hk
theorem k153_203 : mCode 153 203 = some (.aload_n 0, 1) := by decide +kernel
theorem x153_203 {E : ME} {ls : MLs} {st : List MV} {g : MG} {μ : MU} {Q : Option MV → MG → MU → Prop} {v : Nat ⊕ Nat} : Wp E 153 203 (some (.inr (.inr v)) :: ls) st g μ Q = Wp E 153 204 (some (.inr (.inr v)) :: ls) (.inr (.inr v) :: st) g μ Q := Wp_nx k153_203 rfl
theorem k153_204 : mCode 153 204 = some (.iload_n 3, 1) := by decide +kernel
theorem x153_204 {E : ME} {ls : MLs} {st : List MV} {g : MG} {μ : MU} {Q : Option MV → MG → MU → Prop} {l0 l1 l2 : Option MV} {v : Int} : Wp E 153 204 (l0 :: l1 :: l2 :: some (.inl v) :: ls) st g μ Q = Wp E 153 205 (l0 :: l1 :: l2 :: some (.inl v) :: ls) (.inl v :: st) g μ Q := Wp_nx k153_204 rfl
theorem k153_205 : mCode 153 205 = some (.iconst 3, 1) := by decide +kernel
theorem x153_205 {E : ME} {ls : MLs} {st : List MV} {g : MG} {μ : MU} {Q : Option MV → MG → MU → Prop} : Wp E 153 205 ls st g μ Q = Wp E 153 206 ls (.inl 3 :: st) g μ Q := Wp_nx k153_205 rfl
theorem k153_206 : mCode 153 206 = some (.iadd, 1) := by decide +kernel
theorem x153_206 {E : ME} {ls : MLs} {st : List MV} {g : MG} {μ : MU} {Q : Option MV → MG → MU → Prop} {a b : Int} : Wp E 153 206 ls (.inl b :: .inl a :: st) g μ Q = Wp E 153 207 ls (.inl (mWr (a + b)) :: st) g μ Q := Wp_nx k153_206 rfl
theorem k153_207 : mCode 153 207 = some (.iaload, 1) := by decide +kernel
theorem x153_207 {E : ME} {ls : MLs} {st : List MV} {g : MG} {μ : MU} {Q : Option MV → MG → MU → Prop} {a : Nat} {j : Int} : Wp E 153 207 ls (.inl j :: .inr (.inr (.inl a)) :: st) g μ Q = (((mKd g a).1 = 10 ∧ 0 ≤ j ∧ j < (mKd g a).2) ∧ Wp E 153 208 ls (.inl (μ a j.toNat) :: st) g μ Q) := Wp_ald k153_207 (fun _ => rfl)
theorem x153_207K {E : ME} {ls : MLs} {st : List MV} {g : MG} {μ : MU} {Q : Option MV → MG → MU → Prop} {c : Nat} {j : Int} (hk : mk_isI c = true) : Wp E 153 207 ls (.inl j :: .inr (.inr (.inr c)) :: st) g μ Q = ((0 ≤ j ∧ j < mk_len E c) ∧ Wp E 153 208 ls (.inl (mk_int E c j.toNat) :: st) g μ Q) := Wp_aldK k153_207 hk
theorem k153_208 : mCode 153 208 = some (.invokevirtual 22, 3) := by decide +kernel
theorem x153_208 {E : ME} {ls : MLs} {st : List MV} {g : MG} {μ : MU} {Q : Option MV → MG → MU → Prop} {r : Nat} {a0 : Int} {a1 : Int} {a2 : Int} : Wp E 153 208 ls (.inl a2 :: .inl a1 :: .inl a0 :: .inr (.inr (.inl r)) :: st) g μ Q = ((st.length ≤ 4 ∧ ((mKd g r).1 == 6) = true) ∧ Wp E 99 0 [some (.inr (.inr (.inl r))), some (.inl a0), some (.inl a1), some (.inl a2), none] [] g μ (fun r g' μ' => (g'.1 = g.1 ∧ g'.2.1 = g.2.1) ∧ Wp E 153 211 ls (mPush r st) g' μ' Q)) := Wp_cV k153_208 m13_22 (by decide) (as := [.inr (.inr (.inl r)), .inl a0, .inl a1, .inl a2]) rfl rfl rfl ⟨Nat.le_of_ble_eq_true rfl, by decide⟩
theorem k153_211 : mCode 153 211 = some (.if_icmp .eq 638, 3) := by decide +kernel
theorem x153_211 {E : ME} {ls : MLs} {st : List MV} {g : MG} {μ : MU} {Q : Option MV → MG → MU → Prop} {a b : Int} : Wp E 153 211 ls (.inl b :: .inl a :: st) g μ Q = ((a = b → Wp E 153 849 ls st g μ Q) ∧ (¬ a = b → Wp E 153 214 ls st g μ Q)) := Wp_cmp_eq k153_211 (by decide)
theorem k153_214 : mCode 153 214 = some (.iconst 0, 1) := by decide +kernel
theorem x153_214 {E : ME} {ls : MLs} {st : List MV} {g : MG} {μ : MU} {Q : Option MV → MG → MU → Prop} : Wp E 153 214 ls st g μ Q = Wp E 153 215 ls (.inl 0 :: st) g μ Q := Wp_nx k153_214 rfl
theorem k153_215 : mCode 153 215 = some (.ireturn, 1) := by decide +kernel
theorem x153_215 {E : ME} {ls : MLs} {g : MG} {μ : MU} {Q : Option MV → MG → MU → Prop} {v : Int} : Wp E 153 215 ls [.inl v] g μ Q = ((v = 0 ∨ v = 1) ∧ Q (some (.inl v)) g μ) := Wp_retZ k153_215 (by decide)
theorem k153_216 : mCode 153 216 = some (.aload_n 1, 1) := by decide +kernel
theorem x153_216 {E : ME} {ls : MLs} {st : List MV} {g : MG} {μ : MU} {Q : Option MV → MG → MU → Prop} {l0 : Option MV} {v : Nat ⊕ Nat} : Wp E 153 216 (l0 :: some (.inr (.inr v)) :: ls) st g μ Q = Wp E 153 217 (l0 :: some (.inr (.inr v)) :: ls) (.inr (.inr v) :: st) g μ Q := Wp_nx k153_216 rfl
theorem k153_217 : mCode 153 217 = some (.aload_n 0, 1) := by decide +kernel
theorem x153_217 {E : ME} {ls : MLs} {st : List MV} {g : MG} {μ : MU} {Q : Option MV → MG → MU → Prop} {v : Nat ⊕ Nat} : Wp E 153 217 (some (.inr (.inr v)) :: ls) st g μ Q = Wp E 153 218 (some (.inr (.inr v)) :: ls) (.inr (.inr v) :: st) g μ Q := Wp_nx k153_217 rfl
theorem k153_218 : mCode 153 218 = some (.iload_n 3, 1) := by decide +kernel
theorem x153_218 {E : ME} {ls : MLs} {st : List MV} {g : MG} {μ : MU} {Q : Option MV → MG → MU → Prop} {l0 l1 l2 : Option MV} {v : Int} : Wp E 153 218 (l0 :: l1 :: l2 :: some (.inl v) :: ls) st g μ Q = Wp E 153 219 (l0 :: l1 :: l2 :: some (.inl v) :: ls) (.inl v :: st) g μ Q := Wp_nx k153_218 rfl
theorem k153_219 : mCode 153 219 = some (.iconst 1, 1) := by decide +kernel
theorem x153_219 {E : ME} {ls : MLs} {st : List MV} {g : MG} {μ : MU} {Q : Option MV → MG → MU → Prop} : Wp E 153 219 ls st g μ Q = Wp E 153 220 ls (.inl 1 :: st) g μ Q := Wp_nx k153_219 rfl
theorem k153_220 : mCode 153 220 = some (.iadd, 1) := by decide +kernel
theorem x153_220 {E : ME} {ls : MLs} {st : List MV} {g : MG} {μ : MU} {Q : Option MV → MG → MU → Prop} {a b : Int} : Wp E 153 220 ls (.inl b :: .inl a :: st) g μ Q = Wp E 153 221 ls (.inl (mWr (a + b)) :: st) g μ Q := Wp_nx k153_220 rfl
theorem k153_221 : mCode 153 221 = some (.iaload, 1) := by decide +kernel
theorem x153_221 {E : ME} {ls : MLs} {st : List MV} {g : MG} {μ : MU} {Q : Option MV → MG → MU → Prop} {a : Nat} {j : Int} : Wp E 153 221 ls (.inl j :: .inr (.inr (.inl a)) :: st) g μ Q = (((mKd g a).1 = 10 ∧ 0 ≤ j ∧ j < (mKd g a).2) ∧ Wp E 153 222 ls (.inl (μ a j.toNat) :: st) g μ Q) := Wp_ald k153_221 (fun _ => rfl)
theorem x153_221K {E : ME} {ls : MLs} {st : List MV} {g : MG} {μ : MU} {Q : Option MV → MG → MU → Prop} {c : Nat} {j : Int} (hk : mk_isI c = true) : Wp E 153 221 ls (.inl j :: .inr (.inr (.inr c)) :: st) g μ Q = ((0 ≤ j ∧ j < mk_len E c) ∧ Wp E 153 222 ls (.inl (mk_int E c j.toNat) :: st) g μ Q) := Wp_aldK k153_221 hk
theorem k153_222 : mCode 153 222 = some (.aload_n 0, 1) := by decide +kernel
theorem x153_222 {E : ME} {ls : MLs} {st : List MV} {g : MG} {μ : MU} {Q : Option MV → MG → MU → Prop} {v : Nat ⊕ Nat} : Wp E 153 222 (some (.inr (.inr v)) :: ls) st g μ Q = Wp E 153 223 (some (.inr (.inr v)) :: ls) (.inr (.inr v) :: st) g μ Q := Wp_nx k153_222 rfl
theorem k153_223 : mCode 153 223 = some (.iload_n 3, 1) := by decide +kernel
theorem x153_223 {E : ME} {ls : MLs} {st : List MV} {g : MG} {μ : MU} {Q : Option MV → MG → MU → Prop} {l0 l1 l2 : Option MV} {v : Int} : Wp E 153 223 (l0 :: l1 :: l2 :: some (.inl v) :: ls) st g μ Q = Wp E 153 224 (l0 :: l1 :: l2 :: some (.inl v) :: ls) (.inl v :: st) g μ Q := Wp_nx k153_223 rfl
theorem k153_224 : mCode 153 224 = some (.iconst 2, 1) := by decide +kernel
theorem x153_224 {E : ME} {ls : MLs} {st : List MV} {g : MG} {μ : MU} {Q : Option MV → MG → MU → Prop} : Wp E 153 224 ls st g μ Q = Wp E 153 225 ls (.inl 2 :: st) g μ Q := Wp_nx k153_224 rfl
theorem k153_225 : mCode 153 225 = some (.iadd, 1) := by decide +kernel
theorem x153_225 {E : ME} {ls : MLs} {st : List MV} {g : MG} {μ : MU} {Q : Option MV → MG → MU → Prop} {a b : Int} : Wp E 153 225 ls (.inl b :: .inl a :: st) g μ Q = Wp E 153 226 ls (.inl (mWr (a + b)) :: st) g μ Q := Wp_nx k153_225 rfl
theorem k153_226 : mCode 153 226 = some (.iaload, 1) := by decide +kernel
theorem x153_226 {E : ME} {ls : MLs} {st : List MV} {g : MG} {μ : MU} {Q : Option MV → MG → MU → Prop} {a : Nat} {j : Int} : Wp E 153 226 ls (.inl j :: .inr (.inr (.inl a)) :: st) g μ Q = (((mKd g a).1 = 10 ∧ 0 ≤ j ∧ j < (mKd g a).2) ∧ Wp E 153 227 ls (.inl (μ a j.toNat) :: st) g μ Q) := Wp_ald k153_226 (fun _ => rfl)
theorem x153_226K {E : ME} {ls : MLs} {st : List MV} {g : MG} {μ : MU} {Q : Option MV → MG → MU → Prop} {c : Nat} {j : Int} (hk : mk_isI c = true) : Wp E 153 226 ls (.inl j :: .inr (.inr (.inr c)) :: st) g μ Q = ((0 ≤ j ∧ j < mk_len E c) ∧ Wp E 153 227 ls (.inl (mk_int E c j.toNat) :: st) g μ Q) := Wp_aldK k153_226 hk
theorem k153_227 : mCode 153 227 = some (.aload_n 0, 1) := by decide +kernel
theorem x153_227 {E : ME} {ls : MLs} {st : List MV} {g : MG} {μ : MU} {Q : Option MV → MG → MU → Prop} {v : Nat ⊕ Nat} : Wp E 153 227 (some (.inr (.inr v)) :: ls) st g μ Q = Wp E 153 228 (some (.inr (.inr v)) :: ls) (.inr (.inr v) :: st) g μ Q := Wp_nx k153_227 rfl
theorem k153_228 : mCode 153 228 = some (.iload_n 3, 1) := by decide +kernel
theorem x153_228 {E : ME} {ls : MLs} {st : List MV} {g : MG} {μ : MU} {Q : Option MV → MG → MU → Prop} {l0 l1 l2 : Option MV} {v : Int} : Wp E 153 228 (l0 :: l1 :: l2 :: some (.inl v) :: ls) st g μ Q = Wp E 153 229 (l0 :: l1 :: l2 :: some (.inl v) :: ls) (.inl v :: st) g μ Q := Wp_nx k153_228 rfl
theorem k153_229 : mCode 153 229 = some (.iconst 3, 1) := by decide +kernel
theorem x153_229 {E : ME} {ls : MLs} {st : List MV} {g : MG} {μ : MU} {Q : Option MV → MG → MU → Prop} : Wp E 153 229 ls st g μ Q = Wp E 153 230 ls (.inl 3 :: st) g μ Q := Wp_nx k153_229 rfl
theorem k153_230 : mCode 153 230 = some (.iadd, 1) := by decide +kernel
theorem x153_230 {E : ME} {ls : MLs} {st : List MV} {g : MG} {μ : MU} {Q : Option MV → MG → MU → Prop} {a b : Int} : Wp E 153 230 ls (.inl b :: .inl a :: st) g μ Q = Wp E 153 231 ls (.inl (mWr (a + b)) :: st) g μ Q := Wp_nx k153_230 rfl
theorem k153_231 : mCode 153 231 = some (.iaload, 1) := by decide +kernel
theorem x153_231 {E : ME} {ls : MLs} {st : List MV} {g : MG} {μ : MU} {Q : Option MV → MG → MU → Prop} {a : Nat} {j : Int} : Wp E 153 231 ls (.inl j :: .inr (.inr (.inl a)) :: st) g μ Q = (((mKd g a).1 = 10 ∧ 0 ≤ j ∧ j < (mKd g a).2) ∧ Wp E 153 232 ls (.inl (μ a j.toNat) :: st) g μ Q) := Wp_ald k153_231 (fun _ => rfl)
theorem x153_231K {E : ME} {ls : MLs} {st : List MV} {g : MG} {μ : MU} {Q : Option MV → MG → MU → Prop} {c : Nat} {j : Int} (hk : mk_isI c = true) : Wp E 153 231 ls (.inl j :: .inr (.inr (.inr c)) :: st) g μ Q = ((0 ≤ j ∧ j < mk_len E c) ∧ Wp E 153 232 ls (.inl (mk_int E c j.toNat) :: st) g μ Q) := Wp_aldK k153_231 hk
theorem k153_232 : mCode 153 232 = some (.invokevirtual 23, 3) := by decide +kernel
theorem x153_232 {E : ME} {ls : MLs} {st : List MV} {g : MG} {μ : MU} {Q : Option MV → MG → MU → Prop} {r : Nat} {a0 : Int} {a1 : Int} {a2 : Int} : Wp E 153 232 ls (.inl a2 :: .inl a1 :: .inl a0 :: .inr (.inr (.inl r)) :: st) g μ Q = ((st.length ≤ 4 ∧ ((mKd g r).1 == 5) = true) ∧ Wp E 42 0 [some (.inr (.inr (.inl r))), some (.inl a0), some (.inl a1), some (.inl a2)] [] g μ (fun r g' μ' => (g'.1 = g.1 ∧ g'.2.1 = g.2.1) ∧ Wp E 153 235 ls (mPush r st) g' μ' Q)) := Wp_cV k153_232 m13_23 (by decide) (as := [.inr (.inr (.inl r)), .inl a0, .inl a1, .inl a2]) rfl rfl rfl ⟨Nat.le_of_ble_eq_true rfl, by decide⟩
theorem k153_235 : mCode 153 235 = some (.aload_n 2, 1) := by decide +kernel
theorem x153_235 {E : ME} {ls : MLs} {st : List MV} {g : MG} {μ : MU} {Q : Option MV → MG → MU → Prop} {l0 l1 : Option MV} {v : Nat ⊕ Nat} : Wp E 153 235 (l0 :: l1 :: some (.inr (.inr v)) :: ls) st g μ Q = Wp E 153 236 (l0 :: l1 :: some (.inr (.inr v)) :: ls) (.inr (.inr v) :: st) g μ Q := Wp_nx k153_235 rfl
theorem k153_236 : mCode 153 236 = some (.aload_n 0, 1) := by decide +kernel
theorem x153_236 {E : ME} {ls : MLs} {st : List MV} {g : MG} {μ : MU} {Q : Option MV → MG → MU → Prop} {v : Nat ⊕ Nat} : Wp E 153 236 (some (.inr (.inr v)) :: ls) st g μ Q = Wp E 153 237 (some (.inr (.inr v)) :: ls) (.inr (.inr v) :: st) g μ Q := Wp_nx k153_236 rfl
theorem k153_237 : mCode 153 237 = some (.iload_n 3, 1) := by decide +kernel
theorem x153_237 {E : ME} {ls : MLs} {st : List MV} {g : MG} {μ : MU} {Q : Option MV → MG → MU → Prop} {l0 l1 l2 : Option MV} {v : Int} : Wp E 153 237 (l0 :: l1 :: l2 :: some (.inl v) :: ls) st g μ Q = Wp E 153 238 (l0 :: l1 :: l2 :: some (.inl v) :: ls) (.inl v :: st) g μ Q := Wp_nx k153_237 rfl
theorem k153_238 : mCode 153 238 = some (.iconst 1, 1) := by decide +kernel
theorem x153_238 {E : ME} {ls : MLs} {st : List MV} {g : MG} {μ : MU} {Q : Option MV → MG → MU → Prop} : Wp E 153 238 ls st g μ Q = Wp E 153 239 ls (.inl 1 :: st) g μ Q := Wp_nx k153_238 rfl
theorem k153_239 : mCode 153 239 = some (.iadd, 1) := by decide +kernel
theorem x153_239 {E : ME} {ls : MLs} {st : List MV} {g : MG} {μ : MU} {Q : Option MV → MG → MU → Prop} {a b : Int} : Wp E 153 239 ls (.inl b :: .inl a :: st) g μ Q = Wp E 153 240 ls (.inl (mWr (a + b)) :: st) g μ Q := Wp_nx k153_239 rfl
theorem k153_240 : mCode 153 240 = some (.iaload, 1) := by decide +kernel
theorem x153_240 {E : ME} {ls : MLs} {st : List MV} {g : MG} {μ : MU} {Q : Option MV → MG → MU → Prop} {a : Nat} {j : Int} : Wp E 153 240 ls (.inl j :: .inr (.inr (.inl a)) :: st) g μ Q = (((mKd g a).1 = 10 ∧ 0 ≤ j ∧ j < (mKd g a).2) ∧ Wp E 153 241 ls (.inl (μ a j.toNat) :: st) g μ Q) := Wp_ald k153_240 (fun _ => rfl)
theorem x153_240K {E : ME} {ls : MLs} {st : List MV} {g : MG} {μ : MU} {Q : Option MV → MG → MU → Prop} {c : Nat} {j : Int} (hk : mk_isI c = true) : Wp E 153 240 ls (.inl j :: .inr (.inr (.inr c)) :: st) g μ Q = ((0 ≤ j ∧ j < mk_len E c) ∧ Wp E 153 241 ls (.inl (mk_int E c j.toNat) :: st) g μ Q) := Wp_aldK k153_240 hk
theorem k153_241 : mCode 153 241 = some (.aload_n 0, 1) := by decide +kernel
theorem x153_241 {E : ME} {ls : MLs} {st : List MV} {g : MG} {μ : MU} {Q : Option MV → MG → MU → Prop} {v : Nat ⊕ Nat} : Wp E 153 241 (some (.inr (.inr v)) :: ls) st g μ Q = Wp E 153 242 (some (.inr (.inr v)) :: ls) (.inr (.inr v) :: st) g μ Q := Wp_nx k153_241 rfl
theorem k153_242 : mCode 153 242 = some (.iload_n 3, 1) := by decide +kernel
theorem x153_242 {E : ME} {ls : MLs} {st : List MV} {g : MG} {μ : MU} {Q : Option MV → MG → MU → Prop} {l0 l1 l2 : Option MV} {v : Int} : Wp E 153 242 (l0 :: l1 :: l2 :: some (.inl v) :: ls) st g μ Q = Wp E 153 243 (l0 :: l1 :: l2 :: some (.inl v) :: ls) (.inl v :: st) g μ Q := Wp_nx k153_242 rfl
theorem k153_243 : mCode 153 243 = some (.iconst 2, 1) := by decide +kernel
theorem x153_243 {E : ME} {ls : MLs} {st : List MV} {g : MG} {μ : MU} {Q : Option MV → MG → MU → Prop} : Wp E 153 243 ls st g μ Q = Wp E 153 244 ls (.inl 2 :: st) g μ Q := Wp_nx k153_243 rfl
theorem k153_244 : mCode 153 244 = some (.iadd, 1) := by decide +kernel
theorem x153_244 {E : ME} {ls : MLs} {st : List MV} {g : MG} {μ : MU} {Q : Option MV → MG → MU → Prop} {a b : Int} : Wp E 153 244 ls (.inl b :: .inl a :: st) g μ Q = Wp E 153 245 ls (.inl (mWr (a + b)) :: st) g μ Q := Wp_nx k153_244 rfl
theorem k153_245 : mCode 153 245 = some (.iaload, 1) := by decide +kernel
theorem x153_245 {E : ME} {ls : MLs} {st : List MV} {g : MG} {μ : MU} {Q : Option MV → MG → MU → Prop} {a : Nat} {j : Int} : Wp E 153 245 ls (.inl j :: .inr (.inr (.inl a)) :: st) g μ Q = (((mKd g a).1 = 10 ∧ 0 ≤ j ∧ j < (mKd g a).2) ∧ Wp E 153 246 ls (.inl (μ a j.toNat) :: st) g μ Q) := Wp_ald k153_245 (fun _ => rfl)
theorem x153_245K {E : ME} {ls : MLs} {st : List MV} {g : MG} {μ : MU} {Q : Option MV → MG → MU → Prop} {c : Nat} {j : Int} (hk : mk_isI c = true) : Wp E 153 245 ls (.inl j :: .inr (.inr (.inr c)) :: st) g μ Q = ((0 ≤ j ∧ j < mk_len E c) ∧ Wp E 153 246 ls (.inl (mk_int E c j.toNat) :: st) g μ Q) := Wp_aldK k153_245 hk
theorem k153_246 : mCode 153 246 = some (.aload_n 0, 1) := by decide +kernel
theorem x153_246 {E : ME} {ls : MLs} {st : List MV} {g : MG} {μ : MU} {Q : Option MV → MG → MU → Prop} {v : Nat ⊕ Nat} : Wp E 153 246 (some (.inr (.inr v)) :: ls) st g μ Q = Wp E 153 247 (some (.inr (.inr v)) :: ls) (.inr (.inr v) :: st) g μ Q := Wp_nx k153_246 rfl
theorem k153_247 : mCode 153 247 = some (.iload_n 3, 1) := by decide +kernel
theorem x153_247 {E : ME} {ls : MLs} {st : List MV} {g : MG} {μ : MU} {Q : Option MV → MG → MU → Prop} {l0 l1 l2 : Option MV} {v : Int} : Wp E 153 247 (l0 :: l1 :: l2 :: some (.inl v) :: ls) st g μ Q = Wp E 153 248 (l0 :: l1 :: l2 :: some (.inl v) :: ls) (.inl v :: st) g μ Q := Wp_nx k153_247 rfl
theorem k153_248 : mCode 153 248 = some (.iconst 3, 1) := by decide +kernel
theorem x153_248 {E : ME} {ls : MLs} {st : List MV} {g : MG} {μ : MU} {Q : Option MV → MG → MU → Prop} : Wp E 153 248 ls st g μ Q = Wp E 153 249 ls (.inl 3 :: st) g μ Q := Wp_nx k153_248 rfl
theorem k153_249 : mCode 153 249 = some (.iadd, 1) := by decide +kernel
theorem x153_249 {E : ME} {ls : MLs} {st : List MV} {g : MG} {μ : MU} {Q : Option MV → MG → MU → Prop} {a b : Int} : Wp E 153 249 ls (.inl b :: .inl a :: st) g μ Q = Wp E 153 250 ls (.inl (mWr (a + b)) :: st) g μ Q := Wp_nx k153_249 rfl
theorem k153_250 : mCode 153 250 = some (.iaload, 1) := by decide +kernel
theorem x153_250 {E : ME} {ls : MLs} {st : List MV} {g : MG} {μ : MU} {Q : Option MV → MG → MU → Prop} {a : Nat} {j : Int} : Wp E 153 250 ls (.inl j :: .inr (.inr (.inl a)) :: st) g μ Q = (((mKd g a).1 = 10 ∧ 0 ≤ j ∧ j < (mKd g a).2) ∧ Wp E 153 251 ls (.inl (μ a j.toNat) :: st) g μ Q) := Wp_ald k153_250 (fun _ => rfl)
theorem x153_250K {E : ME} {ls : MLs} {st : List MV} {g : MG} {μ : MU} {Q : Option MV → MG → MU → Prop} {c : Nat} {j : Int} (hk : mk_isI c = true) : Wp E 153 250 ls (.inl j :: .inr (.inr (.inr c)) :: st) g μ Q = ((0 ≤ j ∧ j < mk_len E c) ∧ Wp E 153 251 ls (.inl (mk_int E c j.toNat) :: st) g μ Q) := Wp_aldK k153_250 hk
theorem k153_251 : mCode 153 251 = some (.invokevirtual 26, 3) := by decide +kernel
theorem x153_251 {E : ME} {ls : MLs} {st : List MV} {g : MG} {μ : MU} {Q : Option MV → MG → MU → Prop} {r : Nat} {a0 : Int} {a1 : Int} {a2 : Int} : Wp E 153 251 ls (.inl a2 :: .inl a1 :: .inl a0 :: .inr (.inr (.inl r)) :: st) g μ Q = ((st.length ≤ 4 ∧ ((mKd g r).1 == 6) = true) ∧ Wp E 102 0 [some (.inr (.inr (.inl r))), some (.inl a0), some (.inl a1), some (.inl a2), none] [] g μ (fun r g' μ' => (g'.1 = g.1 ∧ g'.2.1 = g.2.1) ∧ Wp E 153 254 ls (mPush r st) g' μ' Q)) := Wp_cV k153_251 m13_26 (by decide) (as := [.inr (.inr (.inl r)), .inl a0, .inl a1, .inl a2]) rfl rfl rfl ⟨Nat.le_of_ble_eq_true rfl, by decide⟩
theorem k153_254 : mCode 153 254 = some (.if_icmp .eq 595, 3) := by decide +kernel
theorem x153_254 {E : ME} {ls : MLs} {st : List MV} {g : MG} {μ : MU} {Q : Option MV → MG → MU → Prop} {a b : Int} : Wp E 153 254 ls (.inl b :: .inl a :: st) g μ Q = ((a = b → Wp E 153 849 ls st g μ Q) ∧ (¬ a = b → Wp E 153 257 ls st g μ Q)) := Wp_cmp_eq k153_254 (by decide)
theorem k153_257 : mCode 153 257 = some (.iconst 0, 1) := by decide +kernel
theorem x153_257 {E : ME} {ls : MLs} {st : List MV} {g : MG} {μ : MU} {Q : Option MV → MG → MU → Prop} : Wp E 153 257 ls st g μ Q = Wp E 153 258 ls (.inl 0 :: st) g μ Q := Wp_nx k153_257 rfl
theorem k153_258 : mCode 153 258 = some (.ireturn, 1) := by decide +kernel
theorem x153_258 {E : ME} {ls : MLs} {g : MG} {μ : MU} {Q : Option MV → MG → MU → Prop} {v : Int} : Wp E 153 258 ls [.inl v] g μ Q = ((v = 0 ∨ v = 1) ∧ Q (some (.inl v)) g μ) := Wp_retZ k153_258 (by decide)
theorem k153_259 : mCode 153 259 = some (.aload_n 1, 1) := by decide +kernel
theorem x153_259 {E : ME} {ls : MLs} {st : List MV} {g : MG} {μ : MU} {Q : Option MV → MG → MU → Prop} {l0 : Option MV} {v : Nat ⊕ Nat} : Wp E 153 259 (l0 :: some (.inr (.inr v)) :: ls) st g μ Q = Wp E 153 260 (l0 :: some (.inr (.inr v)) :: ls) (.inr (.inr v) :: st) g μ Q := Wp_nx k153_259 rfl
theorem k153_260 : mCode 153 260 = some (.aload_n 0, 1) := by decide +kernel
theorem x153_260 {E : ME} {ls : MLs} {st : List MV} {g : MG} {μ : MU} {Q : Option MV → MG → MU → Prop} {v : Nat ⊕ Nat} : Wp E 153 260 (some (.inr (.inr v)) :: ls) st g μ Q = Wp E 153 261 (some (.inr (.inr v)) :: ls) (.inr (.inr v) :: st) g μ Q := Wp_nx k153_260 rfl
theorem k153_261 : mCode 153 261 = some (.iload_n 3, 1) := by decide +kernel
theorem x153_261 {E : ME} {ls : MLs} {st : List MV} {g : MG} {μ : MU} {Q : Option MV → MG → MU → Prop} {l0 l1 l2 : Option MV} {v : Int} : Wp E 153 261 (l0 :: l1 :: l2 :: some (.inl v) :: ls) st g μ Q = Wp E 153 262 (l0 :: l1 :: l2 :: some (.inl v) :: ls) (.inl v :: st) g μ Q := Wp_nx k153_261 rfl
theorem k153_262 : mCode 153 262 = some (.iconst 1, 1) := by decide +kernel
theorem x153_262 {E : ME} {ls : MLs} {st : List MV} {g : MG} {μ : MU} {Q : Option MV → MG → MU → Prop} : Wp E 153 262 ls st g μ Q = Wp E 153 263 ls (.inl 1 :: st) g μ Q := Wp_nx k153_262 rfl
theorem k153_263 : mCode 153 263 = some (.iadd, 1) := by decide +kernel
theorem x153_263 {E : ME} {ls : MLs} {st : List MV} {g : MG} {μ : MU} {Q : Option MV → MG → MU → Prop} {a b : Int} : Wp E 153 263 ls (.inl b :: .inl a :: st) g μ Q = Wp E 153 264 ls (.inl (mWr (a + b)) :: st) g μ Q := Wp_nx k153_263 rfl
theorem k153_264 : mCode 153 264 = some (.iaload, 1) := by decide +kernel
theorem x153_264 {E : ME} {ls : MLs} {st : List MV} {g : MG} {μ : MU} {Q : Option MV → MG → MU → Prop} {a : Nat} {j : Int} : Wp E 153 264 ls (.inl j :: .inr (.inr (.inl a)) :: st) g μ Q = (((mKd g a).1 = 10 ∧ 0 ≤ j ∧ j < (mKd g a).2) ∧ Wp E 153 265 ls (.inl (μ a j.toNat) :: st) g μ Q) := Wp_ald k153_264 (fun _ => rfl)
theorem x153_264K {E : ME} {ls : MLs} {st : List MV} {g : MG} {μ : MU} {Q : Option MV → MG → MU → Prop} {c : Nat} {j : Int} (hk : mk_isI c = true) : Wp E 153 264 ls (.inl j :: .inr (.inr (.inr c)) :: st) g μ Q = ((0 ≤ j ∧ j < mk_len E c) ∧ Wp E 153 265 ls (.inl (mk_int E c j.toNat) :: st) g μ Q) := Wp_aldK k153_264 hk
theorem k153_265 : mCode 153 265 = some (.aload_n 0, 1) := by decide +kernel
theorem x153_265 {E : ME} {ls : MLs} {st : List MV} {g : MG} {μ : MU} {Q : Option MV → MG → MU → Prop} {v : Nat ⊕ Nat} : Wp E 153 265 (some (.inr (.inr v)) :: ls) st g μ Q = Wp E 153 266 (some (.inr (.inr v)) :: ls) (.inr (.inr v) :: st) g μ Q := Wp_nx k153_265 rfl
theorem k153_266 : mCode 153 266 = some (.iload_n 3, 1) := by decide +kernel
theorem x153_266 {E : ME} {ls : MLs} {st : List MV} {g : MG} {μ : MU} {Q : Option MV → MG → MU → Prop} {l0 l1 l2 : Option MV} {v : Int} : Wp E 153 266 (l0 :: l1 :: l2 :: some (.inl v) :: ls) st g μ Q = Wp E 153 267 (l0 :: l1 :: l2 :: some (.inl v) :: ls) (.inl v :: st) g μ Q := Wp_nx k153_266 rfl
theorem k153_267 : mCode 153 267 = some (.iconst 2, 1) := by decide +kernel
theorem x153_267 {E : ME} {ls : MLs} {st : List MV} {g : MG} {μ : MU} {Q : Option MV → MG → MU → Prop} : Wp E 153 267 ls st g μ Q = Wp E 153 268 ls (.inl 2 :: st) g μ Q := Wp_nx k153_267 rfl
theorem k153_268 : mCode 153 268 = some (.iadd, 1) := by decide +kernel
theorem x153_268 {E : ME} {ls : MLs} {st : List MV} {g : MG} {μ : MU} {Q : Option MV → MG → MU → Prop} {a b : Int} : Wp E 153 268 ls (.inl b :: .inl a :: st) g μ Q = Wp E 153 269 ls (.inl (mWr (a + b)) :: st) g μ Q := Wp_nx k153_268 rfl
theorem k153_269 : mCode 153 269 = some (.iaload, 1) := by decide +kernel
theorem x153_269 {E : ME} {ls : MLs} {st : List MV} {g : MG} {μ : MU} {Q : Option MV → MG → MU → Prop} {a : Nat} {j : Int} : Wp E 153 269 ls (.inl j :: .inr (.inr (.inl a)) :: st) g μ Q = (((mKd g a).1 = 10 ∧ 0 ≤ j ∧ j < (mKd g a).2) ∧ Wp E 153 270 ls (.inl (μ a j.toNat) :: st) g μ Q) := Wp_ald k153_269 (fun _ => rfl)
theorem x153_269K {E : ME} {ls : MLs} {st : List MV} {g : MG} {μ : MU} {Q : Option MV → MG → MU → Prop} {c : Nat} {j : Int} (hk : mk_isI c = true) : Wp E 153 269 ls (.inl j :: .inr (.inr (.inr c)) :: st) g μ Q = ((0 ≤ j ∧ j < mk_len E c) ∧ Wp E 153 270 ls (.inl (mk_int E c j.toNat) :: st) g μ Q) := Wp_aldK k153_269 hk
theorem k153_270 : mCode 153 270 = some (.aload_n 0, 1) := by decide +kernel
theorem x153_270 {E : ME} {ls : MLs} {st : List MV} {g : MG} {μ : MU} {Q : Option MV → MG → MU → Prop} {v : Nat ⊕ Nat} : Wp E 153 270 (some (.inr (.inr v)) :: ls) st g μ Q = Wp E 153 271 (some (.inr (.inr v)) :: ls) (.inr (.inr v) :: st) g μ Q := Wp_nx k153_270 rfl
theorem k153_271 : mCode 153 271 = some (.iload_n 3, 1) := by decide +kernel
theorem x153_271 {E : ME} {ls : MLs} {st : List MV} {g : MG} {μ : MU} {Q : Option MV → MG → MU → Prop} {l0 l1 l2 : Option MV} {v : Int} : Wp E 153 271 (l0 :: l1 :: l2 :: some (.inl v) :: ls) st g μ Q = Wp E 153 272 (l0 :: l1 :: l2 :: some (.inl v) :: ls) (.inl v :: st) g μ Q := Wp_nx k153_271 rfl
theorem k153_272 : mCode 153 272 = some (.iconst 3, 1) := by decide +kernel
theorem x153_272 {E : ME} {ls : MLs} {st : List MV} {g : MG} {μ : MU} {Q : Option MV → MG → MU → Prop} : Wp E 153 272 ls st g μ Q = Wp E 153 273 ls (.inl 3 :: st) g μ Q := Wp_nx k153_272 rfl
theorem k153_273 : mCode 153 273 = some (.iadd, 1) := by decide +kernel
theorem x153_273 {E : ME} {ls : MLs} {st : List MV} {g : MG} {μ : MU} {Q : Option MV → MG → MU → Prop} {a b : Int} : Wp E 153 273 ls (.inl b :: .inl a :: st) g μ Q = Wp E 153 274 ls (.inl (mWr (a + b)) :: st) g μ Q := Wp_nx k153_273 rfl
theorem k153_274 : mCode 153 274 = some (.iaload, 1) := by decide +kernel
theorem x153_274 {E : ME} {ls : MLs} {st : List MV} {g : MG} {μ : MU} {Q : Option MV → MG → MU → Prop} {a : Nat} {j : Int} : Wp E 153 274 ls (.inl j :: .inr (.inr (.inl a)) :: st) g μ Q = (((mKd g a).1 = 10 ∧ 0 ≤ j ∧ j < (mKd g a).2) ∧ Wp E 153 275 ls (.inl (μ a j.toNat) :: st) g μ Q) := Wp_ald k153_274 (fun _ => rfl)
theorem x153_274K {E : ME} {ls : MLs} {st : List MV} {g : MG} {μ : MU} {Q : Option MV → MG → MU → Prop} {c : Nat} {j : Int} (hk : mk_isI c = true) : Wp E 153 274 ls (.inl j :: .inr (.inr (.inr c)) :: st) g μ Q = ((0 ≤ j ∧ j < mk_len E c) ∧ Wp E 153 275 ls (.inl (mk_int E c j.toNat) :: st) g μ Q) := Wp_aldK k153_274 hk
theorem k153_275 : mCode 153 275 = some (.aload_n 0, 1) := by decide +kernel
theorem x153_275 {E : ME} {ls : MLs} {st : List MV} {g : MG} {μ : MU} {Q : Option MV → MG → MU → Prop} {v : Nat ⊕ Nat} : Wp E 153 275 (some (.inr (.inr v)) :: ls) st g μ Q = Wp E 153 276 (some (.inr (.inr v)) :: ls) (.inr (.inr v) :: st) g μ Q := Wp_nx k153_275 rfl
theorem k153_276 : mCode 153 276 = some (.iload_n 3, 1) := by decide +kernel
theorem x153_276 {E : ME} {ls : MLs} {st : List MV} {g : MG} {μ : MU} {Q : Option MV → MG → MU → Prop} {l0 l1 l2 : Option MV} {v : Int} : Wp E 153 276 (l0 :: l1 :: l2 :: some (.inl v) :: ls) st g μ Q = Wp E 153 277 (l0 :: l1 :: l2 :: some (.inl v) :: ls) (.inl v :: st) g μ Q := Wp_nx k153_276 rfl
theorem k153_277 : mCode 153 277 = some (.iconst 4, 1) := by decide +kernel
theorem x153_277 {E : ME} {ls : MLs} {st : List MV} {g : MG} {μ : MU} {Q : Option MV → MG → MU → Prop} : Wp E 153 277 ls st g μ Q = Wp E 153 278 ls (.inl 4 :: st) g μ Q := Wp_nx k153_277 rfl
theorem k153_278 : mCode 153 278 = some (.iadd, 1) := by decide +kernel
theorem x153_278 {E : ME} {ls : MLs} {st : List MV} {g : MG} {μ : MU} {Q : Option MV → MG → MU → Prop} {a b : Int} : Wp E 153 278 ls (.inl b :: .inl a :: st) g μ Q = Wp E 153 279 ls (.inl (mWr (a + b)) :: st) g μ Q := Wp_nx k153_278 rfl
theorem k153_279 : mCode 153 279 = some (.iaload, 1) := by decide +kernel
theorem x153_279 {E : ME} {ls : MLs} {st : List MV} {g : MG} {μ : MU} {Q : Option MV → MG → MU → Prop} {a : Nat} {j : Int} : Wp E 153 279 ls (.inl j :: .inr (.inr (.inl a)) :: st) g μ Q = (((mKd g a).1 = 10 ∧ 0 ≤ j ∧ j < (mKd g a).2) ∧ Wp E 153 280 ls (.inl (μ a j.toNat) :: st) g μ Q) := Wp_ald k153_279 (fun _ => rfl)
theorem x153_279K {E : ME} {ls : MLs} {st : List MV} {g : MG} {μ : MU} {Q : Option MV → MG → MU → Prop} {c : Nat} {j : Int} (hk : mk_isI c = true) : Wp E 153 279 ls (.inl j :: .inr (.inr (.inr c)) :: st) g μ Q = ((0 ≤ j ∧ j < mk_len E c) ∧ Wp E 153 280 ls (.inl (mk_int E c j.toNat) :: st) g μ Q) := Wp_aldK k153_279 hk
theorem k153_280 : mCode 153 280 = some (.invokevirtual 27, 3) := by decide +kernel
theorem x153_280 {E : ME} {ls : MLs} {st : List MV} {g : MG} {μ : MU} {Q : Option MV → MG → MU → Prop} {r : Nat} {a0 : Int} {a1 : Int} {a2 : Int} {a3 : Int} : Wp E 153 280 ls (.inl a3 :: .inl a2 :: .inl a1 :: .inl a0 :: .inr (.inr (.inl r)) :: st) g μ Q = ((st.length ≤ 4 ∧ ((mKd g r).1 == 5) = true) ∧ Wp E 43 0 [some (.inr (.inr (.inl r))), some (.inl a0), some (.inl a1), some (.inl a2), some (.inl a3)] [] g μ (fun r g' μ' => (g'.1 = g.1 ∧ g'.2.1 = g.2.1) ∧ Wp E 153 283 ls (mPush r st) g' μ' Q)) := Wp_cV k153_280 m13_27 (by decide) (as := [.inr (.inr (.inl r)), .inl a0, .inl a1, .inl a2, .inl a3]) rfl rfl rfl ⟨Nat.le_of_ble_eq_true rfl, by decide⟩
theorem k153_283 : mCode 153 283 = some (.aload_n 2, 1) := by decide +kernel
theorem x153_283 {E : ME} {ls : MLs} {st : List MV} {g : MG} {μ : MU} {Q : Option MV → MG → MU → Prop} {l0 l1 : Option MV} {v : Nat ⊕ Nat} : Wp E 153 283 (l0 :: l1 :: some (.inr (.inr v)) :: ls) st g μ Q = Wp E 153 284 (l0 :: l1 :: some (.inr (.inr v)) :: ls) (.inr (.inr v) :: st) g μ Q := Wp_nx k153_283 rfl
theorem k153_284 : mCode 153 284 = some (.aload_n 0, 1) := by decide +kernel
theorem x153_284 {E : ME} {ls : MLs} {st : List MV} {g : MG} {μ : MU} {Q : Option MV → MG → MU → Prop} {v : Nat ⊕ Nat} : Wp E 153 284 (some (.inr (.inr v)) :: ls) st g μ Q = Wp E 153 285 (some (.inr (.inr v)) :: ls) (.inr (.inr v) :: st) g μ Q := Wp_nx k153_284 rfl
theorem k153_285 : mCode 153 285 = some (.iload_n 3, 1) := by decide +kernel
theorem x153_285 {E : ME} {ls : MLs} {st : List MV} {g : MG} {μ : MU} {Q : Option MV → MG → MU → Prop} {l0 l1 l2 : Option MV} {v : Int} : Wp E 153 285 (l0 :: l1 :: l2 :: some (.inl v) :: ls) st g μ Q = Wp E 153 286 (l0 :: l1 :: l2 :: some (.inl v) :: ls) (.inl v :: st) g μ Q := Wp_nx k153_285 rfl
theorem k153_286 : mCode 153 286 = some (.iconst 1, 1) := by decide +kernel
theorem x153_286 {E : ME} {ls : MLs} {st : List MV} {g : MG} {μ : MU} {Q : Option MV → MG → MU → Prop} : Wp E 153 286 ls st g μ Q = Wp E 153 287 ls (.inl 1 :: st) g μ Q := Wp_nx k153_286 rfl
theorem k153_287 : mCode 153 287 = some (.iadd, 1) := by decide +kernel
theorem x153_287 {E : ME} {ls : MLs} {st : List MV} {g : MG} {μ : MU} {Q : Option MV → MG → MU → Prop} {a b : Int} : Wp E 153 287 ls (.inl b :: .inl a :: st) g μ Q = Wp E 153 288 ls (.inl (mWr (a + b)) :: st) g μ Q := Wp_nx k153_287 rfl
theorem k153_288 : mCode 153 288 = some (.iaload, 1) := by decide +kernel
theorem x153_288 {E : ME} {ls : MLs} {st : List MV} {g : MG} {μ : MU} {Q : Option MV → MG → MU → Prop} {a : Nat} {j : Int} : Wp E 153 288 ls (.inl j :: .inr (.inr (.inl a)) :: st) g μ Q = (((mKd g a).1 = 10 ∧ 0 ≤ j ∧ j < (mKd g a).2) ∧ Wp E 153 289 ls (.inl (μ a j.toNat) :: st) g μ Q) := Wp_ald k153_288 (fun _ => rfl)
theorem x153_288K {E : ME} {ls : MLs} {st : List MV} {g : MG} {μ : MU} {Q : Option MV → MG → MU → Prop} {c : Nat} {j : Int} (hk : mk_isI c = true) : Wp E 153 288 ls (.inl j :: .inr (.inr (.inr c)) :: st) g μ Q = ((0 ≤ j ∧ j < mk_len E c) ∧ Wp E 153 289 ls (.inl (mk_int E c j.toNat) :: st) g μ Q) := Wp_aldK k153_288 hk
theorem k153_289 : mCode 153 289 = some (.aload_n 0, 1) := by decide +kernel
theorem x153_289 {E : ME} {ls : MLs} {st : List MV} {g : MG} {μ : MU} {Q : Option MV → MG → MU → Prop} {v : Nat ⊕ Nat} : Wp E 153 289 (some (.inr (.inr v)) :: ls) st g μ Q = Wp E 153 290 (some (.inr (.inr v)) :: ls) (.inr (.inr v) :: st) g μ Q := Wp_nx k153_289 rfl
theorem k153_290 : mCode 153 290 = some (.iload_n 3, 1) := by decide +kernel
theorem x153_290 {E : ME} {ls : MLs} {st : List MV} {g : MG} {μ : MU} {Q : Option MV → MG → MU → Prop} {l0 l1 l2 : Option MV} {v : Int} : Wp E 153 290 (l0 :: l1 :: l2 :: some (.inl v) :: ls) st g μ Q = Wp E 153 291 (l0 :: l1 :: l2 :: some (.inl v) :: ls) (.inl v :: st) g μ Q := Wp_nx k153_290 rfl
theorem k153_291 : mCode 153 291 = some (.iconst 2, 1) := by decide +kernel
theorem x153_291 {E : ME} {ls : MLs} {st : List MV} {g : MG} {μ : MU} {Q : Option MV → MG → MU → Prop} : Wp E 153 291 ls st g μ Q = Wp E 153 292 ls (.inl 2 :: st) g μ Q := Wp_nx k153_291 rfl
theorem k153_292 : mCode 153 292 = some (.iadd, 1) := by decide +kernel
theorem x153_292 {E : ME} {ls : MLs} {st : List MV} {g : MG} {μ : MU} {Q : Option MV → MG → MU → Prop} {a b : Int} : Wp E 153 292 ls (.inl b :: .inl a :: st) g μ Q = Wp E 153 293 ls (.inl (mWr (a + b)) :: st) g μ Q := Wp_nx k153_292 rfl
theorem k153_293 : mCode 153 293 = some (.iaload, 1) := by decide +kernel
theorem x153_293 {E : ME} {ls : MLs} {st : List MV} {g : MG} {μ : MU} {Q : Option MV → MG → MU → Prop} {a : Nat} {j : Int} : Wp E 153 293 ls (.inl j :: .inr (.inr (.inl a)) :: st) g μ Q = (((mKd g a).1 = 10 ∧ 0 ≤ j ∧ j < (mKd g a).2) ∧ Wp E 153 294 ls (.inl (μ a j.toNat) :: st) g μ Q) := Wp_ald k153_293 (fun _ => rfl)
theorem x153_293K {E : ME} {ls : MLs} {st : List MV} {g : MG} {μ : MU} {Q : Option MV → MG → MU → Prop} {c : Nat} {j : Int} (hk : mk_isI c = true) : Wp E 153 293 ls (.inl j :: .inr (.inr (.inr c)) :: st) g μ Q = ((0 ≤ j ∧ j < mk_len E c) ∧ Wp E 153 294 ls (.inl (mk_int E c j.toNat) :: st) g μ Q) := Wp_aldK k153_293 hk
theorem k153_294 : mCode 153 294 = some (.aload_n 0, 1) := by decide +kernel
theorem x153_294 {E : ME} {ls : MLs} {st : List MV} {g : MG} {μ : MU} {Q : Option MV → MG → MU → Prop} {v : Nat ⊕ Nat} : Wp E 153 294 (some (.inr (.inr v)) :: ls) st g μ Q = Wp E 153 295 (some (.inr (.inr v)) :: ls) (.inr (.inr v) :: st) g μ Q := Wp_nx k153_294 rfl
theorem k153_295 : mCode 153 295 = some (.iload_n 3, 1) := by decide +kernel
theorem x153_295 {E : ME} {ls : MLs} {st : List MV} {g : MG} {μ : MU} {Q : Option MV → MG → MU → Prop} {l0 l1 l2 : Option MV} {v : Int} : Wp E 153 295 (l0 :: l1 :: l2 :: some (.inl v) :: ls) st g μ Q = Wp E 153 296 (l0 :: l1 :: l2 :: some (.inl v) :: ls) (.inl v :: st) g μ Q := Wp_nx k153_295 rfl
theorem k153_296 : mCode 153 296 = some (.iconst 3, 1) := by decide +kernel
theorem x153_296 {E : ME} {ls : MLs} {st : List MV} {g : MG} {μ : MU} {Q : Option MV → MG → MU → Prop} : Wp E 153 296 ls st g μ Q = Wp E 153 297 ls (.inl 3 :: st) g μ Q := Wp_nx k153_296 rfl
theorem k153_297 : mCode 153 297 = some (.iadd, 1) := by decide +kernel
theorem x153_297 {E : ME} {ls : MLs} {st : List MV} {g : MG} {μ : MU} {Q : Option MV → MG → MU → Prop} {a b : Int} : Wp E 153 297 ls (.inl b :: .inl a :: st) g μ Q = Wp E 153 298 ls (.inl (mWr (a + b)) :: st) g μ Q := Wp_nx k153_297 rfl
theorem k153_298 : mCode 153 298 = some (.iaload, 1) := by decide +kernel
theorem x153_298 {E : ME} {ls : MLs} {st : List MV} {g : MG} {μ : MU} {Q : Option MV → MG → MU → Prop} {a : Nat} {j : Int} : Wp E 153 298 ls (.inl j :: .inr (.inr (.inl a)) :: st) g μ Q = (((mKd g a).1 = 10 ∧ 0 ≤ j ∧ j < (mKd g a).2) ∧ Wp E 153 299 ls (.inl (μ a j.toNat) :: st) g μ Q) := Wp_ald k153_298 (fun _ => rfl)
theorem x153_298K {E : ME} {ls : MLs} {st : List MV} {g : MG} {μ : MU} {Q : Option MV → MG → MU → Prop} {c : Nat} {j : Int} (hk : mk_isI c = true) : Wp E 153 298 ls (.inl j :: .inr (.inr (.inr c)) :: st) g μ Q = ((0 ≤ j ∧ j < mk_len E c) ∧ Wp E 153 299 ls (.inl (mk_int E c j.toNat) :: st) g μ Q) := Wp_aldK k153_298 hk
theorem k153_299 : mCode 153 299 = some (.aload_n 0, 1) := by decide +kernel
theorem x153_299 {E : ME} {ls : MLs} {st : List MV} {g : MG} {μ : MU} {Q : Option MV → MG → MU → Prop} {v : Nat ⊕ Nat} : Wp E 153 299 (some (.inr (.inr v)) :: ls) st g μ Q = Wp E 153 300 (some (.inr (.inr v)) :: ls) (.inr (.inr v) :: st) g μ Q := Wp_nx k153_299 rfl
theorem k153_300 : mCode 153 300 = some (.iload_n 3, 1) := by decide +kernel
theorem x153_300 {E : ME} {ls : MLs} {st : List MV} {g : MG} {μ : MU} {Q : Option MV → MG → MU → Prop} {l0 l1 l2 : Option MV} {v : Int} : Wp E 153 300 (l0 :: l1 :: l2 :: some (.inl v) :: ls) st g μ Q = Wp E 153 301 (l0 :: l1 :: l2 :: some (.inl v) :: ls) (.inl v :: st) g μ Q := Wp_nx k153_300 rfl
theorem k153_301 : mCode 153 301 = some (.iconst 4, 1) := by decide +kernel
theorem x153_301 {E : ME} {ls : MLs} {st : List MV} {g : MG} {μ : MU} {Q : Option MV → MG → MU → Prop} : Wp E 153 301 ls st g μ Q = Wp E 153 302 ls (.inl 4 :: st) g μ Q := Wp_nx k153_301 rfl
theorem k153_302 : mCode 153 302 = some (.iadd, 1) := by decide +kernel
theorem x153_302 {E : ME} {ls : MLs} {st : List MV} {g : MG} {μ : MU} {Q : Option MV → MG → MU → Prop} {a b : Int} : Wp E 153 302 ls (.inl b :: .inl a :: st) g μ Q = Wp E 153 303 ls (.inl (mWr (a + b)) :: st) g μ Q := Wp_nx k153_302 rfl
theorem k153_303 : mCode 153 303 = some (.iaload, 1) := by decide +kernel
theorem x153_303 {E : ME} {ls : MLs} {st : List MV} {g : MG} {μ : MU} {Q : Option MV → MG → MU → Prop} {a : Nat} {j : Int} : Wp E 153 303 ls (.inl j :: .inr (.inr (.inl a)) :: st) g μ Q = (((mKd g a).1 = 10 ∧ 0 ≤ j ∧ j < (mKd g a).2) ∧ Wp E 153 304 ls (.inl (μ a j.toNat) :: st) g μ Q) := Wp_ald k153_303 (fun _ => rfl)
theorem x153_303K {E : ME} {ls : MLs} {st : List MV} {g : MG} {μ : MU} {Q : Option MV → MG → MU → Prop} {c : Nat} {j : Int} (hk : mk_isI c = true) : Wp E 153 303 ls (.inl j :: .inr (.inr (.inr c)) :: st) g μ Q = ((0 ≤ j ∧ j < mk_len E c) ∧ Wp E 153 304 ls (.inl (mk_int E c j.toNat) :: st) g μ Q) := Wp_aldK k153_303 hk
theorem k153_304 : mCode 153 304 = some (.invokevirtual 31, 3) := by decide +kernel
theorem x153_304 {E : ME} {ls : MLs} {st : List MV} {g : MG} {μ : MU} {Q : Option MV → MG → MU → Prop} {r : Nat} {a0 : Int} {a1 : Int} {a2 : Int} {a3 : Int} : Wp E 153 304 ls (.inl a3 :: .inl a2 :: .inl a1 :: .inl a0 :: .inr (.inr (.inl r)) :: st) g μ Q = ((st.length ≤ 4 ∧ ((mKd g r).1 == 6) = true) ∧ Wp E 105 0 [some (.inr (.inr (.inl r))), some (.inl a0), some (.inl a1), some (.inl a2), some (.inl a3), none] [] g μ (fun r g' μ' => (g'.1 = g.1 ∧ g'.2.1 = g.2.1) ∧ Wp E 153 307 ls (mPush r st) g' μ' Q)) := Wp_cV k153_304 m13_31 (by decide) (as := [.inr (.inr (.inl r)), .inl a0, .inl a1, .inl a2, .inl a3]) rfl rfl rfl ⟨Nat.le_of_ble_eq_true rfl, by decide⟩
theorem k153_307 : mCode 153 307 = some (.if_icmp .eq 542, 3) := by decide +kernel
theorem x153_307 {E : ME} {ls : MLs} {st : List MV} {g : MG} {μ : MU} {Q : Option MV → MG → MU → Prop} {a b : Int} : Wp E 153 307 ls (.inl b :: .inl a :: st) g μ Q = ((a = b → Wp E 153 849 ls st g μ Q) ∧ (¬ a = b → Wp E 153 310 ls st g μ Q)) := Wp_cmp_eq k153_307 (by decide)
theorem k153_310 : mCode 153 310 = some (.iconst 0, 1) := by decide +kernel
theorem x153_310 {E : ME} {ls : MLs} {st : List MV} {g : MG} {μ : MU} {Q : Option MV → MG → MU → Prop} : Wp E 153 310 ls st g μ Q = Wp E 153 311 ls (.inl 0 :: st) g μ Q := Wp_nx k153_310 rfl
theorem k153_311 : mCode 153 311 = some (.ireturn, 1) := by decide +kernel
theorem x153_311 {E : ME} {ls : MLs} {g : MG} {μ : MU} {Q : Option MV → MG → MU → Prop} {v : Int} : Wp E 153 311 ls [.inl v] g μ Q = ((v = 0 ∨ v = 1) ∧ Q (some (.inl v)) g μ) := Wp_retZ k153_311 (by decide)
theorem k153_312 : mCode 153 312 = some (.aload_n 1, 1) := by decide +kernel
theorem x153_312 {E : ME} {ls : MLs} {st : List MV} {g : MG} {μ : MU} {Q : Option MV → MG → MU → Prop} {l0 : Option MV} {v : Nat ⊕ Nat} : Wp E 153 312 (l0 :: some (.inr (.inr v)) :: ls) st g μ Q = Wp E 153 313 (l0 :: some (.inr (.inr v)) :: ls) (.inr (.inr v) :: st) g μ Q := Wp_nx k153_312 rfl
theorem k153_313 : mCode 153 313 = some (.aload_n 0, 1) := by decide +kernel
theorem x153_313 {E : ME} {ls : MLs} {st : List MV} {g : MG} {μ : MU} {Q : Option MV → MG → MU → Prop} {v : Nat ⊕ Nat} : Wp E 153 313 (some (.inr (.inr v)) :: ls) st g μ Q = Wp E 153 314 (some (.inr (.inr v)) :: ls) (.inr (.inr v) :: st) g μ Q := Wp_nx k153_313 rfl
theorem k153_314 : mCode 153 314 = some (.iload_n 3, 1) := by decide +kernel
theorem x153_314 {E : ME} {ls : MLs} {st : List MV} {g : MG} {μ : MU} {Q : Option MV → MG → MU → Prop} {l0 l1 l2 : Option MV} {v : Int} : Wp E 153 314 (l0 :: l1 :: l2 :: some (.inl v) :: ls) st g μ Q = Wp E 153 315 (l0 :: l1 :: l2 :: some (.inl v) :: ls) (.inl v :: st) g μ Q := Wp_nx k153_314 rfl
theorem k153_315 : mCode 153 315 = some (.iconst 1, 1) := by decide +kernel
theorem x153_315 {E : ME} {ls : MLs} {st : List MV} {g : MG} {μ : MU} {Q : Option MV → MG → MU → Prop} : Wp E 153 315 ls st g μ Q = Wp E 153 316 ls (.inl 1 :: st) g μ Q := Wp_nx k153_315 rfl
theorem k153_316 : mCode 153 316 = some (.iadd, 1) := by decide +kernel
theorem x153_316 {E : ME} {ls : MLs} {st : List MV} {g : MG} {μ : MU} {Q : Option MV → MG → MU → Prop} {a b : Int} : Wp E 153 316 ls (.inl b :: .inl a :: st) g μ Q = Wp E 153 317 ls (.inl (mWr (a + b)) :: st) g μ Q := Wp_nx k153_316 rfl
theorem k153_317 : mCode 153 317 = some (.iaload, 1) := by decide +kernel
theorem x153_317 {E : ME} {ls : MLs} {st : List MV} {g : MG} {μ : MU} {Q : Option MV → MG → MU → Prop} {a : Nat} {j : Int} : Wp E 153 317 ls (.inl j :: .inr (.inr (.inl a)) :: st) g μ Q = (((mKd g a).1 = 10 ∧ 0 ≤ j ∧ j < (mKd g a).2) ∧ Wp E 153 318 ls (.inl (μ a j.toNat) :: st) g μ Q) := Wp_ald k153_317 (fun _ => rfl)
theorem x153_317K {E : ME} {ls : MLs} {st : List MV} {g : MG} {μ : MU} {Q : Option MV → MG → MU → Prop} {c : Nat} {j : Int} (hk : mk_isI c = true) : Wp E 153 317 ls (.inl j :: .inr (.inr (.inr c)) :: st) g μ Q = ((0 ≤ j ∧ j < mk_len E c) ∧ Wp E 153 318 ls (.inl (mk_int E c j.toNat) :: st) g μ Q) := Wp_aldK k153_317 hk
theorem k153_318 : mCode 153 318 = some (.invokevirtual 32, 3) := by decide +kernel
theorem x153_318 {E : ME} {ls : MLs} {st : List MV} {g : MG} {μ : MU} {Q : Option MV → MG → MU → Prop} {r : Nat} {a0 : Int} : Wp E 153 318 ls (.inl a0 :: .inr (.inr (.inl r)) :: st) g μ Q = ((st.length ≤ 4 ∧ ((mKd g r).1 == 5) = true) ∧ Wp E 44 0 [some (.inr (.inr (.inl r))), some (.inl a0)] [] g μ (fun r g' μ' => (g'.1 = g.1 ∧ g'.2.1 = g.2.1) ∧ Wp E 153 321 ls (mPush r st) g' μ' Q)) := Wp_cV k153_318 m13_32 (by decide) (as := [.inr (.inr (.inl r)), .inl a0]) rfl rfl rfl ⟨Nat.le_of_ble_eq_true rfl, by decide⟩
theorem k153_321 : mCode 153 321 = some (.aload_n 2, 1) := by decide +kernel
theorem x153_321 {E : ME} {ls : MLs} {st : List MV} {g : MG} {μ : MU} {Q : Option MV → MG → MU → Prop} {l0 l1 : Option MV} {v : Nat ⊕ Nat} : Wp E 153 321 (l0 :: l1 :: some (.inr (.inr v)) :: ls) st g μ Q = Wp E 153 322 (l0 :: l1 :: some (.inr (.inr v)) :: ls) (.inr (.inr v) :: st) g μ Q := Wp_nx k153_321 rfl
theorem k153_322 : mCode 153 322 = some (.aload_n 0, 1) := by decide +kernel
theorem x153_322 {E : ME} {ls : MLs} {st : List MV} {g : MG} {μ : MU} {Q : Option MV → MG → MU → Prop} {v : Nat ⊕ Nat} : Wp E 153 322 (some (.inr (.inr v)) :: ls) st g μ Q = Wp E 153 323 (some (.inr (.inr v)) :: ls) (.inr (.inr v) :: st) g μ Q := Wp_nx k153_322 rfl
theorem k153_323 : mCode 153 323 = some (.iload_n 3, 1) := by decide +kernel
theorem x153_323 {E : ME} {ls : MLs} {st : List MV} {g : MG} {μ : MU} {Q : Option MV → MG → MU → Prop} {l0 l1 l2 : Option MV} {v : Int} : Wp E 153 323 (l0 :: l1 :: l2 :: some (.inl v) :: ls) st g μ Q = Wp E 153 324 (l0 :: l1 :: l2 :: some (.inl v) :: ls) (.inl v :: st) g μ Q := Wp_nx k153_323 rfl
theorem k153_324 : mCode 153 324 = some (.iconst 1, 1) := by decide +kernel
theorem x153_324 {E : ME} {ls : MLs} {st : List MV} {g : MG} {μ : MU} {Q : Option MV → MG → MU → Prop} : Wp E 153 324 ls st g μ Q = Wp E 153 325 ls (.inl 1 :: st) g μ Q := Wp_nx k153_324 rfl
theorem k153_325 : mCode 153 325 = some (.iadd, 1) := by decide +kernel
theorem x153_325 {E : ME} {ls : MLs} {st : List MV} {g : MG} {μ : MU} {Q : Option MV → MG → MU → Prop} {a b : Int} : Wp E 153 325 ls (.inl b :: .inl a :: st) g μ Q = Wp E 153 326 ls (.inl (mWr (a + b)) :: st) g μ Q := Wp_nx k153_325 rfl
theorem k153_326 : mCode 153 326 = some (.iaload, 1) := by decide +kernel
theorem x153_326 {E : ME} {ls : MLs} {st : List MV} {g : MG} {μ : MU} {Q : Option MV → MG → MU → Prop} {a : Nat} {j : Int} : Wp E 153 326 ls (.inl j :: .inr (.inr (.inl a)) :: st) g μ Q = (((mKd g a).1 = 10 ∧ 0 ≤ j ∧ j < (mKd g a).2) ∧ Wp E 153 327 ls (.inl (μ a j.toNat) :: st) g μ Q) := Wp_ald k153_326 (fun _ => rfl)
theorem x153_326K {E : ME} {ls : MLs} {st : List MV} {g : MG} {μ : MU} {Q : Option MV → MG → MU → Prop} {c : Nat} {j : Int} (hk : mk_isI c = true) : Wp E 153 326 ls (.inl j :: .inr (.inr (.inr c)) :: st) g μ Q = ((0 ≤ j ∧ j < mk_len E c) ∧ Wp E 153 327 ls (.inl (mk_int E c j.toNat) :: st) g μ Q) := Wp_aldK k153_326 hk
theorem k153_327 : mCode 153 327 = some (.invokevirtual 36, 3) := by decide +kernel
theorem x153_327 {E : ME} {ls : MLs} {st : List MV} {g : MG} {μ : MU} {Q : Option MV → MG → MU → Prop} {r : Nat} {a0 : Int} : Wp E 153 327 ls (.inl a0 :: .inr (.inr (.inl r)) :: st) g μ Q = ((st.length ≤ 4 ∧ ((mKd g r).1 == 6) = true) ∧ Wp E 107 0 [some (.inr (.inr (.inl r))), some (.inl a0)] [] g μ (fun r g' μ' => (g'.1 = g.1 ∧ g'.2.1 = g.2.1) ∧ Wp E 153 330 ls (mPush r st) g' μ' Q)) := Wp_cV k153_327 m13_36 (by decide) (as := [.inr (.inr (.inl r)), .inl a0]) rfl rfl rfl ⟨Nat.le_of_ble_eq_true rfl, by decide⟩
theorem k153_330 : mCode 153 330 = some (.if_icmp .eq 519, 3) := by decide +kernel
theorem x153_330 {E : ME} {ls : MLs} {st : List MV} {g : MG} {μ : MU} {Q : Option MV → MG → MU → Prop} {a b : Int} : Wp E 153 330 ls (.inl b :: .inl a :: st) g μ Q = ((a = b → Wp E 153 849 ls st g μ Q) ∧ (¬ a = b → Wp E 153 333 ls st g μ Q)) := Wp_cmp_eq k153_330 (by decide)
theorem k153_333 : mCode 153 333 = some (.iconst 0, 1) := by decide +kernel
theorem x153_333 {E : ME} {ls : MLs} {st : List MV} {g : MG} {μ : MU} {Q : Option MV → MG → MU → Prop} : Wp E 153 333 ls st g μ Q = Wp E 153 334 ls (.inl 0 :: st) g μ Q := Wp_nx k153_333 rfl
theorem k153_334 : mCode 153 334 = some (.ireturn, 1) := by decide +kernel
theorem x153_334 {E : ME} {ls : MLs} {g : MG} {μ : MU} {Q : Option MV → MG → MU → Prop} {v : Int} : Wp E 153 334 ls [.inl v] g μ Q = ((v = 0 ∨ v = 1) ∧ Q (some (.inl v)) g μ) := Wp_retZ k153_334 (by decide)
theorem k153_335 : mCode 153 335 = some (.aload_n 1, 1) := by decide +kernel
theorem x153_335 {E : ME} {ls : MLs} {st : List MV} {g : MG} {μ : MU} {Q : Option MV → MG → MU → Prop} {l0 : Option MV} {v : Nat ⊕ Nat} : Wp E 153 335 (l0 :: some (.inr (.inr v)) :: ls) st g μ Q = Wp E 153 336 (l0 :: some (.inr (.inr v)) :: ls) (.inr (.inr v) :: st) g μ Q := Wp_nx k153_335 rfl
theorem k153_336 : mCode 153 336 = some (.aload_n 0, 1) := by decide +kernel
theorem x153_336 {E : ME} {ls : MLs} {st : List MV} {g : MG} {μ : MU} {Q : Option MV → MG → MU → Prop} {v : Nat ⊕ Nat} : Wp E 153 336 (some (.inr (.inr v)) :: ls) st g μ Q = Wp E 153 337 (some (.inr (.inr v)) :: ls) (.inr (.inr v) :: st) g μ Q := Wp_nx k153_336 rfl
theorem k153_337 : mCode 153 337 = some (.iload_n 3, 1) := by decide +kernel
theorem x153_337 {E : ME} {ls : MLs} {st : List MV} {g : MG} {μ : MU} {Q : Option MV → MG → MU → Prop} {l0 l1 l2 : Option MV} {v : Int} : Wp E 153 337 (l0 :: l1 :: l2 :: some (.inl v) :: ls) st g μ Q = Wp E 153 338 (l0 :: l1 :: l2 :: some (.inl v) :: ls) (.inl v :: st) g μ Q := Wp_nx k153_337 rfl
theorem k153_338 : mCode 153 338 = some (.iconst 1, 1) := by decide +kernel
theorem x153_338 {E : ME} {ls : MLs} {st : List MV} {g : MG} {μ : MU} {Q : Option MV → MG → MU → Prop} : Wp E 153 338 ls st g μ Q = Wp E 153 339 ls (.inl 1 :: st) g μ Q := Wp_nx k153_338 rfl
theorem k153_339 : mCode 153 339 = some (.iadd, 1) := by decide +kernel
theorem x153_339 {E : ME} {ls : MLs} {st : List MV} {g : MG} {μ : MU} {Q : Option MV → MG → MU → Prop} {a b : Int} : Wp E 153 339 ls (.inl b :: .inl a :: st) g μ Q = Wp E 153 340 ls (.inl (mWr (a + b)) :: st) g μ Q := Wp_nx k153_339 rfl
theorem k153_340 : mCode 153 340 = some (.iaload, 1) := by decide +kernel
theorem x153_340 {E : ME} {ls : MLs} {st : List MV} {g : MG} {μ : MU} {Q : Option MV → MG → MU → Prop} {a : Nat} {j : Int} : Wp E 153 340 ls (.inl j :: .inr (.inr (.inl a)) :: st) g μ Q = (((mKd g a).1 = 10 ∧ 0 ≤ j ∧ j < (mKd g a).2) ∧ Wp E 153 341 ls (.inl (μ a j.toNat) :: st) g μ Q) := Wp_ald k153_340 (fun _ => rfl)
theorem x153_340K {E : ME} {ls : MLs} {st : List MV} {g : MG} {μ : MU} {Q : Option MV → MG → MU → Prop} {c : Nat} {j : Int} (hk : mk_isI c = true) : Wp E 153 340 ls (.inl j :: .inr (.inr (.inr c)) :: st) g μ Q = ((0 ≤ j ∧ j < mk_len E c) ∧ Wp E 153 341 ls (.inl (mk_int E c j.toNat) :: st) g μ Q) := Wp_aldK k153_340 hk
theorem k153_341 : mCode 153 341 = some (.aload_n 0, 1) := by decide +kernel
theorem x153_341 {E : ME} {ls : MLs} {st : List MV} {g : MG} {μ : MU} {Q : Option MV → MG → MU → Prop} {v : Nat ⊕ Nat} : Wp E 153 341 (some (.inr (.inr v)) :: ls) st g μ Q = Wp E 153 342 (some (.inr (.inr v)) :: ls) (.inr (.inr v) :: st) g μ Q := Wp_nx k153_341 rfl
theorem k153_342 : mCode 153 342 = some (.iload_n 3, 1) := by decide +kernel
theorem x153_342 {E : ME} {ls : MLs} {st : List MV} {g : MG} {μ : MU} {Q : Option MV → MG → MU → Prop} {l0 l1 l2 : Option MV} {v : Int} : Wp E 153 342 (l0 :: l1 :: l2 :: some (.inl v) :: ls) st g μ Q = Wp E 153 343 (l0 :: l1 :: l2 :: some (.inl v) :: ls) (.inl v :: st) g μ Q := Wp_nx k153_342 rfl
theorem k153_343 : mCode 153 343 = some (.iconst 2, 1) := by decide +kernel
theorem x153_343 {E : ME} {ls : MLs} {st : List MV} {g : MG} {μ : MU} {Q : Option MV → MG → MU → Prop} : Wp E 153 343 ls st g μ Q = Wp E 153 344 ls (.inl 2 :: st) g μ Q := Wp_nx k153_343 rfl
theorem k153_344 : mCode 153 344 = some (.iadd, 1) := by decide +kernel
theorem x153_344 {E : ME} {ls : MLs} {st : List MV} {g : MG} {μ : MU} {Q : Option MV → MG → MU → Prop} {a b : Int} : Wp E 153 344 ls (.inl b :: .inl a :: st) g μ Q = Wp E 153 345 ls (.inl (mWr (a + b)) :: st) g μ Q := Wp_nx k153_344 rfl
theorem k153_345 : mCode 153 345 = some (.iaload, 1) := by decide +kernel
theorem x153_345 {E : ME} {ls : MLs} {st : List MV} {g : MG} {μ : MU} {Q : Option MV → MG → MU → Prop} {a : Nat} {j : Int} : Wp E 153 345 ls (.inl j :: .inr (.inr (.inl a)) :: st) g μ Q = (((mKd g a).1 = 10 ∧ 0 ≤ j ∧ j < (mKd g a).2) ∧ Wp E 153 346 ls (.inl (μ a j.toNat) :: st) g μ Q) := Wp_ald k153_345 (fun _ => rfl)
theorem x153_345K {E : ME} {ls : MLs} {st : List MV} {g : MG} {μ : MU} {Q : Option MV → MG → MU → Prop} {c : Nat} {j : Int} (hk : mk_isI c = true) : Wp E 153 345 ls (.inl j :: .inr (.inr (.inr c)) :: st) g μ Q = ((0 ≤ j ∧ j < mk_len E c) ∧ Wp E 153 346 ls (.inl (mk_int E c j.toNat) :: st) g μ Q) := Wp_aldK k153_345 hk
theorem k153_346 : mCode 153 346 = some (.aload_n 0, 1) := by decide +kernel
theorem x153_346 {E : ME} {ls : MLs} {st : List MV} {g : MG} {μ : MU} {Q : Option MV → MG → MU → Prop} {v : Nat ⊕ Nat} : Wp E 153 346 (some (.inr (.inr v)) :: ls) st g μ Q = Wp E 153 347 (some (.inr (.inr v)) :: ls) (.inr (.inr v) :: st) g μ Q := Wp_nx k153_346 rfl
theorem k153_347 : mCode 153 347 = some (.iload_n 3, 1) := by decide +kernel
theorem x153_347 {E : ME} {ls : MLs} {st : List MV} {g : MG} {μ : MU} {Q : Option MV → MG → MU → Prop} {l0 l1 l2 : Option MV} {v : Int} : Wp E 153 347 (l0 :: l1 :: l2 :: some (.inl v) :: ls) st g μ Q = Wp E 153 348 (l0 :: l1 :: l2 :: some (.inl v) :: ls) (.inl v :: st) g μ Q := Wp_nx k153_347 rfl
theorem k153_348 : mCode 153 348 = some (.iconst 3, 1) := by decide +kernel
theorem x153_348 {E : ME} {ls : MLs} {st : List MV} {g : MG} {μ : MU} {Q : Option MV → MG → MU → Prop} : Wp E 153 348 ls st g μ Q = Wp E 153 349 ls (.inl 3 :: st) g μ Q := Wp_nx k153_348 rfl
theorem k153_349 : mCode 153 349 = some (.iadd, 1) := by decide +kernel
theorem x153_349 {E : ME} {ls : MLs} {st : List MV} {g : MG} {μ : MU} {Q : Option MV → MG → MU → Prop} {a b : Int} : Wp E 153 349 ls (.inl b :: .inl a :: st) g μ Q = Wp E 153 350 ls (.inl (mWr (a + b)) :: st) g μ Q := Wp_nx k153_349 rfl
theorem k153_350 : mCode 153 350 = some (.iaload, 1) := by decide +kernel
theorem x153_350 {E : ME} {ls : MLs} {st : List MV} {g : MG} {μ : MU} {Q : Option MV → MG → MU → Prop} {a : Nat} {j : Int} : Wp E 153 350 ls (.inl j :: .inr (.inr (.inl a)) :: st) g μ Q = (((mKd g a).1 = 10 ∧ 0 ≤ j ∧ j < (mKd g a).2) ∧ Wp E 153 351 ls (.inl (μ a j.toNat) :: st) g μ Q) := Wp_ald k153_350 (fun _ => rfl)
theorem x153_350K {E : ME} {ls : MLs} {st : List MV} {g : MG} {μ : MU} {Q : Option MV → MG → MU → Prop} {c : Nat} {j : Int} (hk : mk_isI c = true) : Wp E 153 350 ls (.inl j :: .inr (.inr (.inr c)) :: st) g μ Q = ((0 ≤ j ∧ j < mk_len E c) ∧ Wp E 153 351 ls (.inl (mk_int E c j.toNat) :: st) g μ Q) := Wp_aldK k153_350 hk
theorem k153_351 : mCode 153 351 = some (.invokevirtual 37, 3) := by decide +kernel
theorem x153_351 {E : ME} {ls : MLs} {st : List MV} {g : MG} {μ : MU} {Q : Option MV → MG → MU → Prop} {r : Nat} {a0 : Int} {a1 : Int} {a2 : Int} : Wp E 153 351 ls (.inl a2 :: .inl a1 :: .inl a0 :: .inr (.inr (.inl r)) :: st) g μ Q = ((st.length ≤ 4 ∧ ((mKd g r).1 == 5) = true) ∧ Wp E 45 0 [some (.inr (.inr (.inl r))), some (.inl a0), some (.inl a1), some (.inl a2)] [] g μ (fun r g' μ' => (g'.1 = g.1 ∧ g'.2.1 = g.2.1) ∧ Wp E 153 354 ls (mPush r st) g' μ' Q)) := Wp_cV k153_351 m13_37 (by decide) (as := [.inr (.inr (.inl r)), .inl a0, .inl a1, .inl a2]) rfl rfl rfl ⟨Nat.le_of_ble_eq_true rfl, by decide⟩
theorem k153_354 : mCode 153 354 = some (.aload_n 2, 1) := by decide +kernel
theorem x153_354 {E : ME} {ls : MLs} {st : List MV} {g : MG} {μ : MU} {Q : Option MV → MG → MU → Prop} {l0 l1 : Option MV} {v : Nat ⊕ Nat} : Wp E 153 354 (l0 :: l1 :: some (.inr (.inr v)) :: ls) st g μ Q = Wp E 153 355 (l0 :: l1 :: some (.inr (.inr v)) :: ls) (.inr (.inr v) :: st) g μ Q := Wp_nx k153_354 rfl
theorem k153_355 : mCode 153 355 = some (.aload_n 0, 1) := by decide +kernel
theorem x153_355 {E : ME} {ls : MLs} {st : List MV} {g : MG} {μ : MU} {Q : Option MV → MG → MU → Prop} {v : Nat ⊕ Nat} : Wp E 153 355 (some (.inr (.inr v)) :: ls) st g μ Q = Wp E 153 356 (some (.inr (.inr v)) :: ls) (.inr (.inr v) :: st) g μ Q := Wp_nx k153_355 rfl
theorem k153_356 : mCode 153 356 = some (.iload_n 3, 1) := by decide +kernel
theorem x153_356 {E : ME} {ls : MLs} {st : List MV} {g : MG} {μ : MU} {Q : Option MV → MG → MU → Prop} {l0 l1 l2 : Option MV} {v : Int} : Wp E 153 356 (l0 :: l1 :: l2 :: some (.inl v) :: ls) st g μ Q = Wp E 153 357 (l0 :: l1 :: l2 :: some (.inl v) :: ls) (.inl v :: st) g μ Q := Wp_nx k153_356 rfl
theorem k153_357 : mCode 153 357 = some (.iconst 1, 1) := by decide +kernel
theorem x153_357 {E : ME} {ls : MLs} {st : List MV} {g : MG} {μ : MU} {Q : Option MV → MG → MU → Prop} : Wp E 153 357 ls st g μ Q = Wp E 153 358 ls (.inl 1 :: st) g μ Q := Wp_nx k153_357 rfl
theorem k153_358 : mCode 153 358 = some (.iadd, 1) := by decide +kernel
theorem x153_358 {E : ME} {ls : MLs} {st : List MV} {g : MG} {μ : MU} {Q : Option MV → MG → MU → Prop} {a b : Int} : Wp E 153 358 ls (.inl b :: .inl a :: st) g μ Q = Wp E 153 359 ls (.inl (mWr (a + b)) :: st) g μ Q := Wp_nx k153_358 rfl
theorem k153_359 : mCode 153 359 = some (.iaload, 1) := by decide +kernel
theorem x153_359 {E : ME} {ls : MLs} {st : List MV} {g : MG} {μ : MU} {Q : Option MV → MG → MU → Prop} {a : Nat} {j : Int} : Wp E 153 359 ls (.inl j :: .inr (.inr (.inl a)) :: st) g μ Q = (((mKd g a).1 = 10 ∧ 0 ≤ j ∧ j < (mKd g a).2) ∧ Wp E 153 360 ls (.inl (μ a j.toNat) :: st) g μ Q) := Wp_ald k153_359 (fun _ => rfl)
theorem x153_359K {E : ME} {ls : MLs} {st : List MV} {g : MG} {μ : MU} {Q : Option MV → MG → MU → Prop} {c : Nat} {j : Int} (hk : mk_isI c = true) : Wp E 153 359 ls (.inl j :: .inr (.inr (.inr c)) :: st) g μ Q = ((0 ≤ j ∧ j < mk_len E c) ∧ Wp E 153 360 ls (.inl (mk_int E c j.toNat) :: st) g μ Q) := Wp_aldK k153_359 hk
theorem k153_360 : mCode 153 360 = some (.aload_n 0, 1) := by decide +kernel
theorem x153_360 {E : ME} {ls : MLs} {st : List MV} {g : MG} {μ : MU} {Q : Option MV → MG → MU → Prop} {v : Nat ⊕ Nat} : Wp E 153 360 (some (.inr (.inr v)) :: ls) st g μ Q = Wp E 153 361 (some (.inr (.inr v)) :: ls) (.inr (.inr v) :: st) g μ Q := Wp_nx k153_360 rfl
theorem k153_361 : mCode 153 361 = some (.iload_n 3, 1) := by decide +kernel
theorem x153_361 {E : ME} {ls : MLs} {st : List MV} {g : MG} {μ : MU} {Q : Option MV → MG → MU → Prop} {l0 l1 l2 : Option MV} {v : Int} : Wp E 153 361 (l0 :: l1 :: l2 :: some (.inl v) :: ls) st g μ Q = Wp E 153 362 (l0 :: l1 :: l2 :: some (.inl v) :: ls) (.inl v :: st) g μ Q := Wp_nx k153_361 rfl
theorem k153_362 : mCode 153 362 = some (.iconst 2, 1) := by decide +kernel
theorem x153_362 {E : ME} {ls : MLs} {st : List MV} {g : MG} {μ : MU} {Q : Option MV → MG → MU → Prop} : Wp E 153 362 ls st g μ Q = Wp E 153 363 ls (.inl 2 :: st) g μ Q := Wp_nx k153_362 rfl
theorem k153_363 : mCode 153 363 = some (.iadd, 1) := by decide +kernel
theorem x153_363 {E : ME} {ls : MLs} {st : List MV} {g : MG} {μ : MU} {Q : Option MV → MG → MU → Prop} {a b : Int} : Wp E 153 363 ls (.inl b :: .inl a :: st) g μ Q = Wp E 153 364 ls (.inl (mWr (a + b)) :: st) g μ Q := Wp_nx k153_363 rfl
theorem k153_364 : mCode 153 364 = some (.iaload, 1) := by decide +kernel
theorem x153_364 {E : ME} {ls : MLs} {st : List MV} {g : MG} {μ : MU} {Q : Option MV → MG → MU → Prop} {a : Nat} {j : Int} : Wp E 153 364 ls (.inl j :: .inr (.inr (.inl a)) :: st) g μ Q = (((mKd g a).1 = 10 ∧ 0 ≤ j ∧ j < (mKd g a).2) ∧ Wp E 153 365 ls (.inl (μ a j.toNat) :: st) g μ Q) := Wp_ald k153_364 (fun _ => rfl)
theorem x153_364K {E : ME} {ls : MLs} {st : List MV} {g : MG} {μ : MU} {Q : Option MV → MG → MU → Prop} {c : Nat} {j : Int} (hk : mk_isI c = true) : Wp E 153 364 ls (.inl j :: .inr (.inr (.inr c)) :: st) g μ Q = ((0 ≤ j ∧ j < mk_len E c) ∧ Wp E 153 365 ls (.inl (mk_int E c j.toNat) :: st) g μ Q) := Wp_aldK k153_364 hk
theorem k153_365 : mCode 153 365 = some (.aload_n 0, 1) := by decide +kernel
theorem x153_365 {E : ME} {ls : MLs} {st : List MV} {g : MG} {μ : MU} {Q : Option MV → MG → MU → Prop} {v : Nat ⊕ Nat} : Wp E 153 365 (some (.inr (.inr v)) :: ls) st g μ Q = Wp E 153 366 (some (.inr (.inr v)) :: ls) (.inr (.inr v) :: st) g μ Q := Wp_nx k153_365 rfl
theorem k153_366 : mCode 153 366 = some (.iload_n 3, 1) := by decide +kernel
theorem x153_366 {E : ME} {ls : MLs} {st : List MV} {g : MG} {μ : MU} {Q : Option MV → MG → MU → Prop} {l0 l1 l2 : Option MV} {v : Int} : Wp E 153 366 (l0 :: l1 :: l2 :: some (.inl v) :: ls) st g μ Q = Wp E 153 367 (l0 :: l1 :: l2 :: some (.inl v) :: ls) (.inl v :: st) g μ Q := Wp_nx k153_366 rfl
theorem k153_367 : mCode 153 367 = some (.iconst 3, 1) := by decide +kernel
theorem x153_367 {E : ME} {ls : MLs} {st : List MV} {g : MG} {μ : MU} {Q : Option MV → MG → MU → Prop} : Wp E 153 367 ls st g μ Q = Wp E 153 368 ls (.inl 3 :: st) g μ Q := Wp_nx k153_367 rfl
theorem k153_368 : mCode 153 368 = some (.iadd, 1) := by decide +kernel
theorem x153_368 {E : ME} {ls : MLs} {st : List MV} {g : MG} {μ : MU} {Q : Option MV → MG → MU → Prop} {a b : Int} : Wp E 153 368 ls (.inl b :: .inl a :: st) g μ Q = Wp E 153 369 ls (.inl (mWr (a + b)) :: st) g μ Q := Wp_nx k153_368 rfl
theorem k153_369 : mCode 153 369 = some (.iaload, 1) := by decide +kernel
theorem x153_369 {E : ME} {ls : MLs} {st : List MV} {g : MG} {μ : MU} {Q : Option MV → MG → MU → Prop} {a : Nat} {j : Int} : Wp E 153 369 ls (.inl j :: .inr (.inr (.inl a)) :: st) g μ Q = (((mKd g a).1 = 10 ∧ 0 ≤ j ∧ j < (mKd g a).2) ∧ Wp E 153 370 ls (.inl (μ a j.toNat) :: st) g μ Q) := Wp_ald k153_369 (fun _ => rfl)
theorem x153_369K {E : ME} {ls : MLs} {st : List MV} {g : MG} {μ : MU} {Q : Option MV → MG → MU → Prop} {c : Nat} {j : Int} (hk : mk_isI c = true) : Wp E 153 369 ls (.inl j :: .inr (.inr (.inr c)) :: st) g μ Q = ((0 ≤ j ∧ j < mk_len E c) ∧ Wp E 153 370 ls (.inl (mk_int E c j.toNat) :: st) g μ Q) := Wp_aldK k153_369 hk
theorem k153_370 : mCode 153 370 = some (.invokevirtual 40, 3) := by decide +kernel
theorem x153_370 {E : ME} {ls : MLs} {st : List MV} {g : MG} {μ : MU} {Q : Option MV → MG → MU → Prop} {r : Nat} {a0 : Int} {a1 : Int} {a2 : Int} : Wp E 153 370 ls (.inl a2 :: .inl a1 :: .inl a0 :: .inr (.inr (.inl r)) :: st) g μ Q = ((st.length ≤ 4 ∧ ((mKd g r).1 == 6) = true) ∧ Wp E 110 0 [some (.inr (.inr (.inl r))), some (.inl a0), some (.inl a1), some (.inl a2), none, none] [] g μ (fun r g' μ' => (g'.1 = g.1 ∧ g'.2.1 = g.2.1) ∧ Wp E 153 373 ls (mPush r st) g' μ' Q)) := Wp_cV k153_370 m13_40 (by decide) (as := [.inr (.inr (.inl r)), .inl a0, .inl a1, .inl a2]) rfl rfl rfl ⟨Nat.le_of_ble_eq_true rfl, by decide⟩
theorem k153_373 : mCode 153 373 = some (.if_icmp .eq 476, 3) := by decide +kernel
theorem x153_373 {E : ME} {ls : MLs} {st : List MV} {g : MG} {μ : MU} {Q : Option MV → MG → MU → Prop} {a b : Int} : Wp E 153 373 ls (.inl b :: .inl a :: st) g μ Q = ((a = b → Wp E 153 849 ls st g μ Q) ∧ (¬ a = b → Wp E 153 376 ls st g μ Q)) := Wp_cmp_eq k153_373 (by decide)
theorem k153_376 : mCode 153 376 = some (.iconst 0, 1) := by decide +kernel
theorem x153_376 {E : ME} {ls : MLs} {st : List MV} {g : MG} {μ : MU} {Q : Option MV → MG → MU → Prop} : Wp E 153 376 ls st g μ Q = Wp E 153 377 ls (.inl 0 :: st) g μ Q := Wp_nx k153_376 rfl
theorem k153_377 : mCode 153 377 = some (.ireturn, 1) := by decide +kernel
theorem x153_377 {E : ME} {ls : MLs} {g : MG} {μ : MU} {Q : Option MV → MG → MU → Prop} {v : Int} : Wp E 153 377 ls [.inl v] g μ Q = ((v = 0 ∨ v = 1) ∧ Q (some (.inl v)) g μ) := Wp_retZ k153_377 (by decide)
theorem k153_378 : mCode 153 378 = some (.aload_n 1, 1) := by decide +kernel
theorem x153_378 {E : ME} {ls : MLs} {st : List MV} {g : MG} {μ : MU} {Q : Option MV → MG → MU → Prop} {l0 : Option MV} {v : Nat ⊕ Nat} : Wp E 153 378 (l0 :: some (.inr (.inr v)) :: ls) st g μ Q = Wp E 153 379 (l0 :: some (.inr (.inr v)) :: ls) (.inr (.inr v) :: st) g μ Q := Wp_nx k153_378 rfl
theorem k153_379 : mCode 153 379 = some (.aload_n 0, 1) := by decide +kernel
theorem x153_379 {E : ME} {ls : MLs} {st : List MV} {g : MG} {μ : MU} {Q : Option MV → MG → MU → Prop} {v : Nat ⊕ Nat} : Wp E 153 379 (some (.inr (.inr v)) :: ls) st g μ Q = Wp E 153 380 (some (.inr (.inr v)) :: ls) (.inr (.inr v) :: st) g μ Q := Wp_nx k153_379 rfl
theorem k153_380 : mCode 153 380 = some (.iload_n 3, 1) := by decide +kernel
theorem x153_380 {E : ME} {ls : MLs} {st : List MV} {g : MG} {μ : MU} {Q : Option MV → MG → MU → Prop} {l0 l1 l2 : Option MV} {v : Int} : Wp E 153 380 (l0 :: l1 :: l2 :: some (.inl v) :: ls) st g μ Q = Wp E 153 381 (l0 :: l1 :: l2 :: some (.inl v) :: ls) (.inl v :: st) g μ Q := Wp_nx k153_380 rfl
theorem k153_381 : mCode 153 381 = some (.iconst 1, 1) := by decide +kernel
theorem x153_381 {E : ME} {ls : MLs} {st : List MV} {g : MG} {μ : MU} {Q : Option MV → MG → MU → Prop} : Wp E 153 381 ls st g μ Q = Wp E 153 382 ls (.inl 1 :: st) g μ Q := Wp_nx k153_381 rfl
theorem k153_382 : mCode 153 382 = some (.iadd, 1) := by decide +kernel
theorem x153_382 {E : ME} {ls : MLs} {st : List MV} {g : MG} {μ : MU} {Q : Option MV → MG → MU → Prop} {a b : Int} : Wp E 153 382 ls (.inl b :: .inl a :: st) g μ Q = Wp E 153 383 ls (.inl (mWr (a + b)) :: st) g μ Q := Wp_nx k153_382 rfl
theorem k153_383 : mCode 153 383 = some (.iaload, 1) := by decide +kernel
theorem x153_383 {E : ME} {ls : MLs} {st : List MV} {g : MG} {μ : MU} {Q : Option MV → MG → MU → Prop} {a : Nat} {j : Int} : Wp E 153 383 ls (.inl j :: .inr (.inr (.inl a)) :: st) g μ Q = (((mKd g a).1 = 10 ∧ 0 ≤ j ∧ j < (mKd g a).2) ∧ Wp E 153 384 ls (.inl (μ a j.toNat) :: st) g μ Q) := Wp_ald k153_383 (fun _ => rfl)
theorem x153_383K {E : ME} {ls : MLs} {st : List MV} {g : MG} {μ : MU} {Q : Option MV → MG → MU → Prop} {c : Nat} {j : Int} (hk : mk_isI c = true) : Wp E 153 383 ls (.inl j :: .inr (.inr (.inr c)) :: st) g μ Q = ((0 ≤ j ∧ j < mk_len E c) ∧ Wp E 153 384 ls (.inl (mk_int E c j.toNat) :: st) g μ Q) := Wp_aldK k153_383 hk
theorem k153_384 : mCode 153 384 = some (.aload_n 0, 1) := by decide +kernel
theorem x153_384 {E : ME} {ls : MLs} {st : List MV} {g : MG} {μ : MU} {Q : Option MV → MG → MU → Prop} {v : Nat ⊕ Nat} : Wp E 153 384 (some (.inr (.inr v)) :: ls) st g μ Q = Wp E 153 385 (some (.inr (.inr v)) :: ls) (.inr (.inr v) :: st) g μ Q := Wp_nx k153_384 rfl
theorem k153_385 : mCode 153 385 = some (.iload_n 3, 1) := by decide +kernel
theorem x153_385 {E : ME} {ls : MLs} {st : List MV} {g : MG} {μ : MU} {Q : Option MV → MG → MU → Prop} {l0 l1 l2 : Option MV} {v : Int} : Wp E 153 385 (l0 :: l1 :: l2 :: some (.inl v) :: ls) st g μ Q = Wp E 153 386 (l0 :: l1 :: l2 :: some (.inl v) :: ls) (.inl v :: st) g μ Q := Wp_nx k153_385 rfl
theorem k153_386 : mCode 153 386 = some (.iconst 2, 1) := by decide +kernel
theorem x153_386 {E : ME} {ls : MLs} {st : List MV} {g : MG} {μ : MU} {Q : Option MV → MG → MU → Prop} : Wp E 153 386 ls st g μ Q = Wp E 153 387 ls (.inl 2 :: st) g μ Q := Wp_nx k153_386 rfl
theorem k153_387 : mCode 153 387 = some (.iadd, 1) := by decide +kernel
theorem x153_387 {E : ME} {ls : MLs} {st : List MV} {g : MG} {μ : MU} {Q : Option MV → MG → MU → Prop} {a b : Int} : Wp E 153 387 ls (.inl b :: .inl a :: st) g μ Q = Wp E 153 388 ls (.inl (mWr (a + b)) :: st) g μ Q := Wp_nx k153_387 rfl
theorem k153_388 : mCode 153 388 = some (.iaload, 1) := by decide +kernel
theorem x153_388 {E : ME} {ls : MLs} {st : List MV} {g : MG} {μ : MU} {Q : Option MV → MG → MU → Prop} {a : Nat} {j : Int} : Wp E 153 388 ls (.inl j :: .inr (.inr (.inl a)) :: st) g μ Q = (((mKd g a).1 = 10 ∧ 0 ≤ j ∧ j < (mKd g a).2) ∧ Wp E 153 389 ls (.inl (μ a j.toNat) :: st) g μ Q) := Wp_ald k153_388 (fun _ => rfl)
theorem x153_388K {E : ME} {ls : MLs} {st : List MV} {g : MG} {μ : MU} {Q : Option MV → MG → MU → Prop} {c : Nat} {j : Int} (hk : mk_isI c = true) : Wp E 153 388 ls (.inl j :: .inr (.inr (.inr c)) :: st) g μ Q = ((0 ≤ j ∧ j < mk_len E c) ∧ Wp E 153 389 ls (.inl (mk_int E c j.toNat) :: st) g μ Q) := Wp_aldK k153_388 hk
theorem k153_389 : mCode 153 389 = some (.invokevirtual 41, 3) := by decide +kernel
theorem x153_389 {E : ME} {ls : MLs} {st : List MV} {g : MG} {μ : MU} {Q : Option MV → MG → MU → Prop} {r : Nat} {a0 : Int} {a1 : Int} : Wp E 153 389 ls (.inl a1 :: .inl a0 :: .inr (.inr (.inl r)) :: st) g μ Q = ((st.length ≤ 4 ∧ ((mKd g r).1 == 5) = true) ∧ Wp E 46 0 [some (.inr (.inr (.inl r))), some (.inl a0), some (.inl a1)] [] g μ (fun r g' μ' => (g'.1 = g.1 ∧ g'.2.1 = g.2.1) ∧ Wp E 153 392 ls (mPush r st) g' μ' Q)) := Wp_cV k153_389 m13_41 (by decide) (as := [.inr (.inr (.inl r)), .inl a0, .inl a1]) rfl rfl rfl ⟨Nat.le_of_ble_eq_true rfl, by decide⟩
theorem k153_392 : mCode 153 392 = some (.aload_n 2, 1) := by decide +kernel
theorem x153_392 {E : ME} {ls : MLs} {st : List MV} {g : MG} {μ : MU} {Q : Option MV → MG → MU → Prop} {l0 l1 : Option MV} {v : Nat ⊕ Nat} : Wp E 153 392 (l0 :: l1 :: some (.inr (.inr v)) :: ls) st g μ Q = Wp E 153 393 (l0 :: l1 :: some (.inr (.inr v)) :: ls) (.inr (.inr v) :: st) g μ Q := Wp_nx k153_392 rfl
theorem k153_393 : mCode 153 393 = some (.aload_n 0, 1) := by decide +kernel
theorem x153_393 {E : ME} {ls : MLs} {st : List MV} {g : MG} {μ : MU} {Q : Option MV → MG → MU → Prop} {v : Nat ⊕ Nat} : Wp E 153 393 (some (.inr (.inr v)) :: ls) st g μ Q = Wp E 153 394 (some (.inr (.inr v)) :: ls) (.inr (.inr v) :: st) g μ Q := Wp_nx k153_393 rfl
theorem k153_394 : mCode 153 394 = some (.iload_n 3, 1) := by decide +kernel
theorem x153_394 {E : ME} {ls : MLs} {st : List MV} {g : MG} {μ : MU} {Q : Option MV → MG → MU → Prop} {l0 l1 l2 : Option MV} {v : Int} : Wp E 153 394 (l0 :: l1 :: l2 :: some (.inl v) :: ls) st g μ Q = Wp E 153 395 (l0 :: l1 :: l2 :: some (.inl v) :: ls) (.inl v :: st) g μ Q := Wp_nx k153_394 rfl
theorem k153_395 : mCode 153 395 = some (.iconst 1, 1) := by decide +kernel
theorem x153_395 {E : ME} {ls : MLs} {st : List MV} {g : MG} {μ : MU} {Q : Option MV → MG → MU → Prop} : Wp E 153 395 ls st g μ Q = Wp E 153 396 ls (.inl 1 :: st) g μ Q := Wp_nx k153_395 rfl
theorem k153_396 : mCode 153 396 = some (.iadd, 1) := by decide +kernel
theorem x153_396 {E : ME} {ls : MLs} {st : List MV} {g : MG} {μ : MU} {Q : Option MV → MG → MU → Prop} {a b : Int} : Wp E 153 396 ls (.inl b :: .inl a :: st) g μ Q = Wp E 153 397 ls (.inl (mWr (a + b)) :: st) g μ Q := Wp_nx k153_396 rfl
theorem k153_397 : mCode 153 397 = some (.iaload, 1) := by decide +kernel
theorem x153_397 {E : ME} {ls : MLs} {st : List MV} {g : MG} {μ : MU} {Q : Option MV → MG → MU → Prop} {a : Nat} {j : Int} : Wp E 153 397 ls (.inl j :: .inr (.inr (.inl a)) :: st) g μ Q = (((mKd g a).1 = 10 ∧ 0 ≤ j ∧ j < (mKd g a).2) ∧ Wp E 153 398 ls (.inl (μ a j.toNat) :: st) g μ Q) := Wp_ald k153_397 (fun _ => rfl)
theorem x153_397K {E : ME} {ls : MLs} {st : List MV} {g : MG} {μ : MU} {Q : Option MV → MG → MU → Prop} {c : Nat} {j : Int} (hk : mk_isI c = true) : Wp E 153 397 ls (.inl j :: .inr (.inr (.inr c)) :: st) g μ Q = ((0 ≤ j ∧ j < mk_len E c) ∧ Wp E 153 398 ls (.inl (mk_int E c j.toNat) :: st) g μ Q) := Wp_aldK k153_397 hk
theorem k153_398 : mCode 153 398 = some (.aload_n 0, 1) := by decide +kernel
theorem x153_398 {E : ME} {ls : MLs} {st : List MV} {g : MG} {μ : MU} {Q : Option MV → MG → MU → Prop} {v : Nat ⊕ Nat} : Wp E 153 398 (some (.inr (.inr v)) :: ls) st g μ Q = Wp E 153 399 (some (.inr (.inr v)) :: ls) (.inr (.inr v) :: st) g μ Q := Wp_nx k153_398 rfl
theorem k153_399 : mCode 153 399 = some (.iload_n 3, 1) := by decide +kernel
theorem x153_399 {E : ME} {ls : MLs} {st : List MV} {g : MG} {μ : MU} {Q : Option MV → MG → MU → Prop} {l0 l1 l2 : Option MV} {v : Int} : Wp E 153 399 (l0 :: l1 :: l2 :: some (.inl v) :: ls) st g μ Q = Wp E 153 400 (l0 :: l1 :: l2 :: some (.inl v) :: ls) (.inl v :: st) g μ Q := Wp_nx k153_399 rfl
theorem k153_400 : mCode 153 400 = some (.iconst 2, 1) := by decide +kernel
theorem x153_400 {E : ME} {ls : MLs} {st : List MV} {g : MG} {μ : MU} {Q : Option MV → MG → MU → Prop} : Wp E 153 400 ls st g μ Q = Wp E 153 401 ls (.inl 2 :: st) g μ Q := Wp_nx k153_400 rfl
theorem k153_401 : mCode 153 401 = some (.iadd, 1) := by decide +kernel
theorem x153_401 {E : ME} {ls : MLs} {st : List MV} {g : MG} {μ : MU} {Q : Option MV → MG → MU → Prop} {a b : Int} : Wp E 153 401 ls (.inl b :: .inl a :: st) g μ Q = Wp E 153 402 ls (.inl (mWr (a + b)) :: st) g μ Q := Wp_nx k153_401 rfl
theorem k153_402 : mCode 153 402 = some (.iaload, 1) := by decide +kernel
theorem x153_402 {E : ME} {ls : MLs} {st : List MV} {g : MG} {μ : MU} {Q : Option MV → MG → MU → Prop} {a : Nat} {j : Int} : Wp E 153 402 ls (.inl j :: .inr (.inr (.inl a)) :: st) g μ Q = (((mKd g a).1 = 10 ∧ 0 ≤ j ∧ j < (mKd g a).2) ∧ Wp E 153 403 ls (.inl (μ a j.toNat) :: st) g μ Q) := Wp_ald k153_402 (fun _ => rfl)
theorem x153_402K {E : ME} {ls : MLs} {st : List MV} {g : MG} {μ : MU} {Q : Option MV → MG → MU → Prop} {c : Nat} {j : Int} (hk : mk_isI c = true) : Wp E 153 402 ls (.inl j :: .inr (.inr (.inr c)) :: st) g μ Q = ((0 ≤ j ∧ j < mk_len E c) ∧ Wp E 153 403 ls (.inl (mk_int E c j.toNat) :: st) g μ Q) := Wp_aldK k153_402 hk
theorem k153_403 : mCode 153 403 = some (.invokevirtual 44, 3) := by decide +kernel
theorem x153_403 {E : ME} {ls : MLs} {st : List MV} {g : MG} {μ : MU} {Q : Option MV → MG → MU → Prop} {r : Nat} {a0 : Int} {a1 : Int} : Wp E 153 403 ls (.inl a1 :: .inl a0 :: .inr (.inr (.inl r)) :: st) g μ Q = ((st.length ≤ 4 ∧ ((mKd g r).1 == 6) = true) ∧ Wp E 111 0 [some (.inr (.inr (.inl r))), some (.inl a0), some (.inl a1), none] [] g μ (fun r g' μ' => (g'.1 = g.1 ∧ g'.2.1 = g.2.1) ∧ Wp E 153 406 ls (mPush r st) g' μ' Q)) := Wp_cV k153_403 m13_44 (by decide) (as := [.inr (.inr (.inl r)), .inl a0, .inl a1]) rfl rfl rfl ⟨Nat.le_of_ble_eq_true rfl, by decide⟩
theorem k153_406 : mCode 153 406 = some (.if_icmp .eq 443, 3) := by decide +kernel
theorem x153_406 {E : ME} {ls : MLs} {st : List MV} {g : MG} {μ : MU} {Q : Option MV → MG → MU → Prop} {a b : Int} : Wp E 153 406 ls (.inl b :: .inl a :: st) g μ Q = ((a = b → Wp E 153 849 ls st g μ Q) ∧ (¬ a = b → Wp E 153 409 ls st g μ Q)) := Wp_cmp_eq k153_406 (by decide)
theorem k153_409 : mCode 153 409 = some (.iconst 0, 1) := by decide +kernel
theorem x153_409 {E : ME} {ls : MLs} {st : List MV} {g : MG} {μ : MU} {Q : Option MV → MG → MU → Prop} : Wp E 153 409 ls st g μ Q = Wp E 153 410 ls (.inl 0 :: st) g μ Q := Wp_nx k153_409 rfl
theorem k153_410 : mCode 153 410 = some (.ireturn, 1) := by decide +kernel
theorem x153_410 {E : ME} {ls : MLs} {g : MG} {μ : MU} {Q : Option MV → MG → MU → Prop} {v : Int} : Wp E 153 410 ls [.inl v] g μ Q = ((v = 0 ∨ v = 1) ∧ Q (some (.inl v)) g μ) := Wp_retZ k153_410 (by decide)
theorem k153_411 : mCode 153 411 = some (.aload_n 1, 1) := by decide +kernel
theorem x153_411 {E : ME} {ls : MLs} {st : List MV} {g : MG} {μ : MU} {Q : Option MV → MG → MU → Prop} {l0 : Option MV} {v : Nat ⊕ Nat} : Wp E 153 411 (l0 :: some (.inr (.inr v)) :: ls) st g μ Q = Wp E 153 412 (l0 :: some (.inr (.inr v)) :: ls) (.inr (.inr v) :: st) g μ Q := Wp_nx k153_411 rfl
theorem k153_412 : mCode 153 412 = some (.aload_n 0, 1) := by decide +kernel
theorem x153_412 {E : ME} {ls : MLs} {st : List MV} {g : MG} {μ : MU} {Q : Option MV → MG → MU → Prop} {v : Nat ⊕ Nat} : Wp E 153 412 (some (.inr (.inr v)) :: ls) st g μ Q = Wp E 153 413 (some (.inr (.inr v)) :: ls) (.inr (.inr v) :: st) g μ Q := Wp_nx k153_412 rfl
theorem k153_413 : mCode 153 413 = some (.iload_n 3, 1) := by decide +kernel
theorem x153_413 {E : ME} {ls : MLs} {st : List MV} {g : MG} {μ : MU} {Q : Option MV → MG → MU → Prop} {l0 l1 l2 : Option MV} {v : Int} : Wp E 153 413 (l0 :: l1 :: l2 :: some (.inl v) :: ls) st g μ Q = Wp E 153 414 (l0 :: l1 :: l2 :: some (.inl v) :: ls) (.inl v :: st) g μ Q := Wp_nx k153_413 rfl
theorem k153_414 : mCode 153 414 = some (.iconst 1, 1) := by decide +kernel
theorem x153_414 {E : ME} {ls : MLs} {st : List MV} {g : MG} {μ : MU} {Q : Option MV → MG → MU → Prop} : Wp E 153 414 ls st g μ Q = Wp E 153 415 ls (.inl 1 :: st) g μ Q := Wp_nx k153_414 rfl
theorem k153_415 : mCode 153 415 = some (.iadd, 1) := by decide +kernel
theorem x153_415 {E : ME} {ls : MLs} {st : List MV} {g : MG} {μ : MU} {Q : Option MV → MG → MU → Prop} {a b : Int} : Wp E 153 415 ls (.inl b :: .inl a :: st) g μ Q = Wp E 153 416 ls (.inl (mWr (a + b)) :: st) g μ Q := Wp_nx k153_415 rfl
theorem k153_416 : mCode 153 416 = some (.iaload, 1) := by decide +kernel
theorem x153_416 {E : ME} {ls : MLs} {st : List MV} {g : MG} {μ : MU} {Q : Option MV → MG → MU → Prop} {a : Nat} {j : Int} : Wp E 153 416 ls (.inl j :: .inr (.inr (.inl a)) :: st) g μ Q = (((mKd g a).1 = 10 ∧ 0 ≤ j ∧ j < (mKd g a).2) ∧ Wp E 153 417 ls (.inl (μ a j.toNat) :: st) g μ Q) := Wp_ald k153_416 (fun _ => rfl)
theorem x153_416K {E : ME} {ls : MLs} {st : List MV} {g : MG} {μ : MU} {Q : Option MV → MG → MU → Prop} {c : Nat} {j : Int} (hk : mk_isI c = true) : Wp E 153 416 ls (.inl j :: .inr (.inr (.inr c)) :: st) g μ Q = ((0 ≤ j ∧ j < mk_len E c) ∧ Wp E 153 417 ls (.inl (mk_int E c j.toNat) :: st) g μ Q) := Wp_aldK k153_416 hk
theorem k153_417 : mCode 153 417 = some (.aload_n 0, 1) := by decide +kernel
theorem x153_417 {E : ME} {ls : MLs} {st : List MV} {g : MG} {μ : MU} {Q : Option MV → MG → MU → Prop} {v : Nat ⊕ Nat} : Wp E 153 417 (some (.inr (.inr v)) :: ls) st g μ Q = Wp E 153 418 (some (.inr (.inr v)) :: ls) (.inr (.inr v) :: st) g μ Q := Wp_nx k153_417 rfl
theorem k153_418 : mCode 153 418 = some (.iload_n 3, 1) := by decide +kernel
theorem x153_418 {E : ME} {ls : MLs} {st : List MV} {g : MG} {μ : MU} {Q : Option MV → MG → MU → Prop} {l0 l1 l2 : Option MV} {v : Int} : Wp E 153 418 (l0 :: l1 :: l2 :: some (.inl v) :: ls) st g μ Q = Wp E 153 419 (l0 :: l1 :: l2 :: some (.inl v) :: ls) (.inl v :: st) g μ Q := Wp_nx k153_418 rfl
theorem k153_419 : mCode 153 419 = some (.iconst 2, 1) := by decide +kernel
theorem x153_419 {E : ME} {ls : MLs} {st : List MV} {g : MG} {μ : MU} {Q : Option MV → MG → MU → Prop} : Wp E 153 419 ls st g μ Q = Wp E 153 420 ls (.inl 2 :: st) g μ Q := Wp_nx k153_419 rfl
theorem k153_420 : mCode 153 420 = some (.iadd, 1) := by decide +kernel
theorem x153_420 {E : ME} {ls : MLs} {st : List MV} {g : MG} {μ : MU} {Q : Option MV → MG → MU → Prop} {a b : Int} : Wp E 153 420 ls (.inl b :: .inl a :: st) g μ Q = Wp E 153 421 ls (.inl (mWr (a + b)) :: st) g μ Q := Wp_nx k153_420 rfl
theorem k153_421 : mCode 153 421 = some (.iaload, 1) := by decide +kernel
theorem x153_421 {E : ME} {ls : MLs} {st : List MV} {g : MG} {μ : MU} {Q : Option MV → MG → MU → Prop} {a : Nat} {j : Int} : Wp E 153 421 ls (.inl j :: .inr (.inr (.inl a)) :: st) g μ Q = (((mKd g a).1 = 10 ∧ 0 ≤ j ∧ j < (mKd g a).2) ∧ Wp E 153 422 ls (.inl (μ a j.toNat) :: st) g μ Q) := Wp_ald k153_421 (fun _ => rfl)
theorem x153_421K {E : ME} {ls : MLs} {st : List MV} {g : MG} {μ : MU} {Q : Option MV → MG → MU → Prop} {c : Nat} {j : Int} (hk : mk_isI c = true) : Wp E 153 421 ls (.inl j :: .inr (.inr (.inr c)) :: st) g μ Q = ((0 ≤ j ∧ j < mk_len E c) ∧ Wp E 153 422 ls (.inl (mk_int E c j.toNat) :: st) g μ Q) := Wp_aldK k153_421 hk
theorem k153_422 : mCode 153 422 = some (.invokevirtual 45, 3) := by decide +kernel
theorem x153_422 {E : ME} {ls : MLs} {st : List MV} {g : MG} {μ : MU} {Q : Option MV → MG → MU → Prop} {r : Nat} {a0 : Int} {a1 : Int} : Wp E 153 422 ls (.inl a1 :: .inl a0 :: .inr (.inr (.inl r)) :: st) g μ Q = ((st.length ≤ 4 ∧ ((mKd g r).1 == 5) = true) ∧ Wp E 48 0 [some (.inr (.inr (.inl r))), some (.inl a0), some (.inl a1)] [] g μ (fun r g' μ' => (g'.1 = g.1 ∧ g'.2.1 = g.2.1) ∧ Wp E 153 425 ls (mPush r st) g' μ' Q)) := Wp_cV k153_422 m13_45 (by decide) (as := [.inr (.inr (.inl r)), .inl a0, .inl a1]) rfl rfl rfl ⟨Nat.le_of_ble_eq_true rfl, by decide⟩
theorem k153_425 : mCode 153 425 = some (.aload_n 2, 1) := by decide +kernel
theorem x153_425 {E : ME} {ls : MLs} {st : List MV} {g : MG} {μ : MU} {Q : Option MV → MG → MU → Prop} {l0 l1 : Option MV} {v : Nat ⊕ Nat} : Wp E 153 425 (l0 :: l1 :: some (.inr (.inr v)) :: ls) st g μ Q = Wp E 153 426 (l0 :: l1 :: some (.inr (.inr v)) :: ls) (.inr (.inr v) :: st) g μ Q := Wp_nx k153_425 rfl
theorem k153_426 : mCode 153 426 = some (.aload_n 0, 1) := by decide +kernel
theorem x153_426 {E : ME} {ls : MLs} {st : List MV} {g : MG} {μ : MU} {Q : Option MV → MG → MU → Prop} {v : Nat ⊕ Nat} : Wp E 153 426 (some (.inr (.inr v)) :: ls) st g μ Q = Wp E 153 427 (some (.inr (.inr v)) :: ls) (.inr (.inr v) :: st) g μ Q := Wp_nx k153_426 rfl
theorem k153_427 : mCode 153 427 = some (.iload_n 3, 1) := by decide +kernel
theorem x153_427 {E : ME} {ls : MLs} {st : List MV} {g : MG} {μ : MU} {Q : Option MV → MG → MU → Prop} {l0 l1 l2 : Option MV} {v : Int} : Wp E 153 427 (l0 :: l1 :: l2 :: some (.inl v) :: ls) st g μ Q = Wp E 153 428 (l0 :: l1 :: l2 :: some (.inl v) :: ls) (.inl v :: st) g μ Q := Wp_nx k153_427 rfl
theorem k153_428 : mCode 153 428 = some (.iconst 1, 1) := by decide +kernel
theorem x153_428 {E : ME} {ls : MLs} {st : List MV} {g : MG} {μ : MU} {Q : Option MV → MG → MU → Prop} : Wp E 153 428 ls st g μ Q = Wp E 153 429 ls (.inl 1 :: st) g μ Q := Wp_nx k153_428 rfl
theorem k153_429 : mCode 153 429 = some (.iadd, 1) := by decide +kernel
theorem x153_429 {E : ME} {ls : MLs} {st : List MV} {g : MG} {μ : MU} {Q : Option MV → MG → MU → Prop} {a b : Int} : Wp E 153 429 ls (.inl b :: .inl a :: st) g μ Q = Wp E 153 430 ls (.inl (mWr (a + b)) :: st) g μ Q := Wp_nx k153_429 rfl
theorem k153_430 : mCode 153 430 = some (.iaload, 1) := by decide +kernel
theorem x153_430 {E : ME} {ls : MLs} {st : List MV} {g : MG} {μ : MU} {Q : Option MV → MG → MU → Prop} {a : Nat} {j : Int} : Wp E 153 430 ls (.inl j :: .inr (.inr (.inl a)) :: st) g μ Q = (((mKd g a).1 = 10 ∧ 0 ≤ j ∧ j < (mKd g a).2) ∧ Wp E 153 431 ls (.inl (μ a j.toNat) :: st) g μ Q) := Wp_ald k153_430 (fun _ => rfl)
theorem x153_430K {E : ME} {ls : MLs} {st : List MV} {g : MG} {μ : MU} {Q : Option MV → MG → MU → Prop} {c : Nat} {j : Int} (hk : mk_isI c = true) : Wp E 153 430 ls (.inl j :: .inr (.inr (.inr c)) :: st) g μ Q = ((0 ≤ j ∧ j < mk_len E c) ∧ Wp E 153 431 ls (.inl (mk_int E c j.toNat) :: st) g μ Q) := Wp_aldK k153_430 hk
theorem k153_431 : mCode 153 431 = some (.aload_n 0, 1) := by decide +kernel
theorem x153_431 {E : ME} {ls : MLs} {st : List MV} {g : MG} {μ : MU} {Q : Option MV → MG → MU → Prop} {v : Nat ⊕ Nat} : Wp E 153 431 (some (.inr (.inr v)) :: ls) st g μ Q = Wp E 153 432 (some (.inr (.inr v)) :: ls) (.inr (.inr v) :: st) g μ Q := Wp_nx k153_431 rfl
theorem k153_432 : mCode 153 432 = some (.iload_n 3, 1) := by decide +kernel
theorem x153_432 {E : ME} {ls : MLs} {st : List MV} {g : MG} {μ : MU} {Q : Option MV → MG → MU → Prop} {l0 l1 l2 : Option MV} {v : Int} : Wp E 153 432 (l0 :: l1 :: l2 :: some (.inl v) :: ls) st g μ Q = Wp E 153 433 (l0 :: l1 :: l2 :: some (.inl v) :: ls) (.inl v :: st) g μ Q := Wp_nx k153_432 rfl
theorem k153_433 : mCode 153 433 = some (.iconst 2, 1) := by decide +kernel
theorem x153_433 {E : ME} {ls : MLs} {st : List MV} {g : MG} {μ : MU} {Q : Option MV → MG → MU → Prop} : Wp E 153 433 ls st g μ Q = Wp E 153 434 ls (.inl 2 :: st) g μ Q := Wp_nx k153_433 rfl
theorem k153_434 : mCode 153 434 = some (.iadd, 1) := by decide +kernel
theorem x153_434 {E : ME} {ls : MLs} {st : List MV} {g : MG} {μ : MU} {Q : Option MV → MG → MU → Prop} {a b : Int} : Wp E 153 434 ls (.inl b :: .inl a :: st) g μ Q = Wp E 153 435 ls (.inl (mWr (a + b)) :: st) g μ Q := Wp_nx k153_434 rfl
theorem k153_435 : mCode 153 435 = some (.iaload, 1) := by decide +kernel
theorem x153_435 {E : ME} {ls : MLs} {st : List MV} {g : MG} {μ : MU} {Q : Option MV → MG → MU → Prop} {a : Nat} {j : Int} : Wp E 153 435 ls (.inl j :: .inr (.inr (.inl a)) :: st) g μ Q = (((mKd g a).1 = 10 ∧ 0 ≤ j ∧ j < (mKd g a).2) ∧ Wp E 153 436 ls (.inl (μ a j.toNat) :: st) g μ Q) := Wp_ald k153_435 (fun _ => rfl)
theorem x153_435K {E : ME} {ls : MLs} {st : List MV} {g : MG} {μ : MU} {Q : Option MV → MG → MU → Prop} {c : Nat} {j : Int} (hk : mk_isI c = true) : Wp E 153 435 ls (.inl j :: .inr (.inr (.inr c)) :: st) g μ Q = ((0 ≤ j ∧ j < mk_len E c) ∧ Wp E 153 436 ls (.inl (mk_int E c j.toNat) :: st) g μ Q) := Wp_aldK k153_435 hk
theorem k153_436 : mCode 153 436 = some (.invokevirtual 48, 3) := by decide +kernel
theorem x153_436 {E : ME} {ls : MLs} {st : List MV} {g : MG} {μ : MU} {Q : Option MV → MG → MU → Prop} {r : Nat} {a0 : Int} {a1 : Int} : Wp E 153 436 ls (.inl a1 :: .inl a0 :: .inr (.inr (.inl r)) :: st) g μ Q = ((st.length ≤ 4 ∧ ((mKd g r).1 == 6) = true) ∧ Wp E 113 0 [some (.inr (.inr (.inl r))), some (.inl a0), some (.inl a1)] [] g μ (fun r g' μ' => (g'.1 = g.1 ∧ g'.2.1 = g.2.1) ∧ Wp E 153 439 ls (mPush r st) g' μ' Q)) := Wp_cV k153_436 m13_48 (by decide) (as := [.inr (.inr (.inl r)), .inl a0, .inl a1]) rfl rfl rfl ⟨Nat.le_of_ble_eq_true rfl, by decide⟩
theorem k153_439 : mCode 153 439 = some (.if_icmp .eq 410, 3) := by decide +kernel
theorem x153_439 {E : ME} {ls : MLs} {st : List MV} {g : MG} {μ : MU} {Q : Option MV → MG → MU → Prop} {a b : Int} : Wp E 153 439 ls (.inl b :: .inl a :: st) g μ Q = ((a = b → Wp E 153 849 ls st g μ Q) ∧ (¬ a = b → Wp E 153 442 ls st g μ Q)) := Wp_cmp_eq k153_439 (by decide)
theorem k153_442 : mCode 153 442 = some (.iconst 0, 1) := by decide +kernel
theorem x153_442 {E : ME} {ls : MLs} {st : List MV} {g : MG} {μ : MU} {Q : Option MV → MG → MU → Prop} : Wp E 153 442 ls st g μ Q = Wp E 153 443 ls (.inl 0 :: st) g μ Q := Wp_nx k153_442 rfl
theorem k153_443 : mCode 153 443 = some (.ireturn, 1) := by decide +kernel
theorem x153_443 {E : ME} {ls : MLs} {g : MG} {μ : MU} {Q : Option MV → MG → MU → Prop} {v : Int} : Wp E 153 443 ls [.inl v] g μ Q = ((v = 0 ∨ v = 1) ∧ Q (some (.inl v)) g μ) := Wp_retZ k153_443 (by decide)
theorem k153_444 : mCode 153 444 = some (.aload_n 1, 1) := by decide +kernel
theorem x153_444 {E : ME} {ls : MLs} {st : List MV} {g : MG} {μ : MU} {Q : Option MV → MG → MU → Prop} {l0 : Option MV} {v : Nat ⊕ Nat} : Wp E 153 444 (l0 :: some (.inr (.inr v)) :: ls) st g μ Q = Wp E 153 445 (l0 :: some (.inr (.inr v)) :: ls) (.inr (.inr v) :: st) g μ Q := Wp_nx k153_444 rfl
theorem k153_445 : mCode 153 445 = some (.aload_n 0, 1) := by decide +kernel
theorem x153_445 {E : ME} {ls : MLs} {st : List MV} {g : MG} {μ : MU} {Q : Option MV → MG → MU → Prop} {v : Nat ⊕ Nat} : Wp E 153 445 (some (.inr (.inr v)) :: ls) st g μ Q = Wp E 153 446 (some (.inr (.inr v)) :: ls) (.inr (.inr v) :: st) g μ Q := Wp_nx k153_445 rfl
theorem k153_446 : mCode 153 446 = some (.iload_n 3, 1) := by decide +kernel
theorem x153_446 {E : ME} {ls : MLs} {st : List MV} {g : MG} {μ : MU} {Q : Option MV → MG → MU → Prop} {l0 l1 l2 : Option MV} {v : Int} : Wp E 153 446 (l0 :: l1 :: l2 :: some (.inl v) :: ls) st g μ Q = Wp E 153 447 (l0 :: l1 :: l2 :: some (.inl v) :: ls) (.inl v :: st) g μ Q := Wp_nx k153_446 rfl
theorem k153_447 : mCode 153 447 = some (.iconst 1, 1) := by decide +kernel
theorem x153_447 {E : ME} {ls : MLs} {st : List MV} {g : MG} {μ : MU} {Q : Option MV → MG → MU → Prop} : Wp E 153 447 ls st g μ Q = Wp E 153 448 ls (.inl 1 :: st) g μ Q := Wp_nx k153_447 rfl
theorem k153_448 : mCode 153 448 = some (.iadd, 1) := by decide +kernel
theorem x153_448 {E : ME} {ls : MLs} {st : List MV} {g : MG} {μ : MU} {Q : Option MV → MG → MU → Prop} {a b : Int} : Wp E 153 448 ls (.inl b :: .inl a :: st) g μ Q = Wp E 153 449 ls (.inl (mWr (a + b)) :: st) g μ Q := Wp_nx k153_448 rfl
theorem k153_449 : mCode 153 449 = some (.iaload, 1) := by decide +kernel
theorem x153_449 {E : ME} {ls : MLs} {st : List MV} {g : MG} {μ : MU} {Q : Option MV → MG → MU → Prop} {a : Nat} {j : Int} : Wp E 153 449 ls (.inl j :: .inr (.inr (.inl a)) :: st) g μ Q = (((mKd g a).1 = 10 ∧ 0 ≤ j ∧ j < (mKd g a).2) ∧ Wp E 153 450 ls (.inl (μ a j.toNat) :: st) g μ Q) := Wp_ald k153_449 (fun _ => rfl)
theorem x153_449K {E : ME} {ls : MLs} {st : List MV} {g : MG} {μ : MU} {Q : Option MV → MG → MU → Prop} {c : Nat} {j : Int} (hk : mk_isI c = true) : Wp E 153 449 ls (.inl j :: .inr (.inr (.inr c)) :: st) g μ Q = ((0 ≤ j ∧ j < mk_len E c) ∧ Wp E 153 450 ls (.inl (mk_int E c j.toNat) :: st) g μ Q) := Wp_aldK k153_449 hk
theorem k153_450 : mCode 153 450 = some (.aload_n 0, 1) := by decide +kernel
theorem x153_450 {E : ME} {ls : MLs} {st : List MV} {g : MG} {μ : MU} {Q : Option MV → MG → MU → Prop} {v : Nat ⊕ Nat} : Wp E 153 450 (some (.inr (.inr v)) :: ls) st g μ Q = Wp E 153 451 (some (.inr (.inr v)) :: ls) (.inr (.inr v) :: st) g μ Q := Wp_nx k153_450 rfl
theorem k153_451 : mCode 153 451 = some (.iload_n 3, 1) := by decide +kernel
theorem x153_451 {E : ME} {ls : MLs} {st : List MV} {g : MG} {μ : MU} {Q : Option MV → MG → MU → Prop} {l0 l1 l2 : Option MV} {v : Int} : Wp E 153 451 (l0 :: l1 :: l2 :: some (.inl v) :: ls) st g μ Q = Wp E 153 452 (l0 :: l1 :: l2 :: some (.inl v) :: ls) (.inl v :: st) g μ Q := Wp_nx k153_451 rfl
theorem k153_452 : mCode 153 452 = some (.iconst 2, 1) := by decide +kernel
theorem x153_452 {E : ME} {ls : MLs} {st : List MV} {g : MG} {μ : MU} {Q : Option MV → MG → MU → Prop} : Wp E 153 452 ls st g μ Q = Wp E 153 453 ls (.inl 2 :: st) g μ Q := Wp_nx k153_452 rfl
theorem k153_453 : mCode 153 453 = some (.iadd, 1) := by decide +kernel
theorem x153_453 {E : ME} {ls : MLs} {st : List MV} {g : MG} {μ : MU} {Q : Option MV → MG → MU → Prop} {a b : Int} : Wp E 153 453 ls (.inl b :: .inl a :: st) g μ Q = Wp E 153 454 ls (.inl (mWr (a + b)) :: st) g μ Q := Wp_nx k153_453 rfl
theorem k153_454 : mCode 153 454 = some (.iaload, 1) := by decide +kernel
theorem x153_454 {E : ME} {ls : MLs} {st : List MV} {g : MG} {μ : MU} {Q : Option MV → MG → MU → Prop} {a : Nat} {j : Int} : Wp E 153 454 ls (.inl j :: .inr (.inr (.inl a)) :: st) g μ Q = (((mKd g a).1 = 10 ∧ 0 ≤ j ∧ j < (mKd g a).2) ∧ Wp E 153 455 ls (.inl (μ a j.toNat) :: st) g μ Q) := Wp_ald k153_454 (fun _ => rfl)
theorem x153_454K {E : ME} {ls : MLs} {st : List MV} {g : MG} {μ : MU} {Q : Option MV → MG → MU → Prop} {c : Nat} {j : Int} (hk : mk_isI c = true) : Wp E 153 454 ls (.inl j :: .inr (.inr (.inr c)) :: st) g μ Q = ((0 ≤ j ∧ j < mk_len E c) ∧ Wp E 153 455 ls (.inl (mk_int E c j.toNat) :: st) g μ Q) := Wp_aldK k153_454 hk
theorem k153_455 : mCode 153 455 = some (.invokevirtual 49, 3) := by decide +kernel
theorem x153_455 {E : ME} {ls : MLs} {st : List MV} {g : MG} {μ : MU} {Q : Option MV → MG → MU → Prop} {r : Nat} {a0 : Int} {a1 : Int} : Wp E 153 455 ls (.inl a1 :: .inl a0 :: .inr (.inr (.inl r)) :: st) g μ Q = ((st.length ≤ 4 ∧ ((mKd g r).1 == 5) = true) ∧ Wp E 49 0 [some (.inr (.inr (.inl r))), some (.inl a0), some (.inl a1)] [] g μ (fun r g' μ' => (g'.1 = g.1 ∧ g'.2.1 = g.2.1) ∧ Wp E 153 458 ls (mPush r st) g' μ' Q)) := Wp_cV k153_455 m13_49 (by decide) (as := [.inr (.inr (.inl r)), .inl a0, .inl a1]) rfl rfl rfl ⟨Nat.le_of_ble_eq_true rfl, by decide⟩
theorem k153_458 : mCode 153 458 = some (.aload_n 2, 1) := by decide +kernel
theorem x153_458 {E : ME} {ls : MLs} {st : List MV} {g : MG} {μ : MU} {Q : Option MV → MG → MU → Prop} {l0 l1 : Option MV} {v : Nat ⊕ Nat} : Wp E 153 458 (l0 :: l1 :: some (.inr (.inr v)) :: ls) st g μ Q = Wp E 153 459 (l0 :: l1 :: some (.inr (.inr v)) :: ls) (.inr (.inr v) :: st) g μ Q := Wp_nx k153_458 rfl
theorem k153_459 : mCode 153 459 = some (.aload_n 0, 1) := by decide +kernel
theorem x153_459 {E : ME} {ls : MLs} {st : List MV} {g : MG} {μ : MU} {Q : Option MV → MG → MU → Prop} {v : Nat ⊕ Nat} : Wp E 153 459 (some (.inr (.inr v)) :: ls) st g μ Q = Wp E 153 460 (some (.inr (.inr v)) :: ls) (.inr (.inr v) :: st) g μ Q := Wp_nx k153_459 rfl
theorem k153_460 : mCode 153 460 = some (.iload_n 3, 1) := by decide +kernel
theorem x153_460 {E : ME} {ls : MLs} {st : List MV} {g : MG} {μ : MU} {Q : Option MV → MG → MU → Prop} {l0 l1 l2 : Option MV} {v : Int} : Wp E 153 460 (l0 :: l1 :: l2 :: some (.inl v) :: ls) st g μ Q = Wp E 153 461 (l0 :: l1 :: l2 :: some (.inl v) :: ls) (.inl v :: st) g μ Q := Wp_nx k153_460 rfl
theorem k153_461 : mCode 153 461 = some (.iconst 1, 1) := by decide +kernel
theorem x153_461 {E : ME} {ls : MLs} {st : List MV} {g : MG} {μ : MU} {Q : Option MV → MG → MU → Prop} : Wp E 153 461 ls st g μ Q = Wp E 153 462 ls (.inl 1 :: st) g μ Q := Wp_nx k153_461 rfl
theorem k153_462 : mCode 153 462 = some (.iadd, 1) := by decide +kernel
theorem x153_462 {E : ME} {ls : MLs} {st : List MV} {g : MG} {μ : MU} {Q : Option MV → MG → MU → Prop} {a b : Int} : Wp E 153 462 ls (.inl b :: .inl a :: st) g μ Q = Wp E 153 463 ls (.inl (mWr (a + b)) :: st) g μ Q := Wp_nx k153_462 rfl
theorem k153_463 : mCode 153 463 = some (.iaload, 1) := by decide +kernel
theorem x153_463 {E : ME} {ls : MLs} {st : List MV} {g : MG} {μ : MU} {Q : Option MV → MG → MU → Prop} {a : Nat} {j : Int} : Wp E 153 463 ls (.inl j :: .inr (.inr (.inl a)) :: st) g μ Q = (((mKd g a).1 = 10 ∧ 0 ≤ j ∧ j < (mKd g a).2) ∧ Wp E 153 464 ls (.inl (μ a j.toNat) :: st) g μ Q) := Wp_ald k153_463 (fun _ => rfl)
theorem x153_463K {E : ME} {ls : MLs} {st : List MV} {g : MG} {μ : MU} {Q : Option MV → MG → MU → Prop} {c : Nat} {j : Int} (hk : mk_isI c = true) : Wp E 153 463 ls (.inl j :: .inr (.inr (.inr c)) :: st) g μ Q = ((0 ≤ j ∧ j < mk_len E c) ∧ Wp E 153 464 ls (.inl (mk_int E c j.toNat) :: st) g μ Q) := Wp_aldK k153_463 hk
theorem k153_464 : mCode 153 464 = some (.aload_n 0, 1) := by decide +kernel
theorem x153_464 {E : ME} {ls : MLs} {st : List MV} {g : MG} {μ : MU} {Q : Option MV → MG → MU → Prop} {v : Nat ⊕ Nat} : Wp E 153 464 (some (.inr (.inr v)) :: ls) st g μ Q = Wp E 153 465 (some (.inr (.inr v)) :: ls) (.inr (.inr v) :: st) g μ Q := Wp_nx k153_464 rfl
theorem k153_465 : mCode 153 465 = some (.iload_n 3, 1) := by decide +kernel
theorem x153_465 {E : ME} {ls : MLs} {st : List MV} {g : MG} {μ : MU} {Q : Option MV → MG → MU → Prop} {l0 l1 l2 : Option MV} {v : Int} : Wp E 153 465 (l0 :: l1 :: l2 :: some (.inl v) :: ls) st g μ Q = Wp E 153 466 (l0 :: l1 :: l2 :: some (.inl v) :: ls) (.inl v :: st) g μ Q := Wp_nx k153_465 rfl
theorem k153_466 : mCode 153 466 = some (.iconst 2, 1) := by decide +kernel
theorem x153_466 {E : ME} {ls : MLs} {st : List MV} {g : MG} {μ : MU} {Q : Option MV → MG → MU → Prop} : Wp E 153 466 ls st g μ Q = Wp E 153 467 ls (.inl 2 :: st) g μ Q := Wp_nx k153_466 rfl
theorem k153_467 : mCode 153 467 = some (.iadd, 1) := by decide +kernel
theorem x153_467 {E : ME} {ls : MLs} {st : List MV} {g : MG} {μ : MU} {Q : Option MV → MG → MU → Prop} {a b : Int} : Wp E 153 467 ls (.inl b :: .inl a :: st) g μ Q = Wp E 153 468 ls (.inl (mWr (a + b)) :: st) g μ Q := Wp_nx k153_467 rfl
theorem k153_468 : mCode 153 468 = some (.iaload, 1) := by decide +kernel
theorem x153_468 {E : ME} {ls : MLs} {st : List MV} {g : MG} {μ : MU} {Q : Option MV → MG → MU → Prop} {a : Nat} {j : Int} : Wp E 153 468 ls (.inl j :: .inr (.inr (.inl a)) :: st) g μ Q = (((mKd g a).1 = 10 ∧ 0 ≤ j ∧ j < (mKd g a).2) ∧ Wp E 153 469 ls (.inl (μ a j.toNat) :: st) g μ Q) := Wp_ald k153_468 (fun _ => rfl)
theorem x153_468K {E : ME} {ls : MLs} {st : List MV} {g : MG} {μ : MU} {Q : Option MV → MG → MU → Prop} {c : Nat} {j : Int} (hk : mk_isI c = true) : Wp E 153 468 ls (.inl j :: .inr (.inr (.inr c)) :: st) g μ Q = ((0 ≤ j ∧ j < mk_len E c) ∧ Wp E 153 469 ls (.inl (mk_int E c j.toNat) :: st) g μ Q) := Wp_aldK k153_468 hk
theorem k153_469 : mCode 153 469 = some (.invokevirtual 52, 3) := by decide +kernel
theorem x153_469 {E : ME} {ls : MLs} {st : List MV} {g : MG} {μ : MU} {Q : Option MV → MG → MU → Prop} {r : Nat} {a0 : Int} {a1 : Int} : Wp E 153 469 ls (.inl a1 :: .inl a0 :: .inr (.inr (.inl r)) :: st) g μ Q = ((st.length ≤ 4 ∧ ((mKd g r).1 == 6) = true) ∧ Wp E 115 0 [some (.inr (.inr (.inl r))), some (.inl a0), some (.inl a1)] [] g μ (fun r g' μ' => (g'.1 = g.1 ∧ g'.2.1 = g.2.1) ∧ Wp E 153 472 ls (mPush r st) g' μ' Q)) := Wp_cV k153_469 m13_52 (by decide) (as := [.inr (.inr (.inl r)), .inl a0, .inl a1]) rfl rfl rfl ⟨Nat.le_of_ble_eq_true rfl, by decide⟩
theorem k153_472 : mCode 153 472 = some (.if_icmp .eq 377, 3) := by decide +kernel
theorem x153_472 {E : ME} {ls : MLs} {st : List MV} {g : MG} {μ : MU} {Q : Option MV → MG → MU → Prop} {a b : Int} : Wp E 153 472 ls (.inl b :: .inl a :: st) g μ Q = ((a = b → Wp E 153 849 ls st g μ Q) ∧ (¬ a = b → Wp E 153 475 ls st g μ Q)) := Wp_cmp_eq k153_472 (by decide)
theorem k153_475 : mCode 153 475 = some (.iconst 0, 1) := by decide +kernel
theorem x153_475 {E : ME} {ls : MLs} {st : List MV} {g : MG} {μ : MU} {Q : Option MV → MG → MU → Prop} : Wp E 153 475 ls st g μ Q = Wp E 153 476 ls (.inl 0 :: st) g μ Q := Wp_nx k153_475 rfl
theorem k153_476 : mCode 153 476 = some (.ireturn, 1) := by decide +kernel
theorem x153_476 {E : ME} {ls : MLs} {g : MG} {μ : MU} {Q : Option MV → MG → MU → Prop} {v : Int} : Wp E 153 476 ls [.inl v] g μ Q = ((v = 0 ∨ v = 1) ∧ Q (some (.inl v)) g μ) := Wp_retZ k153_476 (by decide)
theorem k153_477 : mCode 153 477 = some (.aload_n 1, 1) := by decide +kernel
theorem x153_477 {E : ME} {ls : MLs} {st : List MV} {g : MG} {μ : MU} {Q : Option MV → MG → MU → Prop} {l0 : Option MV} {v : Nat ⊕ Nat} : Wp E 153 477 (l0 :: some (.inr (.inr v)) :: ls) st g μ Q = Wp E 153 478 (l0 :: some (.inr (.inr v)) :: ls) (.inr (.inr v) :: st) g μ Q := Wp_nx k153_477 rfl
theorem k153_478 : mCode 153 478 = some (.aload_n 0, 1) := by decide +kernel
theorem x153_478 {E : ME} {ls : MLs} {st : List MV} {g : MG} {μ : MU} {Q : Option MV → MG → MU → Prop} {v : Nat ⊕ Nat} : Wp E 153 478 (some (.inr (.inr v)) :: ls) st g μ Q = Wp E 153 479 (some (.inr (.inr v)) :: ls) (.inr (.inr v) :: st) g μ Q := Wp_nx k153_478 rfl
theorem k153_479 : mCode 153 479 = some (.iload_n 3, 1) := by decide +kernel
theorem x153_479 {E : ME} {ls : MLs} {st : List MV} {g : MG} {μ : MU} {Q : Option MV → MG → MU → Prop} {l0 l1 l2 : Option MV} {v : Int} : Wp E 153 479 (l0 :: l1 :: l2 :: some (.inl v) :: ls) st g μ Q = Wp E 153 480 (l0 :: l1 :: l2 :: some (.inl v) :: ls) (.inl v :: st) g μ Q := Wp_nx k153_479 rfl
theorem k153_480 : mCode 153 480 = some (.iconst 1, 1) := by decide +kernel
theorem x153_480 {E : ME} {ls : MLs} {st : List MV} {g : MG} {μ : MU} {Q : Option MV → MG → MU → Prop} : Wp E 153 480 ls st g μ Q = Wp E 153 481 ls (.inl 1 :: st) g μ Q := Wp_nx k153_480 rfl
theorem k153_481 : mCode 153 481 = some (.iadd, 1) := by decide +kernel
theorem x153_481 {E : ME} {ls : MLs} {st : List MV} {g : MG} {μ : MU} {Q : Option MV → MG → MU → Prop} {a b : Int} : Wp E 153 481 ls (.inl b :: .inl a :: st) g μ Q = Wp E 153 482 ls (.inl (mWr (a + b)) :: st) g μ Q := Wp_nx k153_481 rfl
theorem k153_482 : mCode 153 482 = some (.iaload, 1) := by decide +kernel
theorem x153_482 {E : ME} {ls : MLs} {st : List MV} {g : MG} {μ : MU} {Q : Option MV → MG → MU → Prop} {a : Nat} {j : Int} : Wp E 153 482 ls (.inl j :: .inr (.inr (.inl a)) :: st) g μ Q = (((mKd g a).1 = 10 ∧ 0 ≤ j ∧ j < (mKd g a).2) ∧ Wp E 153 483 ls (.inl (μ a j.toNat) :: st) g μ Q) := Wp_ald k153_482 (fun _ => rfl)
theorem x153_482K {E : ME} {ls : MLs} {st : List MV} {g : MG} {μ : MU} {Q : Option MV → MG → MU → Prop} {c : Nat} {j : Int} (hk : mk_isI c = true) : Wp E 153 482 ls (.inl j :: .inr (.inr (.inr c)) :: st) g μ Q = ((0 ≤ j ∧ j < mk_len E c) ∧ Wp E 153 483 ls (.inl (mk_int E c j.toNat) :: st) g μ Q) := Wp_aldK k153_482 hk
theorem k153_483 : mCode 153 483 = some (.aload_n 0, 1) := by decide +kernel
theorem x153_483 {E : ME} {ls : MLs} {st : List MV} {g : MG} {μ : MU} {Q : Option MV → MG → MU → Prop} {v : Nat ⊕ Nat} : Wp E 153 483 (some (.inr (.inr v)) :: ls) st g μ Q = Wp E 153 484 (some (.inr (.inr v)) :: ls) (.inr (.inr v) :: st) g μ Q := Wp_nx k153_483 rfl
theorem k153_484 : mCode 153 484 = some (.iload_n 3, 1) := by decide +kernel
theorem x153_484 {E : ME} {ls : MLs} {st : List MV} {g : MG} {μ : MU} {Q : Option MV → MG → MU → Prop} {l0 l1 l2 : Option MV} {v : Int} : Wp E 153 484 (l0 :: l1 :: l2 :: some (.inl v) :: ls) st g μ Q = Wp E 153 485 (l0 :: l1 :: l2 :: some (.inl v) :: ls) (.inl v :: st) g μ Q := Wp_nx k153_484 rfl
theorem k153_485 : mCode 153 485 = some (.iconst 2, 1) := by decide +kernel
theorem x153_485 {E : ME} {ls : MLs} {st : List MV} {g : MG} {μ : MU} {Q : Option MV → MG → MU → Prop} : Wp E 153 485 ls st g μ Q = Wp E 153 486 ls (.inl 2 :: st) g μ Q := Wp_nx k153_485 rfl
theorem k153_486 : mCode 153 486 = some (.iadd, 1) := by decide +kernel
theorem x153_486 {E : ME} {ls : MLs} {st : List MV} {g : MG} {μ : MU} {Q : Option MV → MG → MU → Prop} {a b : Int} : Wp E 153 486 ls (.inl b :: .inl a :: st) g μ Q = Wp E 153 487 ls (.inl (mWr (a + b)) :: st) g μ Q := Wp_nx k153_486 rfl
theorem k153_487 : mCode 153 487 = some (.iaload, 1) := by decide +kernel
theorem x153_487 {E : ME} {ls : MLs} {st : List MV} {g : MG} {μ : MU} {Q : Option MV → MG → MU → Prop} {a : Nat} {j : Int} : Wp E 153 487 ls (.inl j :: .inr (.inr (.inl a)) :: st) g μ Q = (((mKd g a).1 = 10 ∧ 0 ≤ j ∧ j < (mKd g a).2) ∧ Wp E 153 488 ls (.inl (μ a j.toNat) :: st) g μ Q) := Wp_ald k153_487 (fun _ => rfl)
theorem x153_487K {E : ME} {ls : MLs} {st : List MV} {g : MG} {μ : MU} {Q : Option MV → MG → MU → Prop} {c : Nat} {j : Int} (hk : mk_isI c = true) : Wp E 153 487 ls (.inl j :: .inr (.inr (.inr c)) :: st) g μ Q = ((0 ≤ j ∧ j < mk_len E c) ∧ Wp E 153 488 ls (.inl (mk_int E c j.toNat) :: st) g μ Q) := Wp_aldK k153_487 hk
theorem k153_488 : mCode 153 488 = some (.invokevirtual 53, 3) := by decide +kernel
theorem x153_488 {E : ME} {ls : MLs} {st : List MV} {g : MG} {μ : MU} {Q : Option MV → MG → MU → Prop} {r : Nat} {a0 : Int} {a1 : Int} : Wp E 153 488 ls (.inl a1 :: .inl a0 :: .inr (.inr (.inl r)) :: st) g μ Q = ((st.length ≤ 4 ∧ ((mKd g r).1 == 5) = true) ∧ Wp E 50 0 [some (.inr (.inr (.inl r))), some (.inl a0), some (.inl a1)] [] g μ (fun r g' μ' => (g'.1 = g.1 ∧ g'.2.1 = g.2.1) ∧ Wp E 153 491 ls (mPush r st) g' μ' Q)) := Wp_cV k153_488 m13_53 (by decide) (as := [.inr (.inr (.inl r)), .inl a0, .inl a1]) rfl rfl rfl ⟨Nat.le_of_ble_eq_true rfl, by decide⟩
theorem k153_491 : mCode 153 491 = some (.aload_n 2, 1) := by decide +kernel
theorem x153_491 {E : ME} {ls : MLs} {st : List MV} {g : MG} {μ : MU} {Q : Option MV → MG → MU → Prop} {l0 l1 : Option MV} {v : Nat ⊕ Nat} : Wp E 153 491 (l0 :: l1 :: some (.inr (.inr v)) :: ls) st g μ Q = Wp E 153 492 (l0 :: l1 :: some (.inr (.inr v)) :: ls) (.inr (.inr v) :: st) g μ Q := Wp_nx k153_491 rfl
theorem k153_492 : mCode 153 492 = some (.aload_n 0, 1) := by decide +kernel
theorem x153_492 {E : ME} {ls : MLs} {st : List MV} {g : MG} {μ : MU} {Q : Option MV → MG → MU → Prop} {v : Nat ⊕ Nat} : Wp E 153 492 (some (.inr (.inr v)) :: ls) st g μ Q = Wp E 153 493 (some (.inr (.inr v)) :: ls) (.inr (.inr v) :: st) g μ Q := Wp_nx k153_492 rfl
theorem k153_493 : mCode 153 493 = some (.iload_n 3, 1) := by decide +kernel
theorem x153_493 {E : ME} {ls : MLs} {st : List MV} {g : MG} {μ : MU} {Q : Option MV → MG → MU → Prop} {l0 l1 l2 : Option MV} {v : Int} : Wp E 153 493 (l0 :: l1 :: l2 :: some (.inl v) :: ls) st g μ Q = Wp E 153 494 (l0 :: l1 :: l2 :: some (.inl v) :: ls) (.inl v :: st) g μ Q := Wp_nx k153_493 rfl
theorem k153_494 : mCode 153 494 = some (.iconst 1, 1) := by decide +kernel
theorem x153_494 {E : ME} {ls : MLs} {st : List MV} {g : MG} {μ : MU} {Q : Option MV → MG → MU → Prop} : Wp E 153 494 ls st g μ Q = Wp E 153 495 ls (.inl 1 :: st) g μ Q := Wp_nx k153_494 rfl
theorem k153_495 : mCode 153 495 = some (.iadd, 1) := by decide +kernel
theorem x153_495 {E : ME} {ls : MLs} {st : List MV} {g : MG} {μ : MU} {Q : Option MV → MG → MU → Prop} {a b : Int} : Wp E 153 495 ls (.inl b :: .inl a :: st) g μ Q = Wp E 153 496 ls (.inl (mWr (a + b)) :: st) g μ Q := Wp_nx k153_495 rfl
theorem k153_496 : mCode 153 496 = some (.iaload, 1) := by decide +kernel
theorem x153_496 {E : ME} {ls : MLs} {st : List MV} {g : MG} {μ : MU} {Q : Option MV → MG → MU → Prop} {a : Nat} {j : Int} : Wp E 153 496 ls (.inl j :: .inr (.inr (.inl a)) :: st) g μ Q = (((mKd g a).1 = 10 ∧ 0 ≤ j ∧ j < (mKd g a).2) ∧ Wp E 153 497 ls (.inl (μ a j.toNat) :: st) g μ Q) := Wp_ald k153_496 (fun _ => rfl)
theorem x153_496K {E : ME} {ls : MLs} {st : List MV} {g : MG} {μ : MU} {Q : Option MV → MG → MU → Prop} {c : Nat} {j : Int} (hk : mk_isI c = true) : Wp E 153 496 ls (.inl j :: .inr (.inr (.inr c)) :: st) g μ Q = ((0 ≤ j ∧ j < mk_len E c) ∧ Wp E 153 497 ls (.inl (mk_int E c j.toNat) :: st) g μ Q) := Wp_aldK k153_496 hk
theorem k153_497 : mCode 153 497 = some (.aload_n 0, 1) := by decide +kernel
theorem x153_497 {E : ME} {ls : MLs} {st : List MV} {g : MG} {μ : MU} {Q : Option MV → MG → MU → Prop} {v : Nat ⊕ Nat} : Wp E 153 497 (some (.inr (.inr v)) :: ls) st g μ Q = Wp E 153 498 (some (.inr (.inr v)) :: ls) (.inr (.inr v) :: st) g μ Q := Wp_nx k153_497 rfl
theorem k153_498 : mCode 153 498 = some (.iload_n 3, 1) := by decide +kernel
theorem x153_498 {E : ME} {ls : MLs} {st : List MV} {g : MG} {μ : MU} {Q : Option MV → MG → MU → Prop} {l0 l1 l2 : Option MV} {v : Int} : Wp E 153 498 (l0 :: l1 :: l2 :: some (.inl v) :: ls) st g μ Q = Wp E 153 499 (l0 :: l1 :: l2 :: some (.inl v) :: ls) (.inl v :: st) g μ Q := Wp_nx k153_498 rfl
theorem k153_499 : mCode 153 499 = some (.iconst 2, 1) := by decide +kernel
theorem x153_499 {E : ME} {ls : MLs} {st : List MV} {g : MG} {μ : MU} {Q : Option MV → MG → MU → Prop} : Wp E 153 499 ls st g μ Q = Wp E 153 500 ls (.inl 2 :: st) g μ Q := Wp_nx k153_499 rfl
theorem k153_500 : mCode 153 500 = some (.iadd, 1) := by decide +kernel
theorem x153_500 {E : ME} {ls : MLs} {st : List MV} {g : MG} {μ : MU} {Q : Option MV → MG → MU → Prop} {a b : Int} : Wp E 153 500 ls (.inl b :: .inl a :: st) g μ Q = Wp E 153 501 ls (.inl (mWr (a + b)) :: st) g μ Q := Wp_nx k153_500 rfl
theorem k153_501 : mCode 153 501 = some (.iaload, 1) := by decide +kernel
theorem x153_501 {E : ME} {ls : MLs} {st : List MV} {g : MG} {μ : MU} {Q : Option MV → MG → MU → Prop} {a : Nat} {j : Int} : Wp E 153 501 ls (.inl j :: .inr (.inr (.inl a)) :: st) g μ Q = (((mKd g a).1 = 10 ∧ 0 ≤ j ∧ j < (mKd g a).2) ∧ Wp E 153 502 ls (.inl (μ a j.toNat) :: st) g μ Q) := Wp_ald k153_501 (fun _ => rfl)
theorem x153_501K {E : ME} {ls : MLs} {st : List MV} {g : MG} {μ : MU} {Q : Option MV → MG → MU → Prop} {c : Nat} {j : Int} (hk : mk_isI c = true) : Wp E 153 501 ls (.inl j :: .inr (.inr (.inr c)) :: st) g μ Q = ((0 ≤ j ∧ j < mk_len E c) ∧ Wp E 153 502 ls (.inl (mk_int E c j.toNat) :: st) g μ Q) := Wp_aldK k153_501 hk
theorem k153_502 : mCode 153 502 = some (.invokevirtual 56, 3) := by decide +kernel
theorem x153_502 {E : ME} {ls : MLs} {st : List MV} {g : MG} {μ : MU} {Q : Option MV → MG → MU → Prop} {r : Nat} {a0 : Int} {a1 : Int} : Wp E 153 502 ls (.inl a1 :: .inl a0 :: .inr (.inr (.inl r)) :: st) g μ Q = ((st.length ≤ 4 ∧ ((mKd g r).1 == 6) = true) ∧ Wp E 116 0 [some (.inr (.inr (.inl r))), some (.inl a0), some (.inl a1)] [] g μ (fun r g' μ' => (g'.1 = g.1 ∧ g'.2.1 = g.2.1) ∧ Wp E 153 505 ls (mPush r st) g' μ' Q)) := Wp_cV k153_502 m13_56 (by decide) (as := [.inr (.inr (.inl r)), .inl a0, .inl a1]) rfl rfl rfl ⟨Nat.le_of_ble_eq_true rfl, by decide⟩
theorem k153_505 : mCode 153 505 = some (.if_icmp .eq 344, 3) := by decide +kernel
theorem x153_505 {E : ME} {ls : MLs} {st : List MV} {g : MG} {μ : MU} {Q : Option MV → MG → MU → Prop} {a b : Int} : Wp E 153 505 ls (.inl b :: .inl a :: st) g μ Q = ((a = b → Wp E 153 849 ls st g μ Q) ∧ (¬ a = b → Wp E 153 508 ls st g μ Q)) := Wp_cmp_eq k153_505 (by decide)
theorem k153_508 : mCode 153 508 = some (.iconst 0, 1) := by decide +kernel
theorem x153_508 {E : ME} {ls : MLs} {st : List MV} {g : MG} {μ : MU} {Q : Option MV → MG → MU → Prop} : Wp E 153 508 ls st g μ Q = Wp E 153 509 ls (.inl 0 :: st) g μ Q := Wp_nx k153_508 rfl
theorem k153_509 : mCode 153 509 = some (.ireturn, 1) := by decide +kernel
theorem x153_509 {E : ME} {ls : MLs} {g : MG} {μ : MU} {Q : Option MV → MG → MU → Prop} {v : Int} : Wp E 153 509 ls [.inl v] g μ Q = ((v = 0 ∨ v = 1) ∧ Q (some (.inl v)) g μ) := Wp_retZ k153_509 (by decide)
theorem k153_510 : mCode 153 510 = some (.aload_n 1, 1) := by decide +kernel
theorem x153_510 {E : ME} {ls : MLs} {st : List MV} {g : MG} {μ : MU} {Q : Option MV → MG → MU → Prop} {l0 : Option MV} {v : Nat ⊕ Nat} : Wp E 153 510 (l0 :: some (.inr (.inr v)) :: ls) st g μ Q = Wp E 153 511 (l0 :: some (.inr (.inr v)) :: ls) (.inr (.inr v) :: st) g μ Q := Wp_nx k153_510 rfl
theorem k153_511 : mCode 153 511 = some (.aload_n 0, 1) := by decide +kernel
theorem x153_511 {E : ME} {ls : MLs} {st : List MV} {g : MG} {μ : MU} {Q : Option MV → MG → MU → Prop} {v : Nat ⊕ Nat} : Wp E 153 511 (some (.inr (.inr v)) :: ls) st g μ Q = Wp E 153 512 (some (.inr (.inr v)) :: ls) (.inr (.inr v) :: st) g μ Q := Wp_nx k153_511 rfl
theorem k153_512 : mCode 153 512 = some (.iload_n 3, 1) := by decide +kernel
theorem x153_512 {E : ME} {ls : MLs} {st : List MV} {g : MG} {μ : MU} {Q : Option MV → MG → MU → Prop} {l0 l1 l2 : Option MV} {v : Int} : Wp E 153 512 (l0 :: l1 :: l2 :: some (.inl v) :: ls) st g μ Q = Wp E 153 513 (l0 :: l1 :: l2 :: some (.inl v) :: ls) (.inl v :: st) g μ Q := Wp_nx k153_512 rfl
theorem k153_513 : mCode 153 513 = some (.iconst 1, 1) := by decide +kernel
theorem x153_513 {E : ME} {ls : MLs} {st : List MV} {g : MG} {μ : MU} {Q : Option MV → MG → MU → Prop} : Wp E 153 513 ls st g μ Q = Wp E 153 514 ls (.inl 1 :: st) g μ Q := Wp_nx k153_513 rfl
theorem k153_514 : mCode 153 514 = some (.iadd, 1) := by decide +kernel
theorem x153_514 {E : ME} {ls : MLs} {st : List MV} {g : MG} {μ : MU} {Q : Option MV → MG → MU → Prop} {a b : Int} : Wp E 153 514 ls (.inl b :: .inl a :: st) g μ Q = Wp E 153 515 ls (.inl (mWr (a + b)) :: st) g μ Q := Wp_nx k153_514 rfl
theorem k153_515 : mCode 153 515 = some (.iaload, 1) := by decide +kernel
theorem x153_515 {E : ME} {ls : MLs} {st : List MV} {g : MG} {μ : MU} {Q : Option MV → MG → MU → Prop} {a : Nat} {j : Int} : Wp E 153 515 ls (.inl j :: .inr (.inr (.inl a)) :: st) g μ Q = (((mKd g a).1 = 10 ∧ 0 ≤ j ∧ j < (mKd g a).2) ∧ Wp E 153 516 ls (.inl (μ a j.toNat) :: st) g μ Q) := Wp_ald k153_515 (fun _ => rfl)
theorem x153_515K {E : ME} {ls : MLs} {st : List MV} {g : MG} {μ : MU} {Q : Option MV → MG → MU → Prop} {c : Nat} {j : Int} (hk : mk_isI c = true) : Wp E 153 515 ls (.inl j :: .inr (.inr (.inr c)) :: st) g μ Q = ((0 ≤ j ∧ j < mk_len E c) ∧ Wp E 153 516 ls (.inl (mk_int E c j.toNat) :: st) g μ Q) := Wp_aldK k153_515 hk
theorem k153_516 : mCode 153 516 = some (.aload_n 0, 1) := by decide +kernel
theorem x153_516 {E : ME} {ls : MLs} {st : List MV} {g : MG} {μ : MU} {Q : Option MV → MG → MU → Prop} {v : Nat ⊕ Nat} : Wp E 153 516 (some (.inr (.inr v)) :: ls) st g μ Q = Wp E 153 517 (some (.inr (.inr v)) :: ls) (.inr (.inr v) :: st) g μ Q := Wp_nx k153_516 rfl
theorem k153_517 : mCode 153 517 = some (.iload_n 3, 1) := by decide +kernel
theorem x153_517 {E : ME} {ls : MLs} {st : List MV} {g : MG} {μ : MU} {Q : Option MV → MG → MU → Prop} {l0 l1 l2 : Option MV} {v : Int} : Wp E 153 517 (l0 :: l1 :: l2 :: some (.inl v) :: ls) st g μ Q = Wp E 153 518 (l0 :: l1 :: l2 :: some (.inl v) :: ls) (.inl v :: st) g μ Q := Wp_nx k153_517 rfl
theorem k153_518 : mCode 153 518 = some (.iconst 2, 1) := by decide +kernel
theorem x153_518 {E : ME} {ls : MLs} {st : List MV} {g : MG} {μ : MU} {Q : Option MV → MG → MU → Prop} : Wp E 153 518 ls st g μ Q = Wp E 153 519 ls (.inl 2 :: st) g μ Q := Wp_nx k153_518 rfl
theorem k153_519 : mCode 153 519 = some (.iadd, 1) := by decide +kernel
theorem x153_519 {E : ME} {ls : MLs} {st : List MV} {g : MG} {μ : MU} {Q : Option MV → MG → MU → Prop} {a b : Int} : Wp E 153 519 ls (.inl b :: .inl a :: st) g μ Q = Wp E 153 520 ls (.inl (mWr (a + b)) :: st) g μ Q := Wp_nx k153_519 rfl
theorem k153_520 : mCode 153 520 = some (.iaload, 1) := by decide +kernel
theorem x153_520 {E : ME} {ls : MLs} {st : List MV} {g : MG} {μ : MU} {Q : Option MV → MG → MU → Prop} {a : Nat} {j : Int} : Wp E 153 520 ls (.inl j :: .inr (.inr (.inl a)) :: st) g μ Q = (((mKd g a).1 = 10 ∧ 0 ≤ j ∧ j < (mKd g a).2) ∧ Wp E 153 521 ls (.inl (μ a j.toNat) :: st) g μ Q) := Wp_ald k153_520 (fun _ => rfl)
theorem x153_520K {E : ME} {ls : MLs} {st : List MV} {g : MG} {μ : MU} {Q : Option MV → MG → MU → Prop} {c : Nat} {j : Int} (hk : mk_isI c = true) : Wp E 153 520 ls (.inl j :: .inr (.inr (.inr c)) :: st) g μ Q = ((0 ≤ j ∧ j < mk_len E c) ∧ Wp E 153 521 ls (.inl (mk_int E c j.toNat) :: st) g μ Q) := Wp_aldK k153_520 hk
theorem k153_521 : mCode 153 521 = some (.aload_n 0, 1) := by decide +kernel
theorem x153_521 {E : ME} {ls : MLs} {st : List MV} {g : MG} {μ : MU} {Q : Option MV → MG → MU → Prop} {v : Nat ⊕ Nat} : Wp E 153 521 (some (.inr (.inr v)) :: ls) st g μ Q = Wp E 153 522 (some (.inr (.inr v)) :: ls) (.inr (.inr v) :: st) g μ Q := Wp_nx k153_521 rfl
theorem k153_522 : mCode 153 522 = some (.iload_n 3, 1) := by decide +kernel
theorem x153_522 {E : ME} {ls : MLs} {st : List MV} {g : MG} {μ : MU} {Q : Option MV → MG → MU → Prop} {l0 l1 l2 : Option MV} {v : Int} : Wp E 153 522 (l0 :: l1 :: l2 :: some (.inl v) :: ls) st g μ Q = Wp E 153 523 (l0 :: l1 :: l2 :: some (.inl v) :: ls) (.inl v :: st) g μ Q := Wp_nx k153_522 rfl
theorem k153_523 : mCode 153 523 = some (.iconst 3, 1) := by decide +kernel
theorem x153_523 {E : ME} {ls : MLs} {st : List MV} {g : MG} {μ : MU} {Q : Option MV → MG → MU → Prop} : Wp E 153 523 ls st g μ Q = Wp E 153 524 ls (.inl 3 :: st) g μ Q := Wp_nx k153_523 rfl
theorem k153_524 : mCode 153 524 = some (.iadd, 1) := by decide +kernel
theorem x153_524 {E : ME} {ls : MLs} {st : List MV} {g : MG} {μ : MU} {Q : Option MV → MG → MU → Prop} {a b : Int} : Wp E 153 524 ls (.inl b :: .inl a :: st) g μ Q = Wp E 153 525 ls (.inl (mWr (a + b)) :: st) g μ Q := Wp_nx k153_524 rfl
theorem k153_525 : mCode 153 525 = some (.iaload, 1) := by decide +kernel
theorem x153_525 {E : ME} {ls : MLs} {st : List MV} {g : MG} {μ : MU} {Q : Option MV → MG → MU → Prop} {a : Nat} {j : Int} : Wp E 153 525 ls (.inl j :: .inr (.inr (.inl a)) :: st) g μ Q = (((mKd g a).1 = 10 ∧ 0 ≤ j ∧ j < (mKd g a).2) ∧ Wp E 153 526 ls (.inl (μ a j.toNat) :: st) g μ Q) := Wp_ald k153_525 (fun _ => rfl)
theorem x153_525K {E : ME} {ls : MLs} {st : List MV} {g : MG} {μ : MU} {Q : Option MV → MG → MU → Prop} {c : Nat} {j : Int} (hk : mk_isI c = true) : Wp E 153 525 ls (.inl j :: .inr (.inr (.inr c)) :: st) g μ Q = ((0 ≤ j ∧ j < mk_len E c) ∧ Wp E 153 526 ls (.inl (mk_int E c j.toNat) :: st) g μ Q) := Wp_aldK k153_525 hk
theorem k153_526 : mCode 153 526 = some (.invokevirtual 57, 3) := by decide +kernel
theorem x153_526 {E : ME} {ls : MLs} {st : List MV} {g : MG} {μ : MU} {Q : Option MV → MG → MU → Prop} {r : Nat} {a0 : Int} {a1 : Int} {a2 : Int} : Wp E 153 526 ls (.inl a2 :: .inl a1 :: .inl a0 :: .inr (.inr (.inl r)) :: st) g μ Q = ((st.length ≤ 4 ∧ ((mKd g r).1 == 5) = true) ∧ Wp E 51 0 [some (.inr (.inr (.inl r))), some (.inl a0), some (.inl a1), some (.inl a2)] [] g μ (fun r g' μ' => (g'.1 = g.1 ∧ g'.2.1 = g.2.1) ∧ Wp E 153 529 ls (mPush r st) g' μ' Q)) := Wp_cV k153_526 m13_57 (by decide) (as := [.inr (.inr (.inl r)), .inl a0, .inl a1, .inl a2]) rfl rfl rfl ⟨Nat.le_of_ble_eq_true rfl, by decide⟩
theorem k153_529 : mCode 153 529 = some (.aload_n 2, 1) := by decide +kernel
theorem x153_529 {E : ME} {ls : MLs} {st : List MV} {g : MG} {μ : MU} {Q : Option MV → MG → MU → Prop} {l0 l1 : Option MV} {v : Nat ⊕ Nat} : Wp E 153 529 (l0 :: l1 :: some (.inr (.inr v)) :: ls) st g μ Q = Wp E 153 530 (l0 :: l1 :: some (.inr (.inr v)) :: ls) (.inr (.inr v) :: st) g μ Q := Wp_nx k153_529 rfl
theorem k153_530 : mCode 153 530 = some (.aload_n 0, 1) := by decide +kernel
theorem x153_530 {E : ME} {ls : MLs} {st : List MV} {g : MG} {μ : MU} {Q : Option MV → MG → MU → Prop} {v : Nat ⊕ Nat} : Wp E 153 530 (some (.inr (.inr v)) :: ls) st g μ Q = Wp E 153 531 (some (.inr (.inr v)) :: ls) (.inr (.inr v) :: st) g μ Q := Wp_nx k153_530 rfl
theorem k153_531 : mCode 153 531 = some (.iload_n 3, 1) := by decide +kernel
theorem x153_531 {E : ME} {ls : MLs} {st : List MV} {g : MG} {μ : MU} {Q : Option MV → MG → MU → Prop} {l0 l1 l2 : Option MV} {v : Int} : Wp E 153 531 (l0 :: l1 :: l2 :: some (.inl v) :: ls) st g μ Q = Wp E 153 532 (l0 :: l1 :: l2 :: some (.inl v) :: ls) (.inl v :: st) g μ Q := Wp_nx k153_531 rfl
theorem k153_532 : mCode 153 532 = some (.iconst 1, 1) := by decide +kernel
theorem x153_532 {E : ME} {ls : MLs} {st : List MV} {g : MG} {μ : MU} {Q : Option MV → MG → MU → Prop} : Wp E 153 532 ls st g μ Q = Wp E 153 533 ls (.inl 1 :: st) g μ Q := Wp_nx k153_532 rfl
theorem k153_533 : mCode 153 533 = some (.iadd, 1) := by decide +kernel
theorem x153_533 {E : ME} {ls : MLs} {st : List MV} {g : MG} {μ : MU} {Q : Option MV → MG → MU → Prop} {a b : Int} : Wp E 153 533 ls (.inl b :: .inl a :: st) g μ Q = Wp E 153 534 ls (.inl (mWr (a + b)) :: st) g μ Q := Wp_nx k153_533 rfl
theorem k153_534 : mCode 153 534 = some (.iaload, 1) := by decide +kernel
theorem x153_534 {E : ME} {ls : MLs} {st : List MV} {g : MG} {μ : MU} {Q : Option MV → MG → MU → Prop} {a : Nat} {j : Int} : Wp E 153 534 ls (.inl j :: .inr (.inr (.inl a)) :: st) g μ Q = (((mKd g a).1 = 10 ∧ 0 ≤ j ∧ j < (mKd g a).2) ∧ Wp E 153 535 ls (.inl (μ a j.toNat) :: st) g μ Q) := Wp_ald k153_534 (fun _ => rfl)
theorem x153_534K {E : ME} {ls : MLs} {st : List MV} {g : MG} {μ : MU} {Q : Option MV → MG → MU → Prop} {c : Nat} {j : Int} (hk : mk_isI c = true) : Wp E 153 534 ls (.inl j :: .inr (.inr (.inr c)) :: st) g μ Q = ((0 ≤ j ∧ j < mk_len E c) ∧ Wp E 153 535 ls (.inl (mk_int E c j.toNat) :: st) g μ Q) := Wp_aldK k153_534 hk
theorem k153_535 : mCode 153 535 = some (.aload_n 0, 1) := by decide +kernel
theorem x153_535 {E : ME} {ls : MLs} {st : List MV} {g : MG} {μ : MU} {Q : Option MV → MG → MU → Prop} {v : Nat ⊕ Nat} : Wp E 153 535 (some (.inr (.inr v)) :: ls) st g μ Q = Wp E 153 536 (some (.inr (.inr v)) :: ls) (.inr (.inr v) :: st) g μ Q := Wp_nx k153_535 rfl
theorem k153_536 : mCode 153 536 = some (.iload_n 3, 1) := by decide +kernel
theorem x153_536 {E : ME} {ls : MLs} {st : List MV} {g : MG} {μ : MU} {Q : Option MV → MG → MU → Prop} {l0 l1 l2 : Option MV} {v : Int} : Wp E 153 536 (l0 :: l1 :: l2 :: some (.inl v) :: ls) st g μ Q = Wp E 153 537 (l0 :: l1 :: l2 :: some (.inl v) :: ls) (.inl v :: st) g μ Q := Wp_nx k153_536 rfl
theorem k153_537 : mCode 153 537 = some (.iconst 2, 1) := by decide +kernel
theorem x153_537 {E : ME} {ls : MLs} {st : List MV} {g : MG} {μ : MU} {Q : Option MV → MG → MU → Prop} : Wp E 153 537 ls st g μ Q = Wp E 153 538 ls (.inl 2 :: st) g μ Q := Wp_nx k153_537 rfl
theorem k153_538 : mCode 153 538 = some (.iadd, 1) := by decide +kernel
theorem x153_538 {E : ME} {ls : MLs} {st : List MV} {g : MG} {μ : MU} {Q : Option MV → MG → MU → Prop} {a b : Int} : Wp E 153 538 ls (.inl b :: .inl a :: st) g μ Q = Wp E 153 539 ls (.inl (mWr (a + b)) :: st) g μ Q := Wp_nx k153_538 rfl
theorem k153_539 : mCode 153 539 = some (.iaload, 1) := by decide +kernel
theorem x153_539 {E : ME} {ls : MLs} {st : List MV} {g : MG} {μ : MU} {Q : Option MV → MG → MU → Prop} {a : Nat} {j : Int} : Wp E 153 539 ls (.inl j :: .inr (.inr (.inl a)) :: st) g μ Q = (((mKd g a).1 = 10 ∧ 0 ≤ j ∧ j < (mKd g a).2) ∧ Wp E 153 540 ls (.inl (μ a j.toNat) :: st) g μ Q) := Wp_ald k153_539 (fun _ => rfl)
theorem x153_539K {E : ME} {ls : MLs} {st : List MV} {g : MG} {μ : MU} {Q : Option MV → MG → MU → Prop} {c : Nat} {j : Int} (hk : mk_isI c = true) : Wp E 153 539 ls (.inl j :: .inr (.inr (.inr c)) :: st) g μ Q = ((0 ≤ j ∧ j < mk_len E c) ∧ Wp E 153 540 ls (.inl (mk_int E c j.toNat) :: st) g μ Q) := Wp_aldK k153_539 hk
theorem k153_540 : mCode 153 540 = some (.aload_n 0, 1) := by decide +kernel
theorem x153_540 {E : ME} {ls : MLs} {st : List MV} {g : MG} {μ : MU} {Q : Option MV → MG → MU → Prop} {v : Nat ⊕ Nat} : Wp E 153 540 (some (.inr (.inr v)) :: ls) st g μ Q = Wp E 153 541 (some (.inr (.inr v)) :: ls) (.inr (.inr v) :: st) g μ Q := Wp_nx k153_540 rfl
theorem k153_541 : mCode 153 541 = some (.iload_n 3, 1) := by decide +kernel
theorem x153_541 {E : ME} {ls : MLs} {st : List MV} {g : MG} {μ : MU} {Q : Option MV → MG → MU → Prop} {l0 l1 l2 : Option MV} {v : Int} : Wp E 153 541 (l0 :: l1 :: l2 :: some (.inl v) :: ls) st g μ Q = Wp E 153 542 (l0 :: l1 :: l2 :: some (.inl v) :: ls) (.inl v :: st) g μ Q := Wp_nx k153_541 rfl
theorem k153_542 : mCode 153 542 = some (.iconst 3, 1) := by decide +kernel
theorem x153_542 {E : ME} {ls : MLs} {st : List MV} {g : MG} {μ : MU} {Q : Option MV → MG → MU → Prop} : Wp E 153 542 ls st g μ Q = Wp E 153 543 ls (.inl 3 :: st) g μ Q := Wp_nx k153_542 rfl
theorem k153_543 : mCode 153 543 = some (.iadd, 1) := by decide +kernel
theorem x153_543 {E : ME} {ls : MLs} {st : List MV} {g : MG} {μ : MU} {Q : Option MV → MG → MU → Prop} {a b : Int} : Wp E 153 543 ls (.inl b :: .inl a :: st) g μ Q = Wp E 153 544 ls (.inl (mWr (a + b)) :: st) g μ Q := Wp_nx k153_543 rfl
theorem k153_544 : mCode 153 544 = some (.iaload, 1) := by decide +kernel
theorem x153_544 {E : ME} {ls : MLs} {st : List MV} {g : MG} {μ : MU} {Q : Option MV → MG → MU → Prop} {a : Nat} {j : Int} : Wp E 153 544 ls (.inl j :: .inr (.inr (.inl a)) :: st) g μ Q = (((mKd g a).1 = 10 ∧ 0 ≤ j ∧ j < (mKd g a).2) ∧ Wp E 153 545 ls (.inl (μ a j.toNat) :: st) g μ Q) := Wp_ald k153_544 (fun _ => rfl)
theorem x153_544K {E : ME} {ls : MLs} {st : List MV} {g : MG} {μ : MU} {Q : Option MV → MG → MU → Prop} {c : Nat} {j : Int} (hk : mk_isI c = true) : Wp E 153 544 ls (.inl j :: .inr (.inr (.inr c)) :: st) g μ Q = ((0 ≤ j ∧ j < mk_len E c) ∧ Wp E 153 545 ls (.inl (mk_int E c j.toNat) :: st) g μ Q) := Wp_aldK k153_544 hk
theorem k153_545 : mCode 153 545 = some (.invokevirtual 60, 3) := by decide +kernel
theorem x153_545 {E : ME} {ls : MLs} {st : List MV} {g : MG} {μ : MU} {Q : Option MV → MG → MU → Prop} {r : Nat} {a0 : Int} {a1 : Int} {a2 : Int} : Wp E 153 545 ls (.inl a2 :: .inl a1 :: .inl a0 :: .inr (.inr (.inl r)) :: st) g μ Q = ((st.length ≤ 4 ∧ ((mKd g r).1 == 6) = true) ∧ Wp E 118 0 [some (.inr (.inr (.inl r))), some (.inl a0), some (.inl a1), some (.inl a2)] [] g μ (fun r g' μ' => (g'.1 = g.1 ∧ g'.2.1 = g.2.1) ∧ Wp E 153 548 ls (mPush r st) g' μ' Q)) := Wp_cV k153_545 m13_60 (by decide) (as := [.inr (.inr (.inl r)), .inl a0, .inl a1, .inl a2]) rfl rfl rfl ⟨Nat.le_of_ble_eq_true rfl, by decide⟩
theorem k153_548 : mCode 153 548 = some (.if_icmp .eq 301, 3) := by decide +kernel
theorem x153_548 {E : ME} {ls : MLs} {st : List MV} {g : MG} {μ : MU} {Q : Option MV → MG → MU → Prop} {a b : Int} : Wp E 153 548 ls (.inl b :: .inl a :: st) g μ Q = ((a = b → Wp E 153 849 ls st g μ Q) ∧ (¬ a = b → Wp E 153 551 ls st g μ Q)) := Wp_cmp_eq k153_548 (by decide)
theorem k153_551 : mCode 153 551 = some (.iconst 0, 1) := by decide +kernel
theorem x153_551 {E : ME} {ls : MLs} {st : List MV} {g : MG} {μ : MU} {Q : Option MV → MG → MU → Prop} : Wp E 153 551 ls st g μ Q = Wp E 153 552 ls (.inl 0 :: st) g μ Q := Wp_nx k153_551 rfl
theorem k153_552 : mCode 153 552 = some (.ireturn, 1) := by decide +kernel
theorem x153_552 {E : ME} {ls : MLs} {g : MG} {μ : MU} {Q : Option MV → MG → MU → Prop} {v : Int} : Wp E 153 552 ls [.inl v] g μ Q = ((v = 0 ∨ v = 1) ∧ Q (some (.inl v)) g μ) := Wp_retZ k153_552 (by decide)
theorem k153_553 : mCode 153 553 = some (.aload_n 1, 1) := by decide +kernel
theorem x153_553 {E : ME} {ls : MLs} {st : List MV} {g : MG} {μ : MU} {Q : Option MV → MG → MU → Prop} {l0 : Option MV} {v : Nat ⊕ Nat} : Wp E 153 553 (l0 :: some (.inr (.inr v)) :: ls) st g μ Q = Wp E 153 554 (l0 :: some (.inr (.inr v)) :: ls) (.inr (.inr v) :: st) g μ Q := Wp_nx k153_553 rfl
theorem k153_554 : mCode 153 554 = some (.aload_n 0, 1) := by decide +kernel
theorem x153_554 {E : ME} {ls : MLs} {st : List MV} {g : MG} {μ : MU} {Q : Option MV → MG → MU → Prop} {v : Nat ⊕ Nat} : Wp E 153 554 (some (.inr (.inr v)) :: ls) st g μ Q = Wp E 153 555 (some (.inr (.inr v)) :: ls) (.inr (.inr v) :: st) g μ Q := Wp_nx k153_554 rfl
theorem k153_555 : mCode 153 555 = some (.iload_n 3, 1) := by decide +kernel
theorem x153_555 {E : ME} {ls : MLs} {st : List MV} {g : MG} {μ : MU} {Q : Option MV → MG → MU → Prop} {l0 l1 l2 : Option MV} {v : Int} : Wp E 153 555 (l0 :: l1 :: l2 :: some (.inl v) :: ls) st g μ Q = Wp E 153 556 (l0 :: l1 :: l2 :: some (.inl v) :: ls) (.inl v :: st) g μ Q := Wp_nx k153_555 rfl
theorem k153_556 : mCode 153 556 = some (.iconst 1, 1) := by decide +kernel
theorem x153_556 {E : ME} {ls : MLs} {st : List MV} {g : MG} {μ : MU} {Q : Option MV → MG → MU → Prop} : Wp E 153 556 ls st g μ Q = Wp E 153 557 ls (.inl 1 :: st) g μ Q := Wp_nx k153_556 rfl
theorem k153_557 : mCode 153 557 = some (.iadd, 1) := by decide +kernel
theorem x153_557 {E : ME} {ls : MLs} {st : List MV} {g : MG} {μ : MU} {Q : Option MV → MG → MU → Prop} {a b : Int} : Wp E 153 557 ls (.inl b :: .inl a :: st) g μ Q = Wp E 153 558 ls (.inl (mWr (a + b)) :: st) g μ Q := Wp_nx k153_557 rfl
theorem k153_558 : mCode 153 558 = some (.iaload, 1) := by decide +kernel
theorem x153_558 {E : ME} {ls : MLs} {st : List MV} {g : MG} {μ : MU} {Q : Option MV → MG → MU → Prop} {a : Nat} {j : Int} : Wp E 153 558 ls (.inl j :: .inr (.inr (.inl a)) :: st) g μ Q = (((mKd g a).1 = 10 ∧ 0 ≤ j ∧ j < (mKd g a).2) ∧ Wp E 153 559 ls (.inl (μ a j.toNat) :: st) g μ Q) := Wp_ald k153_558 (fun _ => rfl)
theorem x153_558K {E : ME} {ls : MLs} {st : List MV} {g : MG} {μ : MU} {Q : Option MV → MG → MU → Prop} {c : Nat} {j : Int} (hk : mk_isI c = true) : Wp E 153 558 ls (.inl j :: .inr (.inr (.inr c)) :: st) g μ Q = ((0 ≤ j ∧ j < mk_len E c) ∧ Wp E 153 559 ls (.inl (mk_int E c j.toNat) :: st) g μ Q) := Wp_aldK k153_558 hk
theorem k153_559 : mCode 153 559 = some (.invokevirtual 61, 3) := by decide +kernel
theorem x153_559 {E : ME} {ls : MLs} {st : List MV} {g : MG} {μ : MU} {Q : Option MV → MG → MU → Prop} {r : Nat} {a0 : Int} : Wp E 153 559 ls (.inl a0 :: .inr (.inr (.inl r)) :: st) g μ Q = ((st.length ≤ 4 ∧ ((mKd g r).1 == 5) = true) ∧ Wp E 52 0 [some (.inr (.inr (.inl r))), some (.inl a0)] [] g μ (fun r g' μ' => (g'.1 = g.1 ∧ g'.2.1 = g.2.1) ∧ Wp E 153 562 ls (mPush r st) g' μ' Q)) := Wp_cV k153_559 m13_61 (by decide) (as := [.inr (.inr (.inl r)), .inl a0]) rfl rfl rfl ⟨Nat.le_of_ble_eq_true rfl, by decide⟩
theorem k153_562 : mCode 153 562 = some (.aload_n 2, 1) := by decide +kernel
theorem x153_562 {E : ME} {ls : MLs} {st : List MV} {g : MG} {μ : MU} {Q : Option MV → MG → MU → Prop} {l0 l1 : Option MV} {v : Nat ⊕ Nat} : Wp E 153 562 (l0 :: l1 :: some (.inr (.inr v)) :: ls) st g μ Q = Wp E 153 563 (l0 :: l1 :: some (.inr (.inr v)) :: ls) (.inr (.inr v) :: st) g μ Q := Wp_nx k153_562 rfl
theorem k153_563 : mCode 153 563 = some (.aload_n 0, 1) := by decide +kernel
theorem x153_563 {E : ME} {ls : MLs} {st : List MV} {g : MG} {μ : MU} {Q : Option MV → MG → MU → Prop} {v : Nat ⊕ Nat} : Wp E 153 563 (some (.inr (.inr v)) :: ls) st g μ Q = Wp E 153 564 (some (.inr (.inr v)) :: ls) (.inr (.inr v) :: st) g μ Q := Wp_nx k153_563 rfl
theorem k153_564 : mCode 153 564 = some (.iload_n 3, 1) := by decide +kernel
theorem x153_564 {E : ME} {ls : MLs} {st : List MV} {g : MG} {μ : MU} {Q : Option MV → MG → MU → Prop} {l0 l1 l2 : Option MV} {v : Int} : Wp E 153 564 (l0 :: l1 :: l2 :: some (.inl v) :: ls) st g μ Q = Wp E 153 565 (l0 :: l1 :: l2 :: some (.inl v) :: ls) (.inl v :: st) g μ Q := Wp_nx k153_564 rfl
theorem k153_565 : mCode 153 565 = some (.iconst 1, 1) := by decide +kernel
theorem x153_565 {E : ME} {ls : MLs} {st : List MV} {g : MG} {μ : MU} {Q : Option MV → MG → MU → Prop} : Wp E 153 565 ls st g μ Q = Wp E 153 566 ls (.inl 1 :: st) g μ Q := Wp_nx k153_565 rfl
theorem k153_566 : mCode 153 566 = some (.iadd, 1) := by decide +kernel
theorem x153_566 {E : ME} {ls : MLs} {st : List MV} {g : MG} {μ : MU} {Q : Option MV → MG → MU → Prop} {a b : Int} : Wp E 153 566 ls (.inl b :: .inl a :: st) g μ Q = Wp E 153 567 ls (.inl (mWr (a + b)) :: st) g μ Q := Wp_nx k153_566 rfl
theorem k153_567 : mCode 153 567 = some (.iaload, 1) := by decide +kernel
theorem x153_567 {E : ME} {ls : MLs} {st : List MV} {g : MG} {μ : MU} {Q : Option MV → MG → MU → Prop} {a : Nat} {j : Int} : Wp E 153 567 ls (.inl j :: .inr (.inr (.inl a)) :: st) g μ Q = (((mKd g a).1 = 10 ∧ 0 ≤ j ∧ j < (mKd g a).2) ∧ Wp E 153 568 ls (.inl (μ a j.toNat) :: st) g μ Q) := Wp_ald k153_567 (fun _ => rfl)
theorem x153_567K {E : ME} {ls : MLs} {st : List MV} {g : MG} {μ : MU} {Q : Option MV → MG → MU → Prop} {c : Nat} {j : Int} (hk : mk_isI c = true) : Wp E 153 567 ls (.inl j :: .inr (.inr (.inr c)) :: st) g μ Q = ((0 ≤ j ∧ j < mk_len E c) ∧ Wp E 153 568 ls (.inl (mk_int E c j.toNat) :: st) g μ Q) := Wp_aldK k153_567 hk
theorem k153_568 : mCode 153 568 = some (.invokevirtual 64, 3) := by decide +kernel
theorem x153_568 {E : ME} {ls : MLs} {st : List MV} {g : MG} {μ : MU} {Q : Option MV → MG → MU → Prop} {r : Nat} {a0 : Int} : Wp E 153 568 ls (.inl a0 :: .inr (.inr (.inl r)) :: st) g μ Q = ((st.length ≤ 4 ∧ ((mKd g r).1 == 6) = true) ∧ Wp E 121 0 [some (.inr (.inr (.inl r))), some (.inl a0)] [] g μ (fun r g' μ' => (g'.1 = g.1 ∧ g'.2.1 = g.2.1) ∧ Wp E 153 571 ls (mPush r st) g' μ' Q)) := Wp_cV k153_568 m13_64 (by decide) (as := [.inr (.inr (.inl r)), .inl a0]) rfl rfl rfl ⟨Nat.le_of_ble_eq_true rfl, by decide⟩
theorem k153_571 : mCode 153 571 = some (.if_icmp .eq 278, 3) := by decide +kernel
theorem x153_571 {E : ME} {ls : MLs} {st : List MV} {g : MG} {μ : MU} {Q : Option MV → MG → MU → Prop} {a b : Int} : Wp E 153 571 ls (.inl b :: .inl a :: st) g μ Q = ((a = b → Wp E 153 849 ls st g μ Q) ∧ (¬ a = b → Wp E 153 574 ls st g μ Q)) := Wp_cmp_eq k153_571 (by decide)
theorem k153_574 : mCode 153 574 = some (.iconst 0, 1) := by decide +kernel
theorem x153_574 {E : ME} {ls : MLs} {st : List MV} {g : MG} {μ : MU} {Q : Option MV → MG → MU → Prop} : Wp E 153 574 ls st g μ Q = Wp E 153 575 ls (.inl 0 :: st) g μ Q := Wp_nx k153_574 rfl
theorem k153_575 : mCode 153 575 = some (.ireturn, 1) := by decide +kernel
theorem x153_575 {E : ME} {ls : MLs} {g : MG} {μ : MU} {Q : Option MV → MG → MU → Prop} {v : Int} : Wp E 153 575 ls [.inl v] g μ Q = ((v = 0 ∨ v = 1) ∧ Q (some (.inl v)) g μ) := Wp_retZ k153_575 (by decide)
theorem k153_576 : mCode 153 576 = some (.aload_n 1, 1) := by decide +kernel
theorem x153_576 {E : ME} {ls : MLs} {st : List MV} {g : MG} {μ : MU} {Q : Option MV → MG → MU → Prop} {l0 : Option MV} {v : Nat ⊕ Nat} : Wp E 153 576 (l0 :: some (.inr (.inr v)) :: ls) st g μ Q = Wp E 153 577 (l0 :: some (.inr (.inr v)) :: ls) (.inr (.inr v) :: st) g μ Q := Wp_nx k153_576 rfl
theorem k153_577 : mCode 153 577 = some (.aload_n 0, 1) := by decide +kernel
theorem x153_577 {E : ME} {ls : MLs} {st : List MV} {g : MG} {μ : MU} {Q : Option MV → MG → MU → Prop} {v : Nat ⊕ Nat} : Wp E 153 577 (some (.inr (.inr v)) :: ls) st g μ Q = Wp E 153 578 (some (.inr (.inr v)) :: ls) (.inr (.inr v) :: st) g μ Q := Wp_nx k153_577 rfl
theorem k153_578 : mCode 153 578 = some (.iload_n 3, 1) := by decide +kernel
theorem x153_578 {E : ME} {ls : MLs} {st : List MV} {g : MG} {μ : MU} {Q : Option MV → MG → MU → Prop} {l0 l1 l2 : Option MV} {v : Int} : Wp E 153 578 (l0 :: l1 :: l2 :: some (.inl v) :: ls) st g μ Q = Wp E 153 579 (l0 :: l1 :: l2 :: some (.inl v) :: ls) (.inl v :: st) g μ Q := Wp_nx k153_578 rfl
theorem k153_579 : mCode 153 579 = some (.iconst 1, 1) := by decide +kernel
theorem x153_579 {E : ME} {ls : MLs} {st : List MV} {g : MG} {μ : MU} {Q : Option MV → MG → MU → Prop} : Wp E 153 579 ls st g μ Q = Wp E 153 580 ls (.inl 1 :: st) g μ Q := Wp_nx k153_579 rfl
theorem k153_580 : mCode 153 580 = some (.iadd, 1) := by decide +kernel
theorem x153_580 {E : ME} {ls : MLs} {st : List MV} {g : MG} {μ : MU} {Q : Option MV → MG → MU → Prop} {a b : Int} : Wp E 153 580 ls (.inl b :: .inl a :: st) g μ Q = Wp E 153 581 ls (.inl (mWr (a + b)) :: st) g μ Q := Wp_nx k153_580 rfl
theorem k153_581 : mCode 153 581 = some (.iaload, 1) := by decide +kernel
theorem x153_581 {E : ME} {ls : MLs} {st : List MV} {g : MG} {μ : MU} {Q : Option MV → MG → MU → Prop} {a : Nat} {j : Int} : Wp E 153 581 ls (.inl j :: .inr (.inr (.inl a)) :: st) g μ Q = (((mKd g a).1 = 10 ∧ 0 ≤ j ∧ j < (mKd g a).2) ∧ Wp E 153 582 ls (.inl (μ a j.toNat) :: st) g μ Q) := Wp_ald k153_581 (fun _ => rfl)
theorem x153_581K {E : ME} {ls : MLs} {st : List MV} {g : MG} {μ : MU} {Q : Option MV → MG → MU → Prop} {c : Nat} {j : Int} (hk : mk_isI c = true) : Wp E 153 581 ls (.inl j :: .inr (.inr (.inr c)) :: st) g μ Q = ((0 ≤ j ∧ j < mk_len E c) ∧ Wp E 153 582 ls (.inl (mk_int E c j.toNat) :: st) g μ Q) := Wp_aldK k153_581 hk
theorem k153_582 : mCode 153 582 = some (.aload_n 0, 1) := by decide +kernel
theorem x153_582 {E : ME} {ls : MLs} {st : List MV} {g : MG} {μ : MU} {Q : Option MV → MG → MU → Prop} {v : Nat ⊕ Nat} : Wp E 153 582 (some (.inr (.inr v)) :: ls) st g μ Q = Wp E 153 583 (some (.inr (.inr v)) :: ls) (.inr (.inr v) :: st) g μ Q := Wp_nx k153_582 rfl
theorem k153_583 : mCode 153 583 = some (.iload_n 3, 1) := by decide +kernel
theorem x153_583 {E : ME} {ls : MLs} {st : List MV} {g : MG} {μ : MU} {Q : Option MV → MG → MU → Prop} {l0 l1 l2 : Option MV} {v : Int} : Wp E 153 583 (l0 :: l1 :: l2 :: some (.inl v) :: ls) st g μ Q = Wp E 153 584 (l0 :: l1 :: l2 :: some (.inl v) :: ls) (.inl v :: st) g μ Q := Wp_nx k153_583 rfl
theorem k153_584 : mCode 153 584 = some (.iconst 2, 1) := by decide +kernel
theorem x153_584 {E : ME} {ls : MLs} {st : List MV} {g : MG} {μ : MU} {Q : Option MV → MG → MU → Prop} : Wp E 153 584 ls st g μ Q = Wp E 153 585 ls (.inl 2 :: st) g μ Q := Wp_nx k153_584 rfl
theorem k153_585 : mCode 153 585 = some (.iadd, 1) := by decide +kernel
theorem x153_585 {E : ME} {ls : MLs} {st : List MV} {g : MG} {μ : MU} {Q : Option MV → MG → MU → Prop} {a b : Int} : Wp E 153 585 ls (.inl b :: .inl a :: st) g μ Q = Wp E 153 586 ls (.inl (mWr (a + b)) :: st) g μ Q := Wp_nx k153_585 rfl
theorem k153_586 : mCode 153 586 = some (.iaload, 1) := by decide +kernel
theorem x153_586 {E : ME} {ls : MLs} {st : List MV} {g : MG} {μ : MU} {Q : Option MV → MG → MU → Prop} {a : Nat} {j : Int} : Wp E 153 586 ls (.inl j :: .inr (.inr (.inl a)) :: st) g μ Q = (((mKd g a).1 = 10 ∧ 0 ≤ j ∧ j < (mKd g a).2) ∧ Wp E 153 587 ls (.inl (μ a j.toNat) :: st) g μ Q) := Wp_ald k153_586 (fun _ => rfl)
theorem x153_586K {E : ME} {ls : MLs} {st : List MV} {g : MG} {μ : MU} {Q : Option MV → MG → MU → Prop} {c : Nat} {j : Int} (hk : mk_isI c = true) : Wp E 153 586 ls (.inl j :: .inr (.inr (.inr c)) :: st) g μ Q = ((0 ≤ j ∧ j < mk_len E c) ∧ Wp E 153 587 ls (.inl (mk_int E c j.toNat) :: st) g μ Q) := Wp_aldK k153_586 hk
theorem k153_587 : mCode 153 587 = some (.invokevirtual 65, 3) := by decide +kernel
theorem x153_587 {E : ME} {ls : MLs} {st : List MV} {g : MG} {μ : MU} {Q : Option MV → MG → MU → Prop} {r : Nat} {a0 : Int} {a1 : Int} : Wp E 153 587 ls (.inl a1 :: .inl a0 :: .inr (.inr (.inl r)) :: st) g μ Q = ((st.length ≤ 4 ∧ ((mKd g r).1 == 5) = true) ∧ Wp E 53 0 [some (.inr (.inr (.inl r))), some (.inl a0), some (.inl a1)] [] g μ (fun r g' μ' => (g'.1 = g.1 ∧ g'.2.1 = g.2.1) ∧ Wp E 153 590 ls (mPush r st) g' μ' Q)) := Wp_cV k153_587 m13_65 (by decide) (as := [.inr (.inr (.inl r)), .inl a0, .inl a1]) rfl rfl rfl ⟨Nat.le_of_ble_eq_true rfl, by decide⟩
theorem k153_590 : mCode 153 590 = some (.aload_n 2, 1) := by decide +kernel
theorem x153_590 {E : ME} {ls : MLs} {st : List MV} {g : MG} {μ : MU} {Q : Option MV → MG → MU → Prop} {l0 l1 : Option MV} {v : Nat ⊕ Nat} : Wp E 153 590 (l0 :: l1 :: some (.inr (.inr v)) :: ls) st g μ Q = Wp E 153 591 (l0 :: l1 :: some (.inr (.inr v)) :: ls) (.inr (.inr v) :: st) g μ Q := Wp_nx k153_590 rfl
theorem k153_591 : mCode 153 591 = some (.aload_n 0, 1) := by decide +kernel
theorem x153_591 {E : ME} {ls : MLs} {st : List MV} {g : MG} {μ : MU} {Q : Option MV → MG → MU → Prop} {v : Nat ⊕ Nat} : Wp E 153 591 (some (.inr (.inr v)) :: ls) st g μ Q = Wp E 153 592 (some (.inr (.inr v)) :: ls) (.inr (.inr v) :: st) g μ Q := Wp_nx k153_591 rfl
theorem k153_592 : mCode 153 592 = some (.iload_n 3, 1) := by decide +kernel
theorem x153_592 {E : ME} {ls : MLs} {st : List MV} {g : MG} {μ : MU} {Q : Option MV → MG → MU → Prop} {l0 l1 l2 : Option MV} {v : Int} : Wp E 153 592 (l0 :: l1 :: l2 :: some (.inl v) :: ls) st g μ Q = Wp E 153 593 (l0 :: l1 :: l2 :: some (.inl v) :: ls) (.inl v :: st) g μ Q := Wp_nx k153_592 rfl
theorem k153_593 : mCode 153 593 = some (.iconst 1, 1) := by decide +kernel
theorem x153_593 {E : ME} {ls : MLs} {st : List MV} {g : MG} {μ : MU} {Q : Option MV → MG → MU → Prop} : Wp E 153 593 ls st g μ Q = Wp E 153 594 ls (.inl 1 :: st) g μ Q := Wp_nx k153_593 rfl
theorem k153_594 : mCode 153 594 = some (.iadd, 1) := by decide +kernel
theorem x153_594 {E : ME} {ls : MLs} {st : List MV} {g : MG} {μ : MU} {Q : Option MV → MG → MU → Prop} {a b : Int} : Wp E 153 594 ls (.inl b :: .inl a :: st) g μ Q = Wp E 153 595 ls (.inl (mWr (a + b)) :: st) g μ Q := Wp_nx k153_594 rfl
theorem k153_595 : mCode 153 595 = some (.iaload, 1) := by decide +kernel
theorem x153_595 {E : ME} {ls : MLs} {st : List MV} {g : MG} {μ : MU} {Q : Option MV → MG → MU → Prop} {a : Nat} {j : Int} : Wp E 153 595 ls (.inl j :: .inr (.inr (.inl a)) :: st) g μ Q = (((mKd g a).1 = 10 ∧ 0 ≤ j ∧ j < (mKd g a).2) ∧ Wp E 153 596 ls (.inl (μ a j.toNat) :: st) g μ Q) := Wp_ald k153_595 (fun _ => rfl)
theorem x153_595K {E : ME} {ls : MLs} {st : List MV} {g : MG} {μ : MU} {Q : Option MV → MG → MU → Prop} {c : Nat} {j : Int} (hk : mk_isI c = true) : Wp E 153 595 ls (.inl j :: .inr (.inr (.inr c)) :: st) g μ Q = ((0 ≤ j ∧ j < mk_len E c) ∧ Wp E 153 596 ls (.inl (mk_int E c j.toNat) :: st) g μ Q) := Wp_aldK k153_595 hk
theorem k153_596 : mCode 153 596 = some (.aload_n 0, 1) := by decide +kernel
theorem x153_596 {E : ME} {ls : MLs} {st : List MV} {g : MG} {μ : MU} {Q : Option MV → MG → MU → Prop} {v : Nat ⊕ Nat} : Wp E 153 596 (some (.inr (.inr v)) :: ls) st g μ Q = Wp E 153 597 (some (.inr (.inr v)) :: ls) (.inr (.inr v) :: st) g μ Q := Wp_nx k153_596 rfl
theorem k153_597 : mCode 153 597 = some (.iload_n 3, 1) := by decide +kernel
theorem x153_597 {E : ME} {ls : MLs} {st : List MV} {g : MG} {μ : MU} {Q : Option MV → MG → MU → Prop} {l0 l1 l2 : Option MV} {v : Int} : Wp E 153 597 (l0 :: l1 :: l2 :: some (.inl v) :: ls) st g μ Q = Wp E 153 598 (l0 :: l1 :: l2 :: some (.inl v) :: ls) (.inl v :: st) g μ Q := Wp_nx k153_597 rfl
theorem k153_598 : mCode 153 598 = some (.iconst 2, 1) := by decide +kernel
theorem x153_598 {E : ME} {ls : MLs} {st : List MV} {g : MG} {μ : MU} {Q : Option MV → MG → MU → Prop} : Wp E 153 598 ls st g μ Q = Wp E 153 599 ls (.inl 2 :: st) g μ Q := Wp_nx k153_598 rfl
theorem k153_599 : mCode 153 599 = some (.iadd, 1) := by decide +kernel
theorem x153_599 {E : ME} {ls : MLs} {st : List MV} {g : MG} {μ : MU} {Q : Option MV → MG → MU → Prop} {a b : Int} : Wp E 153 599 ls (.inl b :: .inl a :: st) g μ Q = Wp E 153 600 ls (.inl (mWr (a + b)) :: st) g μ Q := Wp_nx k153_599 rfl
theorem k153_600 : mCode 153 600 = some (.iaload, 1) := by decide +kernel
theorem x153_600 {E : ME} {ls : MLs} {st : List MV} {g : MG} {μ : MU} {Q : Option MV → MG → MU → Prop} {a : Nat} {j : Int} : Wp E 153 600 ls (.inl j :: .inr (.inr (.inl a)) :: st) g μ Q = (((mKd g a).1 = 10 ∧ 0 ≤ j ∧ j < (mKd g a).2) ∧ Wp E 153 601 ls (.inl (μ a j.toNat) :: st) g μ Q) := Wp_ald k153_600 (fun _ => rfl)
theorem x153_600K {E : ME} {ls : MLs} {st : List MV} {g : MG} {μ : MU} {Q : Option MV → MG → MU → Prop} {c : Nat} {j : Int} (hk : mk_isI c = true) : Wp E 153 600 ls (.inl j :: .inr (.inr (.inr c)) :: st) g μ Q = ((0 ≤ j ∧ j < mk_len E c) ∧ Wp E 153 601 ls (.inl (mk_int E c j.toNat) :: st) g μ Q) := Wp_aldK k153_600 hk
theorem k153_601 : mCode 153 601 = some (.invokevirtual 68, 3) := by decide +kernel
theorem x153_601 {E : ME} {ls : MLs} {st : List MV} {g : MG} {μ : MU} {Q : Option MV → MG → MU → Prop} {r : Nat} {a0 : Int} {a1 : Int} : Wp E 153 601 ls (.inl a1 :: .inl a0 :: .inr (.inr (.inl r)) :: st) g μ Q = ((st.length ≤ 4 ∧ ((mKd g r).1 == 6) = true) ∧ Wp E 122 0 [some (.inr (.inr (.inl r))), some (.inl a0), some (.inl a1)] [] g μ (fun r g' μ' => (g'.1 = g.1 ∧ g'.2.1 = g.2.1) ∧ Wp E 153 604 ls (mPush r st) g' μ' Q)) := Wp_cV k153_601 m13_68 (by decide) (as := [.inr (.inr (.inl r)), .inl a0, .inl a1]) rfl rfl rfl ⟨Nat.le_of_ble_eq_true rfl, by decide⟩
theorem k153_604 : mCode 153 604 = some (.if_icmp .eq 245, 3) := by decide +kernel
theorem x153_604 {E : ME} {ls : MLs} {st : List MV} {g : MG} {μ : MU} {Q : Option MV → MG → MU → Prop} {a b : Int} : Wp E 153 604 ls (.inl b :: .inl a :: st) g μ Q = ((a = b → Wp E 153 849 ls st g μ Q) ∧ (¬ a = b → Wp E 153 607 ls st g μ Q)) := Wp_cmp_eq k153_604 (by decide)
theorem k153_607 : mCode 153 607 = some (.iconst 0, 1) := by decide +kernel
theorem x153_607 {E : ME} {ls : MLs} {st : List MV} {g : MG} {μ : MU} {Q : Option MV → MG → MU → Prop} : Wp E 153 607 ls st g μ Q = Wp E 153 608 ls (.inl 0 :: st) g μ Q := Wp_nx k153_607 rfl
theorem k153_608 : mCode 153 608 = some (.ireturn, 1) := by decide +kernel
theorem x153_608 {E : ME} {ls : MLs} {g : MG} {μ : MU} {Q : Option MV → MG → MU → Prop} {v : Int} : Wp E 153 608 ls [.inl v] g μ Q = ((v = 0 ∨ v = 1) ∧ Q (some (.inl v)) g μ) := Wp_retZ k153_608 (by decide)
theorem k153_609 : mCode 153 609 = some (.aload_n 1, 1) := by decide +kernel
theorem x153_609 {E : ME} {ls : MLs} {st : List MV} {g : MG} {μ : MU} {Q : Option MV → MG → MU → Prop} {l0 : Option MV} {v : Nat ⊕ Nat} : Wp E 153 609 (l0 :: some (.inr (.inr v)) :: ls) st g μ Q = Wp E 153 610 (l0 :: some (.inr (.inr v)) :: ls) (.inr (.inr v) :: st) g μ Q := Wp_nx k153_609 rfl
theorem k153_610 : mCode 153 610 = some (.aload_n 0, 1) := by decide +kernel
theorem x153_610 {E : ME} {ls : MLs} {st : List MV} {g : MG} {μ : MU} {Q : Option MV → MG → MU → Prop} {v : Nat ⊕ Nat} : Wp E 153 610 (some (.inr (.inr v)) :: ls) st g μ Q = Wp E 153 611 (some (.inr (.inr v)) :: ls) (.inr (.inr v) :: st) g μ Q := Wp_nx k153_610 rfl
theorem k153_611 : mCode 153 611 = some (.iload_n 3, 1) := by decide +kernel
theorem x153_611 {E : ME} {ls : MLs} {st : List MV} {g : MG} {μ : MU} {Q : Option MV → MG → MU → Prop} {l0 l1 l2 : Option MV} {v : Int} : Wp E 153 611 (l0 :: l1 :: l2 :: some (.inl v) :: ls) st g μ Q = Wp E 153 612 (l0 :: l1 :: l2 :: some (.inl v) :: ls) (.inl v :: st) g μ Q := Wp_nx k153_611 rfl
theorem k153_612 : mCode 153 612 = some (.iconst 1, 1) := by decide +kernel
theorem x153_612 {E : ME} {ls : MLs} {st : List MV} {g : MG} {μ : MU} {Q : Option MV → MG → MU → Prop} : Wp E 153 612 ls st g μ Q = Wp E 153 613 ls (.inl 1 :: st) g μ Q := Wp_nx k153_612 rfl
theorem k153_613 : mCode 153 613 = some (.iadd, 1) := by decide +kernel
theorem x153_613 {E : ME} {ls : MLs} {st : List MV} {g : MG} {μ : MU} {Q : Option MV → MG → MU → Prop} {a b : Int} : Wp E 153 613 ls (.inl b :: .inl a :: st) g μ Q = Wp E 153 614 ls (.inl (mWr (a + b)) :: st) g μ Q := Wp_nx k153_613 rfl
theorem k153_614 : mCode 153 614 = some (.iaload, 1) := by decide +kernel
theorem x153_614 {E : ME} {ls : MLs} {st : List MV} {g : MG} {μ : MU} {Q : Option MV → MG → MU → Prop} {a : Nat} {j : Int} : Wp E 153 614 ls (.inl j :: .inr (.inr (.inl a)) :: st) g μ Q = (((mKd g a).1 = 10 ∧ 0 ≤ j ∧ j < (mKd g a).2) ∧ Wp E 153 615 ls (.inl (μ a j.toNat) :: st) g μ Q) := Wp_ald k153_614 (fun _ => rfl)
theorem x153_614K {E : ME} {ls : MLs} {st : List MV} {g : MG} {μ : MU} {Q : Option MV → MG → MU → Prop} {c : Nat} {j : Int} (hk : mk_isI c = true) : Wp E 153 614 ls (.inl j :: .inr (.inr (.inr c)) :: st) g μ Q = ((0 ≤ j ∧ j < mk_len E c) ∧ Wp E 153 615 ls (.inl (mk_int E c j.toNat) :: st) g μ Q) := Wp_aldK k153_614 hk
theorem k153_615 : mCode 153 615 = some (.invokevirtual 69, 3) := by decide +kernel
theorem x153_615 {E : ME} {ls : MLs} {st : List MV} {g : MG} {μ : MU} {Q : Option MV → MG → MU → Prop} {r : Nat} {a0 : Int} : Wp E 153 615 ls (.inl a0 :: .inr (.inr (.inl r)) :: st) g μ Q = ((st.length ≤ 4 ∧ ((mKd g r).1 == 5) = true) ∧ Wp E 54 0 [some (.inr (.inr (.inl r))), some (.inl a0), none] [] g μ (fun r g' μ' => (g'.1 = g.1 ∧ g'.2.1 = g.2.1) ∧ Wp E 153 618 ls (mPush r st) g' μ' Q)) := Wp_cV k153_615 m13_69 (by decide) (as := [.inr (.inr (.inl r)), .inl a0]) rfl rfl rfl ⟨Nat.le_of_ble_eq_true rfl, by decide⟩
theorem k153_618 : mCode 153 618 = some (.aload_n 2, 1) := by decide +kernel
theorem x153_618 {E : ME} {ls : MLs} {st : List MV} {g : MG} {μ : MU} {Q : Option MV → MG → MU → Prop} {l0 l1 : Option MV} {v : Nat ⊕ Nat} : Wp E 153 618 (l0 :: l1 :: some (.inr (.inr v)) :: ls) st g μ Q = Wp E 153 619 (l0 :: l1 :: some (.inr (.inr v)) :: ls) (.inr (.inr v) :: st) g μ Q := Wp_nx k153_618 rfl
theorem k153_619 : mCode 153 619 = some (.aload_n 0, 1) := by decide +kernel
theorem x153_619 {E : ME} {ls : MLs} {st : List MV} {g : MG} {μ : MU} {Q : Option MV → MG → MU → Prop} {v : Nat ⊕ Nat} : Wp E 153 619 (some (.inr (.inr v)) :: ls) st g μ Q = Wp E 153 620 (some (.inr (.inr v)) :: ls) (.inr (.inr v) :: st) g μ Q := Wp_nx k153_619 rfl
theorem k153_620 : mCode 153 620 = some (.iload_n 3, 1) := by decide +kernel
theorem x153_620 {E : ME} {ls : MLs} {st : List MV} {g : MG} {μ : MU} {Q : Option MV → MG → MU → Prop} {l0 l1 l2 : Option MV} {v : Int} : Wp E 153 620 (l0 :: l1 :: l2 :: some (.inl v) :: ls) st g μ Q = Wp E 153 621 (l0 :: l1 :: l2 :: some (.inl v) :: ls) (.inl v :: st) g μ Q := Wp_nx k153_620 rfl
theorem k153_621 : mCode 153 621 = some (.iconst 1, 1) := by decide +kernel
theorem x153_621 {E : ME} {ls : MLs} {st : List MV} {g : MG} {μ : MU} {Q : Option MV → MG → MU → Prop} : Wp E 153 621 ls st g μ Q = Wp E 153 622 ls (.inl 1 :: st) g μ Q := Wp_nx k153_621 rfl
theorem k153_622 : mCode 153 622 = some (.iadd, 1) := by decide +kernel
theorem x153_622 {E : ME} {ls : MLs} {st : List MV} {g : MG} {μ : MU} {Q : Option MV → MG → MU → Prop} {a b : Int} : Wp E 153 622 ls (.inl b :: .inl a :: st) g μ Q = Wp E 153 623 ls (.inl (mWr (a + b)) :: st) g μ Q := Wp_nx k153_622 rfl
theorem k153_623 : mCode 153 623 = some (.iaload, 1) := by decide +kernel
theorem x153_623 {E : ME} {ls : MLs} {st : List MV} {g : MG} {μ : MU} {Q : Option MV → MG → MU → Prop} {a : Nat} {j : Int} : Wp E 153 623 ls (.inl j :: .inr (.inr (.inl a)) :: st) g μ Q = (((mKd g a).1 = 10 ∧ 0 ≤ j ∧ j < (mKd g a).2) ∧ Wp E 153 624 ls (.inl (μ a j.toNat) :: st) g μ Q) := Wp_ald k153_623 (fun _ => rfl)
theorem x153_623K {E : ME} {ls : MLs} {st : List MV} {g : MG} {μ : MU} {Q : Option MV → MG → MU → Prop} {c : Nat} {j : Int} (hk : mk_isI c = true) : Wp E 153 623 ls (.inl j :: .inr (.inr (.inr c)) :: st) g μ Q = ((0 ≤ j ∧ j < mk_len E c) ∧ Wp E 153 624 ls (.inl (mk_int E c j.toNat) :: st) g μ Q) := Wp_aldK k153_623 hk
theorem k153_624 : mCode 153 624 = some (.invokevirtual 72, 3) := by decide +kernel
theorem x153_624 {E : ME} {ls : MLs} {st : List MV} {g : MG} {μ : MU} {Q : Option MV → MG → MU → Prop} {r : Nat} {a0 : Int} : Wp E 153 624 ls (.inl a0 :: .inr (.inr (.inl r)) :: st) g μ Q = ((st.length ≤ 4 ∧ ((mKd g r).1 == 6) = true) ∧ Wp E 123 0 [some (.inr (.inr (.inl r))), some (.inl a0), none, none] [] g μ (fun r g' μ' => (g'.1 = g.1 ∧ g'.2.1 = g.2.1) ∧ Wp E 153 627 ls (mPush r st) g' μ' Q)) := Wp_cV k153_624 m13_72 (by decide) (as := [.inr (.inr (.inl r)), .inl a0]) rfl rfl rfl ⟨Nat.le_of_ble_eq_true rfl, by decide⟩
theorem k153_627 : mCode 153 627 = some (.if_icmp .eq 222, 3) := by decide +kernel
theorem x153_627 {E : ME} {ls : MLs} {st : List MV} {g : MG} {μ : MU} {Q : Option MV → MG → MU → Prop} {a b : Int} : Wp E 153 627 ls (.inl b :: .inl a :: st) g μ Q = ((a = b → Wp E 153 849 ls st g μ Q) ∧ (¬ a = b → Wp E 153 630 ls st g μ Q)) := Wp_cmp_eq k153_627 (by decide)
theorem k153_630 : mCode 153 630 = some (.iconst 0, 1) := by decide +kernel
theorem x153_630 {E : ME} {ls : MLs} {st : List MV} {g : MG} {μ : MU} {Q : Option MV → MG → MU → Prop} : Wp E 153 630 ls st g μ Q = Wp E 153 631 ls (.inl 0 :: st) g μ Q := Wp_nx k153_630 rfl
theorem k153_631 : mCode 153 631 = some (.ireturn, 1) := by decide +kernel
theorem x153_631 {E : ME} {ls : MLs} {g : MG} {μ : MU} {Q : Option MV → MG → MU → Prop} {v : Int} : Wp E 153 631 ls [.inl v] g μ Q = ((v = 0 ∨ v = 1) ∧ Q (some (.inl v)) g μ) := Wp_retZ k153_631 (by decide)
theorem k153_632 : mCode 153 632 = some (.aload_n 1, 1) := by decide +kernel
theorem x153_632 {E : ME} {ls : MLs} {st : List MV} {g : MG} {μ : MU} {Q : Option MV → MG → MU → Prop} {l0 : Option MV} {v : Nat ⊕ Nat} : Wp E 153 632 (l0 :: some (.inr (.inr v)) :: ls) st g μ Q = Wp E 153 633 (l0 :: some (.inr (.inr v)) :: ls) (.inr (.inr v) :: st) g μ Q := Wp_nx k153_632 rfl
theorem k153_633 : mCode 153 633 = some (.aload_n 0, 1) := by decide +kernel
theorem x153_633 {E : ME} {ls : MLs} {st : List MV} {g : MG} {μ : MU} {Q : Option MV → MG → MU → Prop} {v : Nat ⊕ Nat} : Wp E 153 633 (some (.inr (.inr v)) :: ls) st g μ Q = Wp E 153 634 (some (.inr (.inr v)) :: ls) (.inr (.inr v) :: st) g μ Q := Wp_nx k153_633 rfl
theorem k153_634 : mCode 153 634 = some (.iload_n 3, 1) := by decide +kernel
theorem x153_634 {E : ME} {ls : MLs} {st : List MV} {g : MG} {μ : MU} {Q : Option MV → MG → MU → Prop} {l0 l1 l2 : Option MV} {v : Int} : Wp E 153 634 (l0 :: l1 :: l2 :: some (.inl v) :: ls) st g μ Q = Wp E 153 635 (l0 :: l1 :: l2 :: some (.inl v) :: ls) (.inl v :: st) g μ Q := Wp_nx k153_634 rfl
theorem k153_635 : mCode 153 635 = some (.iconst 1, 1) := by decide +kernel
theorem x153_635 {E : ME} {ls : MLs} {st : List MV} {g : MG} {μ : MU} {Q : Option MV → MG → MU → Prop} : Wp E 153 635 ls st g μ Q = Wp E 153 636 ls (.inl 1 :: st) g μ Q := Wp_nx k153_635 rfl
theorem k153_636 : mCode 153 636 = some (.iadd, 1) := by decide +kernel
theorem x153_636 {E : ME} {ls : MLs} {st : List MV} {g : MG} {μ : MU} {Q : Option MV → MG → MU → Prop} {a b : Int} : Wp E 153 636 ls (.inl b :: .inl a :: st) g μ Q = Wp E 153 637 ls (.inl (mWr (a + b)) :: st) g μ Q := Wp_nx k153_636 rfl
theorem k153_637 : mCode 153 637 = some (.iaload, 1) := by decide +kernel
theorem x153_637 {E : ME} {ls : MLs} {st : List MV} {g : MG} {μ : MU} {Q : Option MV → MG → MU → Prop} {a : Nat} {j : Int} : Wp E 153 637 ls (.inl j :: .inr (.inr (.inl a)) :: st) g μ Q = (((mKd g a).1 = 10 ∧ 0 ≤ j ∧ j < (mKd g a).2) ∧ Wp E 153 638 ls (.inl (μ a j.toNat) :: st) g μ Q) := Wp_ald k153_637 (fun _ => rfl)
theorem x153_637K {E : ME} {ls : MLs} {st : List MV} {g : MG} {μ : MU} {Q : Option MV → MG → MU → Prop} {c : Nat} {j : Int} (hk : mk_isI c = true) : Wp E 153 637 ls (.inl j :: .inr (.inr (.inr c)) :: st) g μ Q = ((0 ≤ j ∧ j < mk_len E c) ∧ Wp E 153 638 ls (.inl (mk_int E c j.toNat) :: st) g μ Q) := Wp_aldK k153_637 hk
theorem k153_638 : mCode 153 638 = some (.aload_n 0, 1) := by decide +kernel
theorem x153_638 {E : ME} {ls : MLs} {st : List MV} {g : MG} {μ : MU} {Q : Option MV → MG → MU → Prop} {v : Nat ⊕ Nat} : Wp E 153 638 (some (.inr (.inr v)) :: ls) st g μ Q = Wp E 153 639 (some (.inr (.inr v)) :: ls) (.inr (.inr v) :: st) g μ Q := Wp_nx k153_638 rfl
theorem k153_639 : mCode 153 639 = some (.iload_n 3, 1) := by decide +kernel
theorem x153_639 {E : ME} {ls : MLs} {st : List MV} {g : MG} {μ : MU} {Q : Option MV → MG → MU → Prop} {l0 l1 l2 : Option MV} {v : Int} : Wp E 153 639 (l0 :: l1 :: l2 :: some (.inl v) :: ls) st g μ Q = Wp E 153 640 (l0 :: l1 :: l2 :: some (.inl v) :: ls) (.inl v :: st) g μ Q := Wp_nx k153_639 rfl
theorem k153_640 : mCode 153 640 = some (.iconst 2, 1) := by decide +kernel
theorem x153_640 {E : ME} {ls : MLs} {st : List MV} {g : MG} {μ : MU} {Q : Option MV → MG → MU → Prop} : Wp E 153 640 ls st g μ Q = Wp E 153 641 ls (.inl 2 :: st) g μ Q := Wp_nx k153_640 rfl
theorem k153_641 : mCode 153 641 = some (.iadd, 1) := by decide +kernel
theorem x153_641 {E : ME} {ls : MLs} {st : List MV} {g : MG} {μ : MU} {Q : Option MV → MG → MU → Prop} {a b : Int} : Wp E 153 641 ls (.inl b :: .inl a :: st) g μ Q = Wp E 153 642 ls (.inl (mWr (a + b)) :: st) g μ Q := Wp_nx k153_641 rfl
theorem k153_642 : mCode 153 642 = some (.iaload, 1) := by decide +kernel
theorem x153_642 {E : ME} {ls : MLs} {st : List MV} {g : MG} {μ : MU} {Q : Option MV → MG → MU → Prop} {a : Nat} {j : Int} : Wp E 153 642 ls (.inl j :: .inr (.inr (.inl a)) :: st) g μ Q = (((mKd g a).1 = 10 ∧ 0 ≤ j ∧ j < (mKd g a).2) ∧ Wp E 153 643 ls (.inl (μ a j.toNat) :: st) g μ Q) := Wp_ald k153_642 (fun _ => rfl)
theorem x153_642K {E : ME} {ls : MLs} {st : List MV} {g : MG} {μ : MU} {Q : Option MV → MG → MU → Prop} {c : Nat} {j : Int} (hk : mk_isI c = true) : Wp E 153 642 ls (.inl j :: .inr (.inr (.inr c)) :: st) g μ Q = ((0 ≤ j ∧ j < mk_len E c) ∧ Wp E 153 643 ls (.inl (mk_int E c j.toNat) :: st) g μ Q) := Wp_aldK k153_642 hk
theorem k153_643 : mCode 153 643 = some (.aload_n 0, 1) := by decide +kernel
theorem x153_643 {E : ME} {ls : MLs} {st : List MV} {g : MG} {μ : MU} {Q : Option MV → MG → MU → Prop} {v : Nat ⊕ Nat} : Wp E 153 643 (some (.inr (.inr v)) :: ls) st g μ Q = Wp E 153 644 (some (.inr (.inr v)) :: ls) (.inr (.inr v) :: st) g μ Q := Wp_nx k153_643 rfl
theorem k153_644 : mCode 153 644 = some (.iload_n 3, 1) := by decide +kernel
theorem x153_644 {E : ME} {ls : MLs} {st : List MV} {g : MG} {μ : MU} {Q : Option MV → MG → MU → Prop} {l0 l1 l2 : Option MV} {v : Int} : Wp E 153 644 (l0 :: l1 :: l2 :: some (.inl v) :: ls) st g μ Q = Wp E 153 645 (l0 :: l1 :: l2 :: some (.inl v) :: ls) (.inl v :: st) g μ Q := Wp_nx k153_644 rfl
theorem k153_645 : mCode 153 645 = some (.iconst 3, 1) := by decide +kernel
theorem x153_645 {E : ME} {ls : MLs} {st : List MV} {g : MG} {μ : MU} {Q : Option MV → MG → MU → Prop} : Wp E 153 645 ls st g μ Q = Wp E 153 646 ls (.inl 3 :: st) g μ Q := Wp_nx k153_645 rfl
theorem k153_646 : mCode 153 646 = some (.iadd, 1) := by decide +kernel
theorem x153_646 {E : ME} {ls : MLs} {st : List MV} {g : MG} {μ : MU} {Q : Option MV → MG → MU → Prop} {a b : Int} : Wp E 153 646 ls (.inl b :: .inl a :: st) g μ Q = Wp E 153 647 ls (.inl (mWr (a + b)) :: st) g μ Q := Wp_nx k153_646 rfl
theorem k153_647 : mCode 153 647 = some (.iaload, 1) := by decide +kernel
theorem x153_647 {E : ME} {ls : MLs} {st : List MV} {g : MG} {μ : MU} {Q : Option MV → MG → MU → Prop} {a : Nat} {j : Int} : Wp E 153 647 ls (.inl j :: .inr (.inr (.inl a)) :: st) g μ Q = (((mKd g a).1 = 10 ∧ 0 ≤ j ∧ j < (mKd g a).2) ∧ Wp E 153 648 ls (.inl (μ a j.toNat) :: st) g μ Q) := Wp_ald k153_647 (fun _ => rfl)
theorem x153_647K {E : ME} {ls : MLs} {st : List MV} {g : MG} {μ : MU} {Q : Option MV → MG → MU → Prop} {c : Nat} {j : Int} (hk : mk_isI c = true) : Wp E 153 647 ls (.inl j :: .inr (.inr (.inr c)) :: st) g μ Q = ((0 ≤ j ∧ j < mk_len E c) ∧ Wp E 153 648 ls (.inl (mk_int E c j.toNat) :: st) g μ Q) := Wp_aldK k153_647 hk
theorem k153_648 : mCode 153 648 = some (.invokevirtual 73, 3) := by decide +kernel
theorem x153_648 {E : ME} {ls : MLs} {st : List MV} {g : MG} {μ : MU} {Q : Option MV → MG → MU → Prop} {r : Nat} {a0 : Int} {a1 : Int} {a2 : Int} : Wp E 153 648 ls (.inl a2 :: .inl a1 :: .inl a0 :: .inr (.inr (.inl r)) :: st) g μ Q = ((st.length ≤ 4 ∧ ((mKd g r).1 == 5) = true) ∧ Wp E 60 0 [some (.inr (.inr (.inl r))), some (.inl a0), some (.inl a1), some (.inl a2), none, none] [] g μ (fun r g' μ' => (g'.1 = g.1 ∧ g'.2.1 = g.2.1) ∧ Wp E 153 651 ls (mPush r st) g' μ' Q)) := Wp_cV k153_648 m13_73 (by decide) (as := [.inr (.inr (.inl r)), .inl a0, .inl a1, .inl a2]) rfl rfl rfl ⟨Nat.le_of_ble_eq_true rfl, by decide⟩
theorem k153_651 : mCode 153 651 = some (.aload_n 2, 1) := by decide +kernel
theorem x153_651 {E : ME} {ls : MLs} {st : List MV} {g : MG} {μ : MU} {Q : Option MV → MG → MU → Prop} {l0 l1 : Option MV} {v : Nat ⊕ Nat} : Wp E 153 651 (l0 :: l1 :: some (.inr (.inr v)) :: ls) st g μ Q = Wp E 153 652 (l0 :: l1 :: some (.inr (.inr v)) :: ls) (.inr (.inr v) :: st) g μ Q := Wp_nx k153_651 rfl
theorem k153_652 : mCode 153 652 = some (.aload_n 0, 1) := by decide +kernel
theorem x153_652 {E : ME} {ls : MLs} {st : List MV} {g : MG} {μ : MU} {Q : Option MV → MG → MU → Prop} {v : Nat ⊕ Nat} : Wp E 153 652 (some (.inr (.inr v)) :: ls) st g μ Q = Wp E 153 653 (some (.inr (.inr v)) :: ls) (.inr (.inr v) :: st) g μ Q := Wp_nx k153_652 rfl
theorem k153_653 : mCode 153 653 = some (.iload_n 3, 1) := by decide +kernel
theorem x153_653 {E : ME} {ls : MLs} {st : List MV} {g : MG} {μ : MU} {Q : Option MV → MG → MU → Prop} {l0 l1 l2 : Option MV} {v : Int} : Wp E 153 653 (l0 :: l1 :: l2 :: some (.inl v) :: ls) st g μ Q = Wp E 153 654 (l0 :: l1 :: l2 :: some (.inl v) :: ls) (.inl v :: st) g μ Q := Wp_nx k153_653 rfl
theorem k153_654 : mCode 153 654 = some (.iconst 1, 1) := by decide +kernel
theorem x153_654 {E : ME} {ls : MLs} {st : List MV} {g : MG} {μ : MU} {Q : Option MV → MG → MU → Prop} : Wp E 153 654 ls st g μ Q = Wp E 153 655 ls (.inl 1 :: st) g μ Q := Wp_nx k153_654 rfl
theorem k153_655 : mCode 153 655 = some (.iadd, 1) := by decide +kernel
theorem x153_655 {E : ME} {ls : MLs} {st : List MV} {g : MG} {μ : MU} {Q : Option MV → MG → MU → Prop} {a b : Int} : Wp E 153 655 ls (.inl b :: .inl a :: st) g μ Q = Wp E 153 656 ls (.inl (mWr (a + b)) :: st) g μ Q := Wp_nx k153_655 rfl
theorem k153_656 : mCode 153 656 = some (.iaload, 1) := by decide +kernel
theorem x153_656 {E : ME} {ls : MLs} {st : List MV} {g : MG} {μ : MU} {Q : Option MV → MG → MU → Prop} {a : Nat} {j : Int} : Wp E 153 656 ls (.inl j :: .inr (.inr (.inl a)) :: st) g μ Q = (((mKd g a).1 = 10 ∧ 0 ≤ j ∧ j < (mKd g a).2) ∧ Wp E 153 657 ls (.inl (μ a j.toNat) :: st) g μ Q) := Wp_ald k153_656 (fun _ => rfl)
theorem x153_656K {E : ME} {ls : MLs} {st : List MV} {g : MG} {μ : MU} {Q : Option MV → MG → MU → Prop} {c : Nat} {j : Int} (hk : mk_isI c = true) : Wp E 153 656 ls (.inl j :: .inr (.inr (.inr c)) :: st) g μ Q = ((0 ≤ j ∧ j < mk_len E c) ∧ Wp E 153 657 ls (.inl (mk_int E c j.toNat) :: st) g μ Q) := Wp_aldK k153_656 hk
theorem k153_657 : mCode 153 657 = some (.aload_n 0, 1) := by decide +kernel
theorem x153_657 {E : ME} {ls : MLs} {st : List MV} {g : MG} {μ : MU} {Q : Option MV → MG → MU → Prop} {v : Nat ⊕ Nat} : Wp E 153 657 (some (.inr (.inr v)) :: ls) st g μ Q = Wp E 153 658 (some (.inr (.inr v)) :: ls) (.inr (.inr v) :: st) g μ Q := Wp_nx k153_657 rfl
theorem k153_658 : mCode 153 658 = some (.iload_n 3, 1) := by decide +kernel
theorem x153_658 {E : ME} {ls : MLs} {st : List MV} {g : MG} {μ : MU} {Q : Option MV → MG → MU → Prop} {l0 l1 l2 : Option MV} {v : Int} : Wp E 153 658 (l0 :: l1 :: l2 :: some (.inl v) :: ls) st g μ Q = Wp E 153 659 (l0 :: l1 :: l2 :: some (.inl v) :: ls) (.inl v :: st) g μ Q := Wp_nx k153_658 rfl
theorem k153_659 : mCode 153 659 = some (.iconst 2, 1) := by decide +kernel
theorem x153_659 {E : ME} {ls : MLs} {st : List MV} {g : MG} {μ : MU} {Q : Option MV → MG → MU → Prop} : Wp E 153 659 ls st g μ Q = Wp E 153 660 ls (.inl 2 :: st) g μ Q := Wp_nx k153_659 rfl
theorem k153_660 : mCode 153 660 = some (.iadd, 1) := by decide +kernel
theorem x153_660 {E : ME} {ls : MLs} {st : List MV} {g : MG} {μ : MU} {Q : Option MV → MG → MU → Prop} {a b : Int} : Wp E 153 660 ls (.inl b :: .inl a :: st) g μ Q = Wp E 153 661 ls (.inl (mWr (a + b)) :: st) g μ Q := Wp_nx k153_660 rfl
theorem k153_661 : mCode 153 661 = some (.iaload, 1) := by decide +kernel
theorem x153_661 {E : ME} {ls : MLs} {st : List MV} {g : MG} {μ : MU} {Q : Option MV → MG → MU → Prop} {a : Nat} {j : Int} : Wp E 153 661 ls (.inl j :: .inr (.inr (.inl a)) :: st) g μ Q = (((mKd g a).1 = 10 ∧ 0 ≤ j ∧ j < (mKd g a).2) ∧ Wp E 153 662 ls (.inl (μ a j.toNat) :: st) g μ Q) := Wp_ald k153_661 (fun _ => rfl)
theorem x153_661K {E : ME} {ls : MLs} {st : List MV} {g : MG} {μ : MU} {Q : Option MV → MG → MU → Prop} {c : Nat} {j : Int} (hk : mk_isI c = true) : Wp E 153 661 ls (.inl j :: .inr (.inr (.inr c)) :: st) g μ Q = ((0 ≤ j ∧ j < mk_len E c) ∧ Wp E 153 662 ls (.inl (mk_int E c j.toNat) :: st) g μ Q) := Wp_aldK k153_661 hk
theorem k153_662 : mCode 153 662 = some (.aload_n 0, 1) := by decide +kernel
theorem x153_662 {E : ME} {ls : MLs} {st : List MV} {g : MG} {μ : MU} {Q : Option MV → MG → MU → Prop} {v : Nat ⊕ Nat} : Wp E 153 662 (some (.inr (.inr v)) :: ls) st g μ Q = Wp E 153 663 (some (.inr (.inr v)) :: ls) (.inr (.inr v) :: st) g μ Q := Wp_nx k153_662 rfl
theorem k153_663 : mCode 153 663 = some (.iload_n 3, 1) := by decide +kernel
theorem x153_663 {E : ME} {ls : MLs} {st : List MV} {g : MG} {μ : MU} {Q : Option MV → MG → MU → Prop} {l0 l1 l2 : Option MV} {v : Int} : Wp E 153 663 (l0 :: l1 :: l2 :: some (.inl v) :: ls) st g μ Q = Wp E 153 664 (l0 :: l1 :: l2 :: some (.inl v) :: ls) (.inl v :: st) g μ Q := Wp_nx k153_663 rfl
theorem k153_664 : mCode 153 664 = some (.iconst 3, 1) := by decide +kernel
theorem x153_664 {E : ME} {ls : MLs} {st : List MV} {g : MG} {μ : MU} {Q : Option MV → MG → MU → Prop} : Wp E 153 664 ls st g μ Q = Wp E 153 665 ls (.inl 3 :: st) g μ Q := Wp_nx k153_664 rfl
theorem k153_665 : mCode 153 665 = some (.iadd, 1) := by decide +kernel
theorem x153_665 {E : ME} {ls : MLs} {st : List MV} {g : MG} {μ : MU} {Q : Option MV → MG → MU → Prop} {a b : Int} : Wp E 153 665 ls (.inl b :: .inl a :: st) g μ Q = Wp E 153 666 ls (.inl (mWr (a + b)) :: st) g μ Q := Wp_nx k153_665 rfl
theorem k153_666 : mCode 153 666 = some (.iaload, 1) := by decide +kernel
theorem x153_666 {E : ME} {ls : MLs} {st : List MV} {g : MG} {μ : MU} {Q : Option MV → MG → MU → Prop} {a : Nat} {j : Int} : Wp E 153 666 ls (.inl j :: .inr (.inr (.inl a)) :: st) g μ Q = (((mKd g a).1 = 10 ∧ 0 ≤ j ∧ j < (mKd g a).2) ∧ Wp E 153 667 ls (.inl (μ a j.toNat) :: st) g μ Q) := Wp_ald k153_666 (fun _ => rfl)
theorem x153_666K {E : ME} {ls : MLs} {st : List MV} {g : MG} {μ : MU} {Q : Option MV → MG → MU → Prop} {c : Nat} {j : Int} (hk : mk_isI c = true) : Wp E 153 666 ls (.inl j :: .inr (.inr (.inr c)) :: st) g μ Q = ((0 ≤ j ∧ j < mk_len E c) ∧ Wp E 153 667 ls (.inl (mk_int E c j.toNat) :: st) g μ Q) := Wp_aldK k153_666 hk
theorem k153_667 : mCode 153 667 = some (.invokevirtual 76, 3) := by decide +kernel
theorem x153_667 {E : ME} {ls : MLs} {st : List MV} {g : MG} {μ : MU} {Q : Option MV → MG → MU → Prop} {r : Nat} {a0 : Int} {a1 : Int} {a2 : Int} : Wp E 153 667 ls (.inl a2 :: .inl a1 :: .inl a0 :: .inr (.inr (.inl r)) :: st) g μ Q = ((st.length ≤ 4 ∧ ((mKd g r).1 == 6) = true) ∧ Wp E 125 0 [some (.inr (.inr (.inl r))), some (.inl a0), some (.inl a1), some (.inl a2), none, none, none, none] [] g μ (fun r g' μ' => (g'.1 = g.1 ∧ g'.2.1 = g.2.1) ∧ Wp E 153 670 ls (mPush r st) g' μ' Q)) := Wp_cV k153_667 m13_76 (by decide) (as := [.inr (.inr (.inl r)), .inl a0, .inl a1, .inl a2]) rfl rfl rfl ⟨Nat.le_of_ble_eq_true rfl, by decide⟩
theorem k153_670 : mCode 153 670 = some (.if_icmp .eq 179, 3) := by decide +kernel
theorem x153_670 {E : ME} {ls : MLs} {st : List MV} {g : MG} {μ : MU} {Q : Option MV → MG → MU → Prop} {a b : Int} : Wp E 153 670 ls (.inl b :: .inl a :: st) g μ Q = ((a = b → Wp E 153 849 ls st g μ Q) ∧ (¬ a = b → Wp E 153 673 ls st g μ Q)) := Wp_cmp_eq k153_670 (by decide)
theorem k153_673 : mCode 153 673 = some (.iconst 0, 1) := by decide +kernel
theorem x153_673 {E : ME} {ls : MLs} {st : List MV} {g : MG} {μ : MU} {Q : Option MV → MG → MU → Prop} : Wp E 153 673 ls st g μ Q = Wp E 153 674 ls (.inl 0 :: st) g μ Q := Wp_nx k153_673 rfl
theorem k153_674 : mCode 153 674 = some (.ireturn, 1) := by decide +kernel
theorem x153_674 {E : ME} {ls : MLs} {g : MG} {μ : MU} {Q : Option MV → MG → MU → Prop} {v : Int} : Wp E 153 674 ls [.inl v] g μ Q = ((v = 0 ∨ v = 1) ∧ Q (some (.inl v)) g μ) := Wp_retZ k153_674 (by decide)
theorem k153_675 : mCode 153 675 = some (.aload_n 1, 1) := by decide +kernel
theorem x153_675 {E : ME} {ls : MLs} {st : List MV} {g : MG} {μ : MU} {Q : Option MV → MG → MU → Prop} {l0 : Option MV} {v : Nat ⊕ Nat} : Wp E 153 675 (l0 :: some (.inr (.inr v)) :: ls) st g μ Q = Wp E 153 676 (l0 :: some (.inr (.inr v)) :: ls) (.inr (.inr v) :: st) g μ Q := Wp_nx k153_675 rfl
theorem k153_676 : mCode 153 676 = some (.aload_n 0, 1) := by decide +kernel
theorem x153_676 {E : ME} {ls : MLs} {st : List MV} {g : MG} {μ : MU} {Q : Option MV → MG → MU → Prop} {v : Nat ⊕ Nat} : Wp E 153 676 (some (.inr (.inr v)) :: ls) st g μ Q = Wp E 153 677 (some (.inr (.inr v)) :: ls) (.inr (.inr v) :: st) g μ Q := Wp_nx k153_676 rfl
theorem k153_677 : mCode 153 677 = some (.iload_n 3, 1) := by decide +kernel
theorem x153_677 {E : ME} {ls : MLs} {st : List MV} {g : MG} {μ : MU} {Q : Option MV → MG → MU → Prop} {l0 l1 l2 : Option MV} {v : Int} : Wp E 153 677 (l0 :: l1 :: l2 :: some (.inl v) :: ls) st g μ Q = Wp E 153 678 (l0 :: l1 :: l2 :: some (.inl v) :: ls) (.inl v :: st) g μ Q := Wp_nx k153_677 rfl
theorem k153_678 : mCode 153 678 = some (.iconst 1, 1) := by decide +kernel
theorem x153_678 {E : ME} {ls : MLs} {st : List MV} {g : MG} {μ : MU} {Q : Option MV → MG → MU → Prop} : Wp E 153 678 ls st g μ Q = Wp E 153 679 ls (.inl 1 :: st) g μ Q := Wp_nx k153_678 rfl
theorem k153_679 : mCode 153 679 = some (.iadd, 1) := by decide +kernel
theorem x153_679 {E : ME} {ls : MLs} {st : List MV} {g : MG} {μ : MU} {Q : Option MV → MG → MU → Prop} {a b : Int} : Wp E 153 679 ls (.inl b :: .inl a :: st) g μ Q = Wp E 153 680 ls (.inl (mWr (a + b)) :: st) g μ Q := Wp_nx k153_679 rfl
theorem k153_680 : mCode 153 680 = some (.iaload, 1) := by decide +kernel
theorem x153_680 {E : ME} {ls : MLs} {st : List MV} {g : MG} {μ : MU} {Q : Option MV → MG → MU → Prop} {a : Nat} {j : Int} : Wp E 153 680 ls (.inl j :: .inr (.inr (.inl a)) :: st) g μ Q = (((mKd g a).1 = 10 ∧ 0 ≤ j ∧ j < (mKd g a).2) ∧ Wp E 153 681 ls (.inl (μ a j.toNat) :: st) g μ Q) := Wp_ald k153_680 (fun _ => rfl)
theorem x153_680K {E : ME} {ls : MLs} {st : List MV} {g : MG} {μ : MU} {Q : Option MV → MG → MU → Prop} {c : Nat} {j : Int} (hk : mk_isI c = true) : Wp E 153 680 ls (.inl j :: .inr (.inr (.inr c)) :: st) g μ Q = ((0 ≤ j ∧ j < mk_len E c) ∧ Wp E 153 681 ls (.inl (mk_int E c j.toNat) :: st) g μ Q) := Wp_aldK k153_680 hk
theorem k153_681 : mCode 153 681 = some (.invokevirtual 77, 3) := by decide +kernel
theorem x153_681 {E : ME} {ls : MLs} {st : List MV} {g : MG} {μ : MU} {Q : Option MV → MG → MU → Prop} {r : Nat} {a0 : Int} : Wp E 153 681 ls (.inl a0 :: .inr (.inr (.inl r)) :: st) g μ Q = ((st.length ≤ 4 ∧ ((mKd g r).1 == 5) = true) ∧ Wp E 61 0 [some (.inr (.inr (.inl r))), some (.inl a0), none] [] g μ (fun r g' μ' => (g'.1 = g.1 ∧ g'.2.1 = g.2.1) ∧ Wp E 153 684 ls (mPush r st) g' μ' Q)) := Wp_cV k153_681 m13_77 (by decide) (as := [.inr (.inr (.inl r)), .inl a0]) rfl rfl rfl ⟨Nat.le_of_ble_eq_true rfl, by decide⟩
theorem k153_684 : mCode 153 684 = some (.aload_n 2, 1) := by decide +kernel
theorem x153_684 {E : ME} {ls : MLs} {st : List MV} {g : MG} {μ : MU} {Q : Option MV → MG → MU → Prop} {l0 l1 : Option MV} {v : Nat ⊕ Nat} : Wp E 153 684 (l0 :: l1 :: some (.inr (.inr v)) :: ls) st g μ Q = Wp E 153 685 (l0 :: l1 :: some (.inr (.inr v)) :: ls) (.inr (.inr v) :: st) g μ Q := Wp_nx k153_684 rfl
theorem k153_685 : mCode 153 685 = some (.aload_n 0, 1) := by decide +kernel
theorem x153_685 {E : ME} {ls : MLs} {st : List MV} {g : MG} {μ : MU} {Q : Option MV → MG → MU → Prop} {v : Nat ⊕ Nat} : Wp E 153 685 (some (.inr (.inr v)) :: ls) st g μ Q = Wp E 153 686 (some (.inr (.inr v)) :: ls) (.inr (.inr v) :: st) g μ Q := Wp_nx k153_685 rfl
theorem k153_686 : mCode 153 686 = some (.iload_n 3, 1) := by decide +kernel
theorem x153_686 {E : ME} {ls : MLs} {st : List MV} {g : MG} {μ : MU} {Q : Option MV → MG → MU → Prop} {l0 l1 l2 : Option MV} {v : Int} : Wp E 153 686 (l0 :: l1 :: l2 :: some (.inl v) :: ls) st g μ Q = Wp E 153 687 (l0 :: l1 :: l2 :: some (.inl v) :: ls) (.inl v :: st) g μ Q := Wp_nx k153_686 rfl
theorem k153_687 : mCode 153 687 = some (.iconst 1, 1) := by decide +kernel
theorem x153_687 {E : ME} {ls : MLs} {st : List MV} {g : MG} {μ : MU} {Q : Option MV → MG → MU → Prop} : Wp E 153 687 ls st g μ Q = Wp E 153 688 ls (.inl 1 :: st) g μ Q := Wp_nx k153_687 rfl
theorem k153_688 : mCode 153 688 = some (.iadd, 1) := by decide +kernel
theorem x153_688 {E : ME} {ls : MLs} {st : List MV} {g : MG} {μ : MU} {Q : Option MV → MG → MU → Prop} {a b : Int} : Wp E 153 688 ls (.inl b :: .inl a :: st) g μ Q = Wp E 153 689 ls (.inl (mWr (a + b)) :: st) g μ Q := Wp_nx k153_688 rfl
theorem k153_689 : mCode 153 689 = some (.iaload, 1) := by decide +kernel
theorem x153_689 {E : ME} {ls : MLs} {st : List MV} {g : MG} {μ : MU} {Q : Option MV → MG → MU → Prop} {a : Nat} {j : Int} : Wp E 153 689 ls (.inl j :: .inr (.inr (.inl a)) :: st) g μ Q = (((mKd g a).1 = 10 ∧ 0 ≤ j ∧ j < (mKd g a).2) ∧ Wp E 153 690 ls (.inl (μ a j.toNat) :: st) g μ Q) := Wp_ald k153_689 (fun _ => rfl)
theorem x153_689K {E : ME} {ls : MLs} {st : List MV} {g : MG} {μ : MU} {Q : Option MV → MG → MU → Prop} {c : Nat} {j : Int} (hk : mk_isI c = true) : Wp E 153 689 ls (.inl j :: .inr (.inr (.inr c)) :: st) g μ Q = ((0 ≤ j ∧ j < mk_len E c) ∧ Wp E 153 690 ls (.inl (mk_int E c j.toNat) :: st) g μ Q) := Wp_aldK k153_689 hk
theorem k153_690 : mCode 153 690 = some (.invokevirtual 80, 3) := by decide +kernel
theorem x153_690 {E : ME} {ls : MLs} {st : List MV} {g : MG} {μ : MU} {Q : Option MV → MG → MU → Prop} {r : Nat} {a0 : Int} : Wp E 153 690 ls (.inl a0 :: .inr (.inr (.inl r)) :: st) g μ Q = ((st.length ≤ 4 ∧ ((mKd g r).1 == 6) = true) ∧ Wp E 126 0 [some (.inr (.inr (.inl r))), some (.inl a0), none] [] g μ (fun r g' μ' => (g'.1 = g.1 ∧ g'.2.1 = g.2.1) ∧ Wp E 153 693 ls (mPush r st) g' μ' Q)) := Wp_cV k153_690 m13_80 (by decide) (as := [.inr (.inr (.inl r)), .inl a0]) rfl rfl rfl ⟨Nat.le_of_ble_eq_true rfl, by decide⟩
theorem k153_693 : mCode 153 693 = some (.if_icmp .eq 156, 3) := by decide +kernel
theorem x153_693 {E : ME} {ls : MLs} {st : List MV} {g : MG} {μ : MU} {Q : Option MV → MG → MU → Prop} {a b : Int} : Wp E 153 693 ls (.inl b :: .inl a :: st) g μ Q = ((a = b → Wp E 153 849 ls st g μ Q) ∧ (¬ a = b → Wp E 153 696 ls st g μ Q)) := Wp_cmp_eq k153_693 (by decide)
theorem k153_696 : mCode 153 696 = some (.iconst 0, 1) := by decide +kernel
theorem x153_696 {E : ME} {ls : MLs} {st : List MV} {g : MG} {μ : MU} {Q : Option MV → MG → MU → Prop} : Wp E 153 696 ls st g μ Q = Wp E 153 697 ls (.inl 0 :: st) g μ Q := Wp_nx k153_696 rfl
theorem k153_697 : mCode 153 697 = some (.ireturn, 1) := by decide +kernel
theorem x153_697 {E : ME} {ls : MLs} {g : MG} {μ : MU} {Q : Option MV → MG → MU → Prop} {v : Int} : Wp E 153 697 ls [.inl v] g μ Q = ((v = 0 ∨ v = 1) ∧ Q (some (.inl v)) g μ) := Wp_retZ k153_697 (by decide)
theorem k153_698 : mCode 153 698 = some (.aload_n 1, 1) := by decide +kernel
theorem x153_698 {E : ME} {ls : MLs} {st : List MV} {g : MG} {μ : MU} {Q : Option MV → MG → MU → Prop} {l0 : Option MV} {v : Nat ⊕ Nat} : Wp E 153 698 (l0 :: some (.inr (.inr v)) :: ls) st g μ Q = Wp E 153 699 (l0 :: some (.inr (.inr v)) :: ls) (.inr (.inr v) :: st) g μ Q := Wp_nx k153_698 rfl
theorem k153_699 : mCode 153 699 = some (.aload_n 0, 1) := by decide +kernel
theorem x153_699 {E : ME} {ls : MLs} {st : List MV} {g : MG} {μ : MU} {Q : Option MV → MG → MU → Prop} {v : Nat ⊕ Nat} : Wp E 153 699 (some (.inr (.inr v)) :: ls) st g μ Q = Wp E 153 700 (some (.inr (.inr v)) :: ls) (.inr (.inr v) :: st) g μ Q := Wp_nx k153_699 rfl
theorem k153_700 : mCode 153 700 = some (.iload_n 3, 1) := by decide +kernel
theorem x153_700 {E : ME} {ls : MLs} {st : List MV} {g : MG} {μ : MU} {Q : Option MV → MG → MU → Prop} {l0 l1 l2 : Option MV} {v : Int} : Wp E 153 700 (l0 :: l1 :: l2 :: some (.inl v) :: ls) st g μ Q = Wp E 153 701 (l0 :: l1 :: l2 :: some (.inl v) :: ls) (.inl v :: st) g μ Q := Wp_nx k153_700 rfl
theorem k153_701 : mCode 153 701 = some (.iconst 1, 1) := by decide +kernel
theorem x153_701 {E : ME} {ls : MLs} {st : List MV} {g : MG} {μ : MU} {Q : Option MV → MG → MU → Prop} : Wp E 153 701 ls st g μ Q = Wp E 153 702 ls (.inl 1 :: st) g μ Q := Wp_nx k153_701 rfl
theorem k153_702 : mCode 153 702 = some (.iadd, 1) := by decide +kernel
theorem x153_702 {E : ME} {ls : MLs} {st : List MV} {g : MG} {μ : MU} {Q : Option MV → MG → MU → Prop} {a b : Int} : Wp E 153 702 ls (.inl b :: .inl a :: st) g μ Q = Wp E 153 703 ls (.inl (mWr (a + b)) :: st) g μ Q := Wp_nx k153_702 rfl
theorem k153_703 : mCode 153 703 = some (.iaload, 1) := by decide +kernel
theorem x153_703 {E : ME} {ls : MLs} {st : List MV} {g : MG} {μ : MU} {Q : Option MV → MG → MU → Prop} {a : Nat} {j : Int} : Wp E 153 703 ls (.inl j :: .inr (.inr (.inl a)) :: st) g μ Q = (((mKd g a).1 = 10 ∧ 0 ≤ j ∧ j < (mKd g a).2) ∧ Wp E 153 704 ls (.inl (μ a j.toNat) :: st) g μ Q) := Wp_ald k153_703 (fun _ => rfl)
theorem x153_703K {E : ME} {ls : MLs} {st : List MV} {g : MG} {μ : MU} {Q : Option MV → MG → MU → Prop} {c : Nat} {j : Int} (hk : mk_isI c = true) : Wp E 153 703 ls (.inl j :: .inr (.inr (.inr c)) :: st) g μ Q = ((0 ≤ j ∧ j < mk_len E c) ∧ Wp E 153 704 ls (.inl (mk_int E c j.toNat) :: st) g μ Q) := Wp_aldK k153_703 hk
theorem k153_704 : mCode 153 704 = some (.i2l, 1) := by decide +kernel
theorem x153_704 {E : ME} {ls : MLs} {st : List MV} {g : MG} {μ : MU} {Q : Option MV → MG → MU → Prop} {a : Int} : Wp E 153 704 ls (.inl a :: st) g μ Q = Wp E 153 705 ls (.inr (.inl a) :: st) g μ Q := Wp_nx k153_704 rfl
theorem k153_705 : mCode 153 705 = some (.bipush 32, 2) := by decide +kernel
theorem x153_705 {E : ME} {ls : MLs} {st : List MV} {g : MG} {μ : MU} {Q : Option MV → MG → MU → Prop} : Wp E 153 705 ls st g μ Q = Wp E 153 707 ls (.inl 32 :: st) g μ Q := Wp_nx k153_705 rfl
theorem k153_707 : mCode 153 707 = some (.lshl, 1) := by decide +kernel
theorem x153_707 {E : ME} {ls : MLs} {st : List MV} {g : MG} {μ : MU} {Q : Option MV → MG → MU → Prop} {a b : Int} : Wp E 153 707 ls (.inl b :: .inr (.inl a) :: st) g μ Q = Wp E 153 708 ls (.inr (.inl (mLshl a b)) :: st) g μ Q := Wp_nx k153_707 rfl
theorem k153_708 : mCode 153 708 = some (.aload_n 0, 1) := by decide +kernel
theorem x153_708 {E : ME} {ls : MLs} {st : List MV} {g : MG} {μ : MU} {Q : Option MV → MG → MU → Prop} {v : Nat ⊕ Nat} : Wp E 153 708 (some (.inr (.inr v)) :: ls) st g μ Q = Wp E 153 709 (some (.inr (.inr v)) :: ls) (.inr (.inr v) :: st) g μ Q := Wp_nx k153_708 rfl
theorem k153_709 : mCode 153 709 = some (.iload_n 3, 1) := by decide +kernel
theorem x153_709 {E : ME} {ls : MLs} {st : List MV} {g : MG} {μ : MU} {Q : Option MV → MG → MU → Prop} {l0 l1 l2 : Option MV} {v : Int} : Wp E 153 709 (l0 :: l1 :: l2 :: some (.inl v) :: ls) st g μ Q = Wp E 153 710 (l0 :: l1 :: l2 :: some (.inl v) :: ls) (.inl v :: st) g μ Q := Wp_nx k153_709 rfl
theorem k153_710 : mCode 153 710 = some (.iconst 2, 1) := by decide +kernel
theorem x153_710 {E : ME} {ls : MLs} {st : List MV} {g : MG} {μ : MU} {Q : Option MV → MG → MU → Prop} : Wp E 153 710 ls st g μ Q = Wp E 153 711 ls (.inl 2 :: st) g μ Q := Wp_nx k153_710 rfl
theorem k153_711 : mCode 153 711 = some (.iadd, 1) := by decide +kernel
theorem x153_711 {E : ME} {ls : MLs} {st : List MV} {g : MG} {μ : MU} {Q : Option MV → MG → MU → Prop} {a b : Int} : Wp E 153 711 ls (.inl b :: .inl a :: st) g μ Q = Wp E 153 712 ls (.inl (mWr (a + b)) :: st) g μ Q := Wp_nx k153_711 rfl
theorem k153_712 : mCode 153 712 = some (.iaload, 1) := by decide +kernel
theorem x153_712 {E : ME} {ls : MLs} {st : List MV} {g : MG} {μ : MU} {Q : Option MV → MG → MU → Prop} {a : Nat} {j : Int} : Wp E 153 712 ls (.inl j :: .inr (.inr (.inl a)) :: st) g μ Q = (((mKd g a).1 = 10 ∧ 0 ≤ j ∧ j < (mKd g a).2) ∧ Wp E 153 713 ls (.inl (μ a j.toNat) :: st) g μ Q) := Wp_ald k153_712 (fun _ => rfl)
theorem x153_712K {E : ME} {ls : MLs} {st : List MV} {g : MG} {μ : MU} {Q : Option MV → MG → MU → Prop} {c : Nat} {j : Int} (hk : mk_isI c = true) : Wp E 153 712 ls (.inl j :: .inr (.inr (.inr c)) :: st) g μ Q = ((0 ≤ j ∧ j < mk_len E c) ∧ Wp E 153 713 ls (.inl (mk_int E c j.toNat) :: st) g μ Q) := Wp_aldK k153_712 hk
theorem k153_713 : mCode 153 713 = some (.i2l, 1) := by decide +kernel
theorem x153_713 {E : ME} {ls : MLs} {st : List MV} {g : MG} {μ : MU} {Q : Option MV → MG → MU → Prop} {a : Int} : Wp E 153 713 ls (.inl a :: st) g μ Q = Wp E 153 714 ls (.inr (.inl a) :: st) g μ Q := Wp_nx k153_713 rfl
theorem k153_714 : mCode 153 714 = some (.ldc2_w 81, 3) := by decide +kernel
theorem x153_714 {E : ME} {ls : MLs} {st : List MV} {g : MG} {μ : MU} {Q : Option MV → MG → MU → Prop} : Wp E 153 714 ls st g μ Q = Wp E 153 717 ls (mL (4294967295) :: st) g μ Q := Wp_ldc2_w k153_714 (by decide +kernel)
theorem k153_717 : mCode 153 717 = some (.land, 1) := by decide +kernel
theorem x153_717 {E : ME} {ls : MLs} {st : List MV} {g : MG} {μ : MU} {Q : Option MV → MG → MU → Prop} {a b : Int} : Wp E 153 717 ls (.inr (.inl b) :: .inr (.inl a) :: st) g μ Q = Wp E 153 718 ls (.inr (.inl (mLand a b)) :: st) g μ Q := Wp_nx k153_717 rfl
theorem k153_718 : mCode 153 718 = some (.lor, 1) := by decide +kernel
theorem x153_718 {E : ME} {ls : MLs} {st : List MV} {g : MG} {μ : MU} {Q : Option MV → MG → MU → Prop} {a b : Int} : Wp E 153 718 ls (.inr (.inl b) :: .inr (.inl a) :: st) g μ Q = Wp E 153 719 ls (.inr (.inl (mLor a b)) :: st) g μ Q := Wp_nx k153_718 rfl
theorem k153_719 : mCode 153 719 = some (.invokevirtual 83, 3) := by decide +kernel
theorem x153_719 {E : ME} {ls : MLs} {st : List MV} {g : MG} {μ : MU} {Q : Option MV → MG → MU → Prop} {r : Nat} {a0 : Int} : Wp E 153 719 ls (.inr (.inl a0) :: .inr (.inr (.inl r)) :: st) g μ Q = ((st.length ≤ 4 ∧ ((mKd g r).1 == 5) = true) ∧ Wp E 64 0 [some (.inr (.inr (.inl r))), some (.inr (.inl a0)), none] [] g μ (fun r g' μ' => (g'.1 = g.1 ∧ g'.2.1 = g.2.1) ∧ Wp E 153 722 ls (mPush r st) g' μ' Q)) := Wp_cV k153_719 m13_83 (by decide) (as := [.inr (.inr (.inl r)), .inr (.inl a0)]) rfl rfl rfl ⟨Nat.le_of_ble_eq_true rfl, by decide⟩
theorem k153_722 : mCode 153 722 = some (.aload_n 2, 1) := by decide +kernel
theorem x153_722 {E : ME} {ls : MLs} {st : List MV} {g : MG} {μ : MU} {Q : Option MV → MG → MU → Prop} {l0 l1 : Option MV} {v : Nat ⊕ Nat} : Wp E 153 722 (l0 :: l1 :: some (.inr (.inr v)) :: ls) st g μ Q = Wp E 153 723 (l0 :: l1 :: some (.inr (.inr v)) :: ls) (.inr (.inr v) :: st) g μ Q := Wp_nx k153_722 rfl
theorem k153_723 : mCode 153 723 = some (.aload_n 0, 1) := by decide +kernel
theorem x153_723 {E : ME} {ls : MLs} {st : List MV} {g : MG} {μ : MU} {Q : Option MV → MG → MU → Prop} {v : Nat ⊕ Nat} : Wp E 153 723 (some (.inr (.inr v)) :: ls) st g μ Q = Wp E 153 724 (some (.inr (.inr v)) :: ls) (.inr (.inr v) :: st) g μ Q := Wp_nx k153_723 rfl
theorem k153_724 : mCode 153 724 = some (.iload_n 3, 1) := by decide +kernel
theorem x153_724 {E : ME} {ls : MLs} {st : List MV} {g : MG} {μ : MU} {Q : Option MV → MG → MU → Prop} {l0 l1 l2 : Option MV} {v : Int} : Wp E 153 724 (l0 :: l1 :: l2 :: some (.inl v) :: ls) st g μ Q = Wp E 153 725 (l0 :: l1 :: l2 :: some (.inl v) :: ls) (.inl v :: st) g μ Q := Wp_nx k153_724 rfl
theorem k153_725 : mCode 153 725 = some (.iconst 1, 1) := by decide +kernel
theorem x153_725 {E : ME} {ls : MLs} {st : List MV} {g : MG} {μ : MU} {Q : Option MV → MG → MU → Prop} : Wp E 153 725 ls st g μ Q = Wp E 153 726 ls (.inl 1 :: st) g μ Q := Wp_nx k153_725 rfl
theorem k153_726 : mCode 153 726 = some (.iadd, 1) := by decide +kernel
theorem x153_726 {E : ME} {ls : MLs} {st : List MV} {g : MG} {μ : MU} {Q : Option MV → MG → MU → Prop} {a b : Int} : Wp E 153 726 ls (.inl b :: .inl a :: st) g μ Q = Wp E 153 727 ls (.inl (mWr (a + b)) :: st) g μ Q := Wp_nx k153_726 rfl
theorem k153_727 : mCode 153 727 = some (.iaload, 1) := by decide +kernel
theorem x153_727 {E : ME} {ls : MLs} {st : List MV} {g : MG} {μ : MU} {Q : Option MV → MG → MU → Prop} {a : Nat} {j : Int} : Wp E 153 727 ls (.inl j :: .inr (.inr (.inl a)) :: st) g μ Q = (((mKd g a).1 = 10 ∧ 0 ≤ j ∧ j < (mKd g a).2) ∧ Wp E 153 728 ls (.inl (μ a j.toNat) :: st) g μ Q) := Wp_ald k153_727 (fun _ => rfl)
theorem x153_727K {E : ME} {ls : MLs} {st : List MV} {g : MG} {μ : MU} {Q : Option MV → MG → MU → Prop} {c : Nat} {j : Int} (hk : mk_isI c = true) : Wp E 153 727 ls (.inl j :: .inr (.inr (.inr c)) :: st) g μ Q = ((0 ≤ j ∧ j < mk_len E c) ∧ Wp E 153 728 ls (.inl (mk_int E c j.toNat) :: st) g μ Q) := Wp_aldK k153_727 hk
theorem k153_728 : mCode 153 728 = some (.i2l, 1) := by decide +kernel
theorem x153_728 {E : ME} {ls : MLs} {st : List MV} {g : MG} {μ : MU} {Q : Option MV → MG → MU → Prop} {a : Int} : Wp E 153 728 ls (.inl a :: st) g μ Q = Wp E 153 729 ls (.inr (.inl a) :: st) g μ Q := Wp_nx k153_728 rfl
theorem k153_729 : mCode 153 729 = some (.bipush 32, 2) := by decide +kernel
theorem x153_729 {E : ME} {ls : MLs} {st : List MV} {g : MG} {μ : MU} {Q : Option MV → MG → MU → Prop} : Wp E 153 729 ls st g μ Q = Wp E 153 731 ls (.inl 32 :: st) g μ Q := Wp_nx k153_729 rfl
theorem k153_731 : mCode 153 731 = some (.lshl, 1) := by decide +kernel
theorem x153_731 {E : ME} {ls : MLs} {st : List MV} {g : MG} {μ : MU} {Q : Option MV → MG → MU → Prop} {a b : Int} : Wp E 153 731 ls (.inl b :: .inr (.inl a) :: st) g μ Q = Wp E 153 732 ls (.inr (.inl (mLshl a b)) :: st) g μ Q := Wp_nx k153_731 rfl
theorem k153_732 : mCode 153 732 = some (.aload_n 0, 1) := by decide +kernel
theorem x153_732 {E : ME} {ls : MLs} {st : List MV} {g : MG} {μ : MU} {Q : Option MV → MG → MU → Prop} {v : Nat ⊕ Nat} : Wp E 153 732 (some (.inr (.inr v)) :: ls) st g μ Q = Wp E 153 733 (some (.inr (.inr v)) :: ls) (.inr (.inr v) :: st) g μ Q := Wp_nx k153_732 rfl
theorem k153_733 : mCode 153 733 = some (.iload_n 3, 1) := by decide +kernel
theorem x153_733 {E : ME} {ls : MLs} {st : List MV} {g : MG} {μ : MU} {Q : Option MV → MG → MU → Prop} {l0 l1 l2 : Option MV} {v : Int} : Wp E 153 733 (l0 :: l1 :: l2 :: some (.inl v) :: ls) st g μ Q = Wp E 153 734 (l0 :: l1 :: l2 :: some (.inl v) :: ls) (.inl v :: st) g μ Q := Wp_nx k153_733 rfl
theorem k153_734 : mCode 153 734 = some (.iconst 2, 1) := by decide +kernel
theorem x153_734 {E : ME} {ls : MLs} {st : List MV} {g : MG} {μ : MU} {Q : Option MV → MG → MU → Prop} : Wp E 153 734 ls st g μ Q = Wp E 153 735 ls (.inl 2 :: st) g μ Q := Wp_nx k153_734 rfl
theorem k153_735 : mCode 153 735 = some (.iadd, 1) := by decide +kernel
theorem x153_735 {E : ME} {ls : MLs} {st : List MV} {g : MG} {μ : MU} {Q : Option MV → MG → MU → Prop} {a b : Int} : Wp E 153 735 ls (.inl b :: .inl a :: st) g μ Q = Wp E 153 736 ls (.inl (mWr (a + b)) :: st) g μ Q := Wp_nx k153_735 rfl
theorem k153_736 : mCode 153 736 = some (.iaload, 1) := by decide +kernel
theorem x153_736 {E : ME} {ls : MLs} {st : List MV} {g : MG} {μ : MU} {Q : Option MV → MG → MU → Prop} {a : Nat} {j : Int} : Wp E 153 736 ls (.inl j :: .inr (.inr (.inl a)) :: st) g μ Q = (((mKd g a).1 = 10 ∧ 0 ≤ j ∧ j < (mKd g a).2) ∧ Wp E 153 737 ls (.inl (μ a j.toNat) :: st) g μ Q) := Wp_ald k153_736 (fun _ => rfl)
theorem x153_736K {E : ME} {ls : MLs} {st : List MV} {g : MG} {μ : MU} {Q : Option MV → MG → MU → Prop} {c : Nat} {j : Int} (hk : mk_isI c = true) : Wp E 153 736 ls (.inl j :: .inr (.inr (.inr c)) :: st) g μ Q = ((0 ≤ j ∧ j < mk_len E c) ∧ Wp E 153 737 ls (.inl (mk_int E c j.toNat) :: st) g μ Q) := Wp_aldK k153_736 hk
theorem k153_737 : mCode 153 737 = some (.i2l, 1) := by decide +kernel
theorem x153_737 {E : ME} {ls : MLs} {st : List MV} {g : MG} {μ : MU} {Q : Option MV → MG → MU → Prop} {a : Int} : Wp E 153 737 ls (.inl a :: st) g μ Q = Wp E 153 738 ls (.inr (.inl a) :: st) g μ Q := Wp_nx k153_737 rfl
theorem k153_738 : mCode 153 738 = some (.ldc2_w 81, 3) := by decide +kernel
theorem x153_738 {E : ME} {ls : MLs} {st : List MV} {g : MG} {μ : MU} {Q : Option MV → MG → MU → Prop} : Wp E 153 738 ls st g μ Q = Wp E 153 741 ls (mL (4294967295) :: st) g μ Q := Wp_ldc2_w k153_738 (by decide +kernel)
theorem k153_741 : mCode 153 741 = some (.land, 1) := by decide +kernel
theorem x153_741 {E : ME} {ls : MLs} {st : List MV} {g : MG} {μ : MU} {Q : Option MV → MG → MU → Prop} {a b : Int} : Wp E 153 741 ls (.inr (.inl b) :: .inr (.inl a) :: st) g μ Q = Wp E 153 742 ls (.inr (.inl (mLand a b)) :: st) g μ Q := Wp_nx k153_741 rfl
theorem k153_742 : mCode 153 742 = some (.lor, 1) := by decide +kernel
theorem x153_742 {E : ME} {ls : MLs} {st : List MV} {g : MG} {μ : MU} {Q : Option MV → MG → MU → Prop} {a b : Int} : Wp E 153 742 ls (.inr (.inl b) :: .inr (.inl a) :: st) g μ Q = Wp E 153 743 ls (.inr (.inl (mLor a b)) :: st) g μ Q := Wp_nx k153_742 rfl
theorem k153_743 : mCode 153 743 = some (.invokevirtual 87, 3) := by decide +kernel
theorem x153_743 {E : ME} {ls : MLs} {st : List MV} {g : MG} {μ : MU} {Q : Option MV → MG → MU → Prop} {r : Nat} {a0 : Int} : Wp E 153 743 ls (.inr (.inl a0) :: .inr (.inr (.inl r)) :: st) g μ Q = ((st.length ≤ 4 ∧ ((mKd g r).1 == 6) = true) ∧ Wp E 127 0 [some (.inr (.inr (.inl r))), some (.inr (.inl a0)), none, none, none, none, none, none] [] g μ (fun r g' μ' => (g'.1 = g.1 ∧ g'.2.1 = g.2.1) ∧ Wp E 153 746 ls (mPush r st) g' μ' Q)) := Wp_cV k153_743 m13_87 (by decide) (as := [.inr (.inr (.inl r)), .inr (.inl a0)]) rfl rfl rfl ⟨Nat.le_of_ble_eq_true rfl, by decide⟩
theorem k153_746 : mCode 153 746 = some (.if_icmp .eq 103, 3) := by decide +kernel
theorem x153_746 {E : ME} {ls : MLs} {st : List MV} {g : MG} {μ : MU} {Q : Option MV → MG → MU → Prop} {a b : Int} : Wp E 153 746 ls (.inl b :: .inl a :: st) g μ Q = ((a = b → Wp E 153 849 ls st g μ Q) ∧ (¬ a = b → Wp E 153 749 ls st g μ Q)) := Wp_cmp_eq k153_746 (by decide)
theorem k153_749 : mCode 153 749 = some (.iconst 0, 1) := by decide +kernel
theorem x153_749 {E : ME} {ls : MLs} {st : List MV} {g : MG} {μ : MU} {Q : Option MV → MG → MU → Prop} : Wp E 153 749 ls st g μ Q = Wp E 153 750 ls (.inl 0 :: st) g μ Q := Wp_nx k153_749 rfl
theorem k153_750 : mCode 153 750 = some (.ireturn, 1) := by decide +kernel
theorem x153_750 {E : ME} {ls : MLs} {g : MG} {μ : MU} {Q : Option MV → MG → MU → Prop} {v : Int} : Wp E 153 750 ls [.inl v] g μ Q = ((v = 0 ∨ v = 1) ∧ Q (some (.inl v)) g μ) := Wp_retZ k153_750 (by decide)
theorem k153_751 : mCode 153 751 = some (.aload_n 1, 1) := by decide +kernel
theorem x153_751 {E : ME} {ls : MLs} {st : List MV} {g : MG} {μ : MU} {Q : Option MV → MG → MU → Prop} {l0 : Option MV} {v : Nat ⊕ Nat} : Wp E 153 751 (l0 :: some (.inr (.inr v)) :: ls) st g μ Q = Wp E 153 752 (l0 :: some (.inr (.inr v)) :: ls) (.inr (.inr v) :: st) g μ Q := Wp_nx k153_751 rfl
theorem k153_752 : mCode 153 752 = some (.invokevirtual 88, 3) := by decide +kernel
theorem x153_752 {E : ME} {ls : MLs} {st : List MV} {g : MG} {μ : MU} {Q : Option MV → MG → MU → Prop} {r : Nat} : Wp E 153 752 ls (.inr (.inr (.inl r)) :: st) g μ Q = ((st.length ≤ 4 ∧ ((mKd g r).1 == 5) = true) ∧ Wp E 65 0 [some (.inr (.inr (.inl r))), none] [] g μ (fun r g' μ' => (g'.1 = g.1 ∧ g'.2.1 = g.2.1) ∧ Wp E 153 755 ls (mPush r st) g' μ' Q)) := Wp_cV k153_752 m13_88 (by decide) (as := [.inr (.inr (.inl r))]) rfl rfl rfl ⟨Nat.le_of_ble_eq_true rfl, by decide⟩
theorem k153_755 : mCode 153 755 = some (.aload_n 2, 1) := by decide +kernel
theorem x153_755 {E : ME} {ls : MLs} {st : List MV} {g : MG} {μ : MU} {Q : Option MV → MG → MU → Prop} {l0 l1 : Option MV} {v : Nat ⊕ Nat} : Wp E 153 755 (l0 :: l1 :: some (.inr (.inr v)) :: ls) st g μ Q = Wp E 153 756 (l0 :: l1 :: some (.inr (.inr v)) :: ls) (.inr (.inr v) :: st) g μ Q := Wp_nx k153_755 rfl
theorem k153_756 : mCode 153 756 = some (.invokevirtual 92, 3) := by decide +kernel
theorem x153_756 {E : ME} {ls : MLs} {st : List MV} {g : MG} {μ : MU} {Q : Option MV → MG → MU → Prop} {r : Nat} : Wp E 153 756 ls (.inr (.inr (.inl r)) :: st) g μ Q = ((st.length ≤ 4 ∧ ((mKd g r).1 == 6) = true) ∧ Wp E 128 0 [some (.inr (.inr (.inl r))), none] [] g μ (fun r g' μ' => (g'.1 = g.1 ∧ g'.2.1 = g.2.1) ∧ Wp E 153 759 ls (mPush r st) g' μ' Q)) := Wp_cV k153_756 m13_92 (by decide) (as := [.inr (.inr (.inl r))]) rfl rfl rfl ⟨Nat.le_of_ble_eq_true rfl, by decide⟩
theorem k153_759 : mCode 153 759 = some (.if_icmp .eq 90, 3) := by decide +kernel
theorem x153_759 {E : ME} {ls : MLs} {st : List MV} {g : MG} {μ : MU} {Q : Option MV → MG → MU → Prop} {a b : Int} : Wp E 153 759 ls (.inl b :: .inl a :: st) g μ Q = ((a = b → Wp E 153 849 ls st g μ Q) ∧ (¬ a = b → Wp E 153 762 ls st g μ Q)) := Wp_cmp_eq k153_759 (by decide)
theorem k153_762 : mCode 153 762 = some (.iconst 0, 1) := by decide +kernel
theorem x153_762 {E : ME} {ls : MLs} {st : List MV} {g : MG} {μ : MU} {Q : Option MV → MG → MU → Prop} : Wp E 153 762 ls st g μ Q = Wp E 153 763 ls (.inl 0 :: st) g μ Q := Wp_nx k153_762 rfl
theorem k153_763 : mCode 153 763 = some (.ireturn, 1) := by decide +kernel
theorem x153_763 {E : ME} {ls : MLs} {g : MG} {μ : MU} {Q : Option MV → MG → MU → Prop} {v : Int} : Wp E 153 763 ls [.inl v] g μ Q = ((v = 0 ∨ v = 1) ∧ Q (some (.inl v)) g μ) := Wp_retZ k153_763 (by decide)
theorem k153_764 : mCode 153 764 = some (.aload_n 1, 1) := by decide +kernel
theorem x153_764 {E : ME} {ls : MLs} {st : List MV} {g : MG} {μ : MU} {Q : Option MV → MG → MU → Prop} {l0 : Option MV} {v : Nat ⊕ Nat} : Wp E 153 764 (l0 :: some (.inr (.inr v)) :: ls) st g μ Q = Wp E 153 765 (l0 :: some (.inr (.inr v)) :: ls) (.inr (.inr v) :: st) g μ Q := Wp_nx k153_764 rfl
theorem k153_765 : mCode 153 765 = some (.invokevirtual 93, 3) := by decide +kernel
theorem x153_765 {E : ME} {ls : MLs} {st : List MV} {g : MG} {μ : MU} {Q : Option MV → MG → MU → Prop} {r : Nat} : Wp E 153 765 ls (.inr (.inr (.inl r)) :: st) g μ Q = ((st.length ≤ 4 ∧ ((mKd g r).1 == 5) = true) ∧ Wp E 66 0 [some (.inr (.inr (.inl r)))] [] g μ (fun r g' μ' => (g'.1 = g.1 ∧ g'.2.1 = g.2.1) ∧ Wp E 153 768 ls (mPush r st) g' μ' Q)) := Wp_cV k153_765 m13_93 (by decide) (as := [.inr (.inr (.inl r))]) rfl rfl rfl ⟨Nat.le_of_ble_eq_true rfl, by decide⟩
theorem k153_768 : mCode 153 768 = some (.aload_n 2, 1) := by decide +kernel
theorem x153_768 {E : ME} {ls : MLs} {st : List MV} {g : MG} {μ : MU} {Q : Option MV → MG → MU → Prop} {l0 l1 : Option MV} {v : Nat ⊕ Nat} : Wp E 153 768 (l0 :: l1 :: some (.inr (.inr v)) :: ls) st g μ Q = Wp E 153 769 (l0 :: l1 :: some (.inr (.inr v)) :: ls) (.inr (.inr v) :: st) g μ Q := Wp_nx k153_768 rfl
theorem k153_769 : mCode 153 769 = some (.invokevirtual 96, 3) := by decide +kernel
theorem x153_769 {E : ME} {ls : MLs} {st : List MV} {g : MG} {μ : MU} {Q : Option MV → MG → MU → Prop} {r : Nat} : Wp E 153 769 ls (.inr (.inr (.inl r)) :: st) g μ Q = ((st.length ≤ 4 ∧ ((mKd g r).1 == 6) = true) ∧ Wp E 135 0 [some (.inr (.inr (.inl r)))] [] g μ (fun r g' μ' => (g'.1 = g.1 ∧ g'.2.1 = g.2.1) ∧ Wp E 153 772 ls (mPush r st) g' μ' Q)) := Wp_cV k153_769 m13_96 (by decide) (as := [.inr (.inr (.inl r))]) rfl rfl rfl ⟨Nat.le_of_ble_eq_true rfl, by decide⟩
theorem k153_772 : mCode 153 772 = some (.if_icmp .eq 77, 3) := by decide +kernel
theorem x153_772 {E : ME} {ls : MLs} {st : List MV} {g : MG} {μ : MU} {Q : Option MV → MG → MU → Prop} {a b : Int} : Wp E 153 772 ls (.inl b :: .inl a :: st) g μ Q = ((a = b → Wp E 153 849 ls st g μ Q) ∧ (¬ a = b → Wp E 153 775 ls st g μ Q)) := Wp_cmp_eq k153_772 (by decide)
theorem k153_775 : mCode 153 775 = some (.iconst 0, 1) := by decide +kernel
theorem x153_775 {E : ME} {ls : MLs} {st : List MV} {g : MG} {μ : MU} {Q : Option MV → MG → MU → Prop} : Wp E 153 775 ls st g μ Q = Wp E 153 776 ls (.inl 0 :: st) g μ Q := Wp_nx k153_775 rfl
theorem k153_776 : mCode 153 776 = some (.ireturn, 1) := by decide +kernel
theorem x153_776 {E : ME} {ls : MLs} {g : MG} {μ : MU} {Q : Option MV → MG → MU → Prop} {v : Int} : Wp E 153 776 ls [.inl v] g μ Q = ((v = 0 ∨ v = 1) ∧ Q (some (.inl v)) g μ) := Wp_retZ k153_776 (by decide)
theorem k153_777 : mCode 153 777 = some (.aload_n 1, 1) := by decide +kernel
theorem x153_777 {E : ME} {ls : MLs} {st : List MV} {g : MG} {μ : MU} {Q : Option MV → MG → MU → Prop} {l0 : Option MV} {v : Nat ⊕ Nat} : Wp E 153 777 (l0 :: some (.inr (.inr v)) :: ls) st g μ Q = Wp E 153 778 (l0 :: some (.inr (.inr v)) :: ls) (.inr (.inr v) :: st) g μ Q := Wp_nx k153_777 rfl
theorem k153_778 : mCode 153 778 = some (.invokevirtual 97, 3) := by decide +kernel
theorem x153_778 {E : ME} {ls : MLs} {st : List MV} {g : MG} {μ : MU} {Q : Option MV → MG → MU → Prop} {r : Nat} : Wp E 153 778 ls (.inr (.inr (.inl r)) :: st) g μ Q = ((st.length ≤ 4 ∧ ((mKd g r).1 == 5) = true) ∧ Wp E 67 0 [some (.inr (.inr (.inl r))), none] [] g μ (fun r g' μ' => (g'.1 = g.1 ∧ g'.2.1 = g.2.1) ∧ Wp E 153 781 ls (mPush r st) g' μ' Q)) := Wp_cV k153_778 m13_97 (by decide) (as := [.inr (.inr (.inl r))]) rfl rfl rfl ⟨Nat.le_of_ble_eq_true rfl, by decide⟩
theorem k153_781 : mCode 153 781 = some (.aload_n 2, 1) := by decide +kernel
theorem x153_781 {E : ME} {ls : MLs} {st : List MV} {g : MG} {μ : MU} {Q : Option MV → MG → MU → Prop} {l0 l1 : Option MV} {v : Nat ⊕ Nat} : Wp E 153 781 (l0 :: l1 :: some (.inr (.inr v)) :: ls) st g μ Q = Wp E 153 782 (l0 :: l1 :: some (.inr (.inr v)) :: ls) (.inr (.inr v) :: st) g μ Q := Wp_nx k153_781 rfl
theorem k153_782 : mCode 153 782 = some (.invokevirtual 100, 3) := by decide +kernel
theorem x153_782 {E : ME} {ls : MLs} {st : List MV} {g : MG} {μ : MU} {Q : Option MV → MG → MU → Prop} {r : Nat} : Wp E 153 782 ls (.inr (.inr (.inl r)) :: st) g μ Q = ((st.length ≤ 4 ∧ ((mKd g r).1 == 6) = true) ∧ Wp E 138 0 [some (.inr (.inr (.inl r))), none] [] g μ (fun r g' μ' => (g'.1 = g.1 ∧ g'.2.1 = g.2.1) ∧ Wp E 153 785 ls (mPush r st) g' μ' Q)) := Wp_cV k153_782 m13_100 (by decide) (as := [.inr (.inr (.inl r))]) rfl rfl rfl ⟨Nat.le_of_ble_eq_true rfl, by decide⟩
theorem k153_785 : mCode 153 785 = some (.if_icmp .eq 64, 3) := by decide +kernel
theorem x153_785 {E : ME} {ls : MLs} {st : List MV} {g : MG} {μ : MU} {Q : Option MV → MG → MU → Prop} {a b : Int} : Wp E 153 785 ls (.inl b :: .inl a :: st) g μ Q = ((a = b → Wp E 153 849 ls st g μ Q) ∧ (¬ a = b → Wp E 153 788 ls st g μ Q)) := Wp_cmp_eq k153_785 (by decide)
theorem k153_788 : mCode 153 788 = some (.iconst 0, 1) := by decide +kernel
theorem x153_788 {E : ME} {ls : MLs} {st : List MV} {g : MG} {μ : MU} {Q : Option MV → MG → MU → Prop} : Wp E 153 788 ls st g μ Q = Wp E 153 789 ls (.inl 0 :: st) g μ Q := Wp_nx k153_788 rfl
theorem k153_789 : mCode 153 789 = some (.ireturn, 1) := by decide +kernel
theorem x153_789 {E : ME} {ls : MLs} {g : MG} {μ : MU} {Q : Option MV → MG → MU → Prop} {v : Int} : Wp E 153 789 ls [.inl v] g μ Q = ((v = 0 ∨ v = 1) ∧ Q (some (.inl v)) g μ) := Wp_retZ k153_789 (by decide)
theorem k153_790 : mCode 153 790 = some (.aload_n 1, 1) := by decide +kernel
theorem x153_790 {E : ME} {ls : MLs} {st : List MV} {g : MG} {μ : MU} {Q : Option MV → MG → MU → Prop} {l0 : Option MV} {v : Nat ⊕ Nat} : Wp E 153 790 (l0 :: some (.inr (.inr v)) :: ls) st g μ Q = Wp E 153 791 (l0 :: some (.inr (.inr v)) :: ls) (.inr (.inr v) :: st) g μ Q := Wp_nx k153_790 rfl
theorem k153_791 : mCode 153 791 = some (.invokevirtual 101, 3) := by decide +kernel
theorem x153_791 {E : ME} {ls : MLs} {st : List MV} {g : MG} {μ : MU} {Q : Option MV → MG → MU → Prop} {r : Nat} : Wp E 153 791 ls (.inr (.inr (.inl r)) :: st) g μ Q = ((st.length ≤ 4 ∧ ((mKd g r).1 == 5) = true) ∧ Wp E 70 0 [some (.inr (.inr (.inl r)))] [] g μ (fun r g' μ' => (g'.1 = g.1 ∧ g'.2.1 = g.2.1) ∧ Wp E 153 794 ls (mPush r st) g' μ' Q)) := Wp_cV k153_791 m13_101 (by decide) (as := [.inr (.inr (.inl r))]) rfl rfl rfl ⟨Nat.le_of_ble_eq_true rfl, by decide⟩
theorem k153_794 : mCode 153 794 = some (.aload_n 2, 1) := by decide +kernel
theorem x153_794 {E : ME} {ls : MLs} {st : List MV} {g : MG} {μ : MU} {Q : Option MV → MG → MU → Prop} {l0 l1 : Option MV} {v : Nat ⊕ Nat} : Wp E 153 794 (l0 :: l1 :: some (.inr (.inr v)) :: ls) st g μ Q = Wp E 153 795 (l0 :: l1 :: some (.inr (.inr v)) :: ls) (.inr (.inr v) :: st) g μ Q := Wp_nx k153_794 rfl
theorem k153_795 : mCode 153 795 = some (.invokevirtual 104, 3) := by decide +kernel
theorem x153_795 {E : ME} {ls : MLs} {st : List MV} {g : MG} {μ : MU} {Q : Option MV → MG → MU → Prop} {r : Nat} : Wp E 153 795 ls (.inr (.inr (.inl r)) :: st) g μ Q = ((st.length ≤ 4 ∧ ((mKd g r).1 == 6) = true) ∧ Wp E 139 0 [some (.inr (.inr (.inl r))), none] [] g μ (fun r g' μ' => (g'.1 = g.1 ∧ g'.2.1 = g.2.1) ∧ Wp E 153 798 ls (mPush r st) g' μ' Q)) := Wp_cV k153_795 m13_104 (by decide) (as := [.inr (.inr (.inl r))]) rfl rfl rfl ⟨Nat.le_of_ble_eq_true rfl, by decide⟩
theorem k153_798 : mCode 153 798 = some (.if_icmp .eq 51, 3) := by decide +kernel
theorem x153_798 {E : ME} {ls : MLs} {st : List MV} {g : MG} {μ : MU} {Q : Option MV → MG → MU → Prop} {a b : Int} : Wp E 153 798 ls (.inl b :: .inl a :: st) g μ Q = ((a = b → Wp E 153 849 ls st g μ Q) ∧ (¬ a = b → Wp E 153 801 ls st g μ Q)) := Wp_cmp_eq k153_798 (by decide)
theorem k153_801 : mCode 153 801 = some (.iconst 0, 1) := by decide +kernel
theorem x153_801 {E : ME} {ls : MLs} {st : List MV} {g : MG} {μ : MU} {Q : Option MV → MG → MU → Prop} : Wp E 153 801 ls st g μ Q = Wp E 153 802 ls (.inl 0 :: st) g μ Q := Wp_nx k153_801 rfl
theorem k153_802 : mCode 153 802 = some (.ireturn, 1) := by decide +kernel
theorem x153_802 {E : ME} {ls : MLs} {g : MG} {μ : MU} {Q : Option MV → MG → MU → Prop} {v : Int} : Wp E 153 802 ls [.inl v] g μ Q = ((v = 0 ∨ v = 1) ∧ Q (some (.inl v)) g μ) := Wp_retZ k153_802 (by decide)
theorem k153_803 : mCode 153 803 = some (.aload_n 1, 1) := by decide +kernel
theorem x153_803 {E : ME} {ls : MLs} {st : List MV} {g : MG} {μ : MU} {Q : Option MV → MG → MU → Prop} {l0 : Option MV} {v : Nat ⊕ Nat} : Wp E 153 803 (l0 :: some (.inr (.inr v)) :: ls) st g μ Q = Wp E 153 804 (l0 :: some (.inr (.inr v)) :: ls) (.inr (.inr v) :: st) g μ Q := Wp_nx k153_803 rfl
theorem k153_804 : mCode 153 804 = some (.aload_n 0, 1) := by decide +kernel
theorem x153_804 {E : ME} {ls : MLs} {st : List MV} {g : MG} {μ : MU} {Q : Option MV → MG → MU → Prop} {v : Nat ⊕ Nat} : Wp E 153 804 (some (.inr (.inr v)) :: ls) st g μ Q = Wp E 153 805 (some (.inr (.inr v)) :: ls) (.inr (.inr v) :: st) g μ Q := Wp_nx k153_804 rfl
theorem k153_805 : mCode 153 805 = some (.iload_n 3, 1) := by decide +kernel
theorem x153_805 {E : ME} {ls : MLs} {st : List MV} {g : MG} {μ : MU} {Q : Option MV → MG → MU → Prop} {l0 l1 l2 : Option MV} {v : Int} : Wp E 153 805 (l0 :: l1 :: l2 :: some (.inl v) :: ls) st g μ Q = Wp E 153 806 (l0 :: l1 :: l2 :: some (.inl v) :: ls) (.inl v :: st) g μ Q := Wp_nx k153_805 rfl
theorem k153_806 : mCode 153 806 = some (.iconst 1, 1) := by decide +kernel
theorem x153_806 {E : ME} {ls : MLs} {st : List MV} {g : MG} {μ : MU} {Q : Option MV → MG → MU → Prop} : Wp E 153 806 ls st g μ Q = Wp E 153 807 ls (.inl 1 :: st) g μ Q := Wp_nx k153_806 rfl
theorem k153_807 : mCode 153 807 = some (.iadd, 1) := by decide +kernel
theorem x153_807 {E : ME} {ls : MLs} {st : List MV} {g : MG} {μ : MU} {Q : Option MV → MG → MU → Prop} {a b : Int} : Wp E 153 807 ls (.inl b :: .inl a :: st) g μ Q = Wp E 153 808 ls (.inl (mWr (a + b)) :: st) g μ Q := Wp_nx k153_807 rfl
theorem k153_808 : mCode 153 808 = some (.iaload, 1) := by decide +kernel
theorem x153_808 {E : ME} {ls : MLs} {st : List MV} {g : MG} {μ : MU} {Q : Option MV → MG → MU → Prop} {a : Nat} {j : Int} : Wp E 153 808 ls (.inl j :: .inr (.inr (.inl a)) :: st) g μ Q = (((mKd g a).1 = 10 ∧ 0 ≤ j ∧ j < (mKd g a).2) ∧ Wp E 153 809 ls (.inl (μ a j.toNat) :: st) g μ Q) := Wp_ald k153_808 (fun _ => rfl)
theorem x153_808K {E : ME} {ls : MLs} {st : List MV} {g : MG} {μ : MU} {Q : Option MV → MG → MU → Prop} {c : Nat} {j : Int} (hk : mk_isI c = true) : Wp E 153 808 ls (.inl j :: .inr (.inr (.inr c)) :: st) g μ Q = ((0 ≤ j ∧ j < mk_len E c) ∧ Wp E 153 809 ls (.inl (mk_int E c j.toNat) :: st) g μ Q) := Wp_aldK k153_808 hk
theorem k153_809 : mCode 153 809 = some (.invokevirtual 105, 3) := by decide +kernel
theorem x153_809 {E : ME} {ls : MLs} {st : List MV} {g : MG} {μ : MU} {Q : Option MV → MG → MU → Prop} {r : Nat} {a0 : Int} : Wp E 153 809 ls (.inl a0 :: .inr (.inr (.inl r)) :: st) g μ Q = ((st.length ≤ 4 ∧ ((mKd g r).1 == 5) = true) ∧ Wp E 71 0 [some (.inr (.inr (.inl r))), some (.inl a0)] [] g μ (fun r g' μ' => (g'.1 = g.1 ∧ g'.2.1 = g.2.1) ∧ Wp E 153 812 ls (mPush r st) g' μ' Q)) := Wp_cV k153_809 m13_105 (by decide) (as := [.inr (.inr (.inl r)), .inl a0]) rfl rfl rfl ⟨Nat.le_of_ble_eq_true rfl, by decide⟩
theorem k153_812 : mCode 153 812 = some (.aload_n 2, 1) := by decide +kernel
theorem x153_812 {E : ME} {ls : MLs} {st : List MV} {g : MG} {μ : MU} {Q : Option MV → MG → MU → Prop} {l0 l1 : Option MV} {v : Nat ⊕ Nat} : Wp E 153 812 (l0 :: l1 :: some (.inr (.inr v)) :: ls) st g μ Q = Wp E 153 813 (l0 :: l1 :: some (.inr (.inr v)) :: ls) (.inr (.inr v) :: st) g μ Q := Wp_nx k153_812 rfl
theorem k153_813 : mCode 153 813 = some (.aload_n 0, 1) := by decide +kernel
theorem x153_813 {E : ME} {ls : MLs} {st : List MV} {g : MG} {μ : MU} {Q : Option MV → MG → MU → Prop} {v : Nat ⊕ Nat} : Wp E 153 813 (some (.inr (.inr v)) :: ls) st g μ Q = Wp E 153 814 (some (.inr (.inr v)) :: ls) (.inr (.inr v) :: st) g μ Q := Wp_nx k153_813 rfl
theorem k153_814 : mCode 153 814 = some (.iload_n 3, 1) := by decide +kernel
theorem x153_814 {E : ME} {ls : MLs} {st : List MV} {g : MG} {μ : MU} {Q : Option MV → MG → MU → Prop} {l0 l1 l2 : Option MV} {v : Int} : Wp E 153 814 (l0 :: l1 :: l2 :: some (.inl v) :: ls) st g μ Q = Wp E 153 815 (l0 :: l1 :: l2 :: some (.inl v) :: ls) (.inl v :: st) g μ Q := Wp_nx k153_814 rfl
theorem k153_815 : mCode 153 815 = some (.iconst 1, 1) := by decide +kernel
theorem x153_815 {E : ME} {ls : MLs} {st : List MV} {g : MG} {μ : MU} {Q : Option MV → MG → MU → Prop} : Wp E 153 815 ls st g μ Q = Wp E 153 816 ls (.inl 1 :: st) g μ Q := Wp_nx k153_815 rfl
theorem k153_816 : mCode 153 816 = some (.iadd, 1) := by decide +kernel
theorem x153_816 {E : ME} {ls : MLs} {st : List MV} {g : MG} {μ : MU} {Q : Option MV → MG → MU → Prop} {a b : Int} : Wp E 153 816 ls (.inl b :: .inl a :: st) g μ Q = Wp E 153 817 ls (.inl (mWr (a + b)) :: st) g μ Q := Wp_nx k153_816 rfl
theorem k153_817 : mCode 153 817 = some (.iaload, 1) := by decide +kernel
theorem x153_817 {E : ME} {ls : MLs} {st : List MV} {g : MG} {μ : MU} {Q : Option MV → MG → MU → Prop} {a : Nat} {j : Int} : Wp E 153 817 ls (.inl j :: .inr (.inr (.inl a)) :: st) g μ Q = (((mKd g a).1 = 10 ∧ 0 ≤ j ∧ j < (mKd g a).2) ∧ Wp E 153 818 ls (.inl (μ a j.toNat) :: st) g μ Q) := Wp_ald k153_817 (fun _ => rfl)
theorem x153_817K {E : ME} {ls : MLs} {st : List MV} {g : MG} {μ : MU} {Q : Option MV → MG → MU → Prop} {c : Nat} {j : Int} (hk : mk_isI c = true) : Wp E 153 817 ls (.inl j :: .inr (.inr (.inr c)) :: st) g μ Q = ((0 ≤ j ∧ j < mk_len E c) ∧ Wp E 153 818 ls (.inl (mk_int E c j.toNat) :: st) g μ Q) := Wp_aldK k153_817 hk
theorem k153_818 : mCode 153 818 = some (.invokevirtual 108, 3) := by decide +kernel
theorem x153_818 {E : ME} {ls : MLs} {st : List MV} {g : MG} {μ : MU} {Q : Option MV → MG → MU → Prop} {r : Nat} {a0 : Int} : Wp E 153 818 ls (.inl a0 :: .inr (.inr (.inl r)) :: st) g μ Q = ((st.length ≤ 4 ∧ ((mKd g r).1 == 6) = true) ∧ Wp E 140 0 [some (.inr (.inr (.inl r))), some (.inl a0), none] [] g μ (fun r g' μ' => (g'.1 = g.1 ∧ g'.2.1 = g.2.1) ∧ Wp E 153 821 ls (mPush r st) g' μ' Q)) := Wp_cV k153_818 m13_108 (by decide) (as := [.inr (.inr (.inl r)), .inl a0]) rfl rfl rfl ⟨Nat.le_of_ble_eq_true rfl, by decide⟩
theorem k153_821 : mCode 153 821 = some (.if_icmp .eq 28, 3) := by decide +kernel
theorem x153_821 {E : ME} {ls : MLs} {st : List MV} {g : MG} {μ : MU} {Q : Option MV → MG → MU → Prop} {a b : Int} : Wp E 153 821 ls (.inl b :: .inl a :: st) g μ Q = ((a = b → Wp E 153 849 ls st g μ Q) ∧ (¬ a = b → Wp E 153 824 ls st g μ Q)) := Wp_cmp_eq k153_821 (by decide)
theorem k153_824 : mCode 153 824 = some (.iconst 0, 1) := by decide +kernel
theorem x153_824 {E : ME} {ls : MLs} {st : List MV} {g : MG} {μ : MU} {Q : Option MV → MG → MU → Prop} : Wp E 153 824 ls st g μ Q = Wp E 153 825 ls (.inl 0 :: st) g μ Q := Wp_nx k153_824 rfl
theorem k153_825 : mCode 153 825 = some (.ireturn, 1) := by decide +kernel
theorem x153_825 {E : ME} {ls : MLs} {g : MG} {μ : MU} {Q : Option MV → MG → MU → Prop} {v : Int} : Wp E 153 825 ls [.inl v] g μ Q = ((v = 0 ∨ v = 1) ∧ Q (some (.inl v)) g μ) := Wp_retZ k153_825 (by decide)
theorem k153_826 : mCode 153 826 = some (.aload_n 1, 1) := by decide +kernel
theorem x153_826 {E : ME} {ls : MLs} {st : List MV} {g : MG} {μ : MU} {Q : Option MV → MG → MU → Prop} {l0 : Option MV} {v : Nat ⊕ Nat} : Wp E 153 826 (l0 :: some (.inr (.inr v)) :: ls) st g μ Q = Wp E 153 827 (l0 :: some (.inr (.inr v)) :: ls) (.inr (.inr v) :: st) g μ Q := Wp_nx k153_826 rfl
theorem k153_827 : mCode 153 827 = some (.aload_n 0, 1) := by decide +kernel
theorem x153_827 {E : ME} {ls : MLs} {st : List MV} {g : MG} {μ : MU} {Q : Option MV → MG → MU → Prop} {v : Nat ⊕ Nat} : Wp E 153 827 (some (.inr (.inr v)) :: ls) st g μ Q = Wp E 153 828 (some (.inr (.inr v)) :: ls) (.inr (.inr v) :: st) g μ Q := Wp_nx k153_827 rfl
theorem k153_828 : mCode 153 828 = some (.iload_n 3, 1) := by decide +kernel
theorem x153_828 {E : ME} {ls : MLs} {st : List MV} {g : MG} {μ : MU} {Q : Option MV → MG → MU → Prop} {l0 l1 l2 : Option MV} {v : Int} : Wp E 153 828 (l0 :: l1 :: l2 :: some (.inl v) :: ls) st g μ Q = Wp E 153 829 (l0 :: l1 :: l2 :: some (.inl v) :: ls) (.inl v :: st) g μ Q := Wp_nx k153_828 rfl
theorem k153_829 : mCode 153 829 = some (.iconst 1, 1) := by decide +kernel
theorem x153_829 {E : ME} {ls : MLs} {st : List MV} {g : MG} {μ : MU} {Q : Option MV → MG → MU → Prop} : Wp E 153 829 ls st g μ Q = Wp E 153 830 ls (.inl 1 :: st) g μ Q := Wp_nx k153_829 rfl
theorem k153_830 : mCode 153 830 = some (.iadd, 1) := by decide +kernel
theorem x153_830 {E : ME} {ls : MLs} {st : List MV} {g : MG} {μ : MU} {Q : Option MV → MG → MU → Prop} {a b : Int} : Wp E 153 830 ls (.inl b :: .inl a :: st) g μ Q = Wp E 153 831 ls (.inl (mWr (a + b)) :: st) g μ Q := Wp_nx k153_830 rfl
theorem k153_831 : mCode 153 831 = some (.iaload, 1) := by decide +kernel
theorem x153_831 {E : ME} {ls : MLs} {st : List MV} {g : MG} {μ : MU} {Q : Option MV → MG → MU → Prop} {a : Nat} {j : Int} : Wp E 153 831 ls (.inl j :: .inr (.inr (.inl a)) :: st) g μ Q = (((mKd g a).1 = 10 ∧ 0 ≤ j ∧ j < (mKd g a).2) ∧ Wp E 153 832 ls (.inl (μ a j.toNat) :: st) g μ Q) := Wp_ald k153_831 (fun _ => rfl)
theorem x153_831K {E : ME} {ls : MLs} {st : List MV} {g : MG} {μ : MU} {Q : Option MV → MG → MU → Prop} {c : Nat} {j : Int} (hk : mk_isI c = true) : Wp E 153 831 ls (.inl j :: .inr (.inr (.inr c)) :: st) g μ Q = ((0 ≤ j ∧ j < mk_len E c) ∧ Wp E 153 832 ls (.inl (mk_int E c j.toNat) :: st) g μ Q) := Wp_aldK k153_831 hk
theorem k153_832 : mCode 153 832 = some (.invokevirtual 109, 3) := by decide +kernel
theorem x153_832 {E : ME} {ls : MLs} {st : List MV} {g : MG} {μ : MU} {Q : Option MV → MG → MU → Prop} {r : Nat} {a0 : Int} : Wp E 153 832 ls (.inl a0 :: .inr (.inr (.inl r)) :: st) g μ Q = ((st.length ≤ 4 ∧ ((mKd g r).1 == 5) = true) ∧ Wp E 72 0 [some (.inr (.inr (.inl r))), some (.inl a0)] [] g μ (fun r g' μ' => (g'.1 = g.1 ∧ g'.2.1 = g.2.1) ∧ Wp E 153 835 ls (mPush r st) g' μ' Q)) := Wp_cV k153_832 m13_109 (by decide) (as := [.inr (.inr (.inl r)), .inl a0]) rfl rfl rfl ⟨Nat.le_of_ble_eq_true rfl, by decide⟩
theorem k153_835 : mCode 153 835 = some (.aload_n 2, 1) := by decide +kernel
theorem x153_835 {E : ME} {ls : MLs} {st : List MV} {g : MG} {μ : MU} {Q : Option MV → MG → MU → Prop} {l0 l1 : Option MV} {v : Nat ⊕ Nat} : Wp E 153 835 (l0 :: l1 :: some (.inr (.inr v)) :: ls) st g μ Q = Wp E 153 836 (l0 :: l1 :: some (.inr (.inr v)) :: ls) (.inr (.inr v) :: st) g μ Q := Wp_nx k153_835 rfl
theorem k153_836 : mCode 153 836 = some (.aload_n 0, 1) := by decide +kernel
theorem x153_836 {E : ME} {ls : MLs} {st : List MV} {g : MG} {μ : MU} {Q : Option MV → MG → MU → Prop} {v : Nat ⊕ Nat} : Wp E 153 836 (some (.inr (.inr v)) :: ls) st g μ Q = Wp E 153 837 (some (.inr (.inr v)) :: ls) (.inr (.inr v) :: st) g μ Q := Wp_nx k153_836 rfl
theorem k153_837 : mCode 153 837 = some (.iload_n 3, 1) := by decide +kernel
theorem x153_837 {E : ME} {ls : MLs} {st : List MV} {g : MG} {μ : MU} {Q : Option MV → MG → MU → Prop} {l0 l1 l2 : Option MV} {v : Int} : Wp E 153 837 (l0 :: l1 :: l2 :: some (.inl v) :: ls) st g μ Q = Wp E 153 838 (l0 :: l1 :: l2 :: some (.inl v) :: ls) (.inl v :: st) g μ Q := Wp_nx k153_837 rfl
theorem k153_838 : mCode 153 838 = some (.iconst 1, 1) := by decide +kernel
theorem x153_838 {E : ME} {ls : MLs} {st : List MV} {g : MG} {μ : MU} {Q : Option MV → MG → MU → Prop} : Wp E 153 838 ls st g μ Q = Wp E 153 839 ls (.inl 1 :: st) g μ Q := Wp_nx k153_838 rfl
theorem k153_839 : mCode 153 839 = some (.iadd, 1) := by decide +kernel
theorem x153_839 {E : ME} {ls : MLs} {st : List MV} {g : MG} {μ : MU} {Q : Option MV → MG → MU → Prop} {a b : Int} : Wp E 153 839 ls (.inl b :: .inl a :: st) g μ Q = Wp E 153 840 ls (.inl (mWr (a + b)) :: st) g μ Q := Wp_nx k153_839 rfl
theorem k153_840 : mCode 153 840 = some (.iaload, 1) := by decide +kernel
theorem x153_840 {E : ME} {ls : MLs} {st : List MV} {g : MG} {μ : MU} {Q : Option MV → MG → MU → Prop} {a : Nat} {j : Int} : Wp E 153 840 ls (.inl j :: .inr (.inr (.inl a)) :: st) g μ Q = (((mKd g a).1 = 10 ∧ 0 ≤ j ∧ j < (mKd g a).2) ∧ Wp E 153 841 ls (.inl (μ a j.toNat) :: st) g μ Q) := Wp_ald k153_840 (fun _ => rfl)
theorem x153_840K {E : ME} {ls : MLs} {st : List MV} {g : MG} {μ : MU} {Q : Option MV → MG → MU → Prop} {c : Nat} {j : Int} (hk : mk_isI c = true) : Wp E 153 840 ls (.inl j :: .inr (.inr (.inr c)) :: st) g μ Q = ((0 ≤ j ∧ j < mk_len E c) ∧ Wp E 153 841 ls (.inl (mk_int E c j.toNat) :: st) g μ Q) := Wp_aldK k153_840 hk
theorem k153_841 : mCode 153 841 = some (.invokevirtual 112, 3) := by decide +kernel
theorem x153_841 {E : ME} {ls : MLs} {st : List MV} {g : MG} {μ : MU} {Q : Option MV → MG → MU → Prop} {r : Nat} {a0 : Int} : Wp E 153 841 ls (.inl a0 :: .inr (.inr (.inl r)) :: st) g μ Q = ((st.length ≤ 4 ∧ ((mKd g r).1 == 6) = true) ∧ Wp E 141 0 [some (.inr (.inr (.inl r))), some (.inl a0), none] [] g μ (fun r g' μ' => (g'.1 = g.1 ∧ g'.2.1 = g.2.1) ∧ Wp E 153 844 ls (mPush r st) g' μ' Q)) := Wp_cV k153_841 m13_112 (by decide) (as := [.inr (.inr (.inl r)), .inl a0]) rfl rfl rfl ⟨Nat.le_of_ble_eq_true rfl, by decide⟩
theorem k153_844 : mCode 153 844 = some (.if_icmp .eq 5, 3) := by decide +kernel
theorem x153_844 {E : ME} {ls : MLs} {st : List MV} {g : MG} {μ : MU} {Q : Option MV → MG → MU → Prop} {a b : Int} : Wp E 153 844 ls (.inl b :: .inl a :: st) g μ Q = ((a = b → Wp E 153 849 ls st g μ Q) ∧ (¬ a = b → Wp E 153 847 ls st g μ Q)) := Wp_cmp_eq k153_844 (by decide)
theorem k153_847 : mCode 153 847 = some (.iconst 0, 1) := by decide +kernel
theorem x153_847 {E : ME} {ls : MLs} {st : List MV} {g : MG} {μ : MU} {Q : Option MV → MG → MU → Prop} : Wp E 153 847 ls st g μ Q = Wp E 153 848 ls (.inl 0 :: st) g μ Q := Wp_nx k153_847 rfl
theorem k153_848 : mCode 153 848 = some (.ireturn, 1) := by decide +kernel
theorem x153_848 {E : ME} {ls : MLs} {g : MG} {μ : MU} {Q : Option MV → MG → MU → Prop} {v : Int} : Wp E 153 848 ls [.inl v] g μ Q = ((v = 0 ∨ v = 1) ∧ Q (some (.inl v)) g μ) := Wp_retZ k153_848 (by decide)
theorem k153_849 : mCode 153 849 = some (.iinc 3 5, 3) := by decide +kernel
theorem x153_849 {E : ME} {ls : MLs} {st : List MV} {g : MG} {μ : MU} {Q : Option MV → MG → MU → Prop} {l0 l1 l2 : Option MV} {v : Int} : Wp E 153 849 (l0 :: l1 :: l2 :: some (.inl v) :: ls) st g μ Q = (mNl (some l2) = true ∧ Wp E 153 852 (l0 :: l1 :: l2 :: some (.inl (mWr (v + 5))) :: ls) st g μ Q) := Wp_inc k153_849 rfl rfl rfl
theorem k153_852 : mCode 153 852 = some (.goto (-834), 3) := by decide +kernel
theorem x153_852 {E : ME} {ls : MLs} {st : List MV} {g : MG} {μ : MU} {Q : Option MV → MG → MU → Prop} : Wp E 153 852 ls st g μ Q = Wp E 153 18 ls st g μ Q := Wp_goto k153_852 (by decide)
theorem k153_855 : mCode 153 855 = some (.iconst 1, 1) := by decide +kernel
theorem x153_855 {E : ME} {ls : MLs} {st : List MV} {g : MG} {μ : MU} {Q : Option MV → MG → MU → Prop} : Wp E 153 855 ls st g μ Q = Wp E 153 856 ls (.inl 1 :: st) g μ Q := Wp_nx k153_855 rfl
theorem k153_856 : mCode 153 856 = some (.ireturn, 1) := by decide +kernel
theorem x153_856 {E : ME} {ls : MLs} {g : MG} {μ : MU} {Q : Option MV → MG → MU → Prop} {v : Int} : Wp E 153 856 ls [.inl v] g μ Q = ((v = 0 ∨ v = 1) ∧ Q (some (.inl v)) g μ) := Wp_retZ k153_856 (by decide)
