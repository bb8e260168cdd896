/-! WHAT A SMALL HEAP IS IN THE MACHINE'S HEAP -/
/-- base, the class ids of the arrays, the constants' places (rows, texts, bytes, the formatter) -/
abbrev ZK : Type := Nat × (Nat → ClassId) × (Nat → Nat) × (Nat → Nat) × (Nat → Nat) × Option Nat
def zcv (k : ZK) (c : Nat) : Value := if c = 1 then va_rf k.2.2.2.2.2 else if 2 ≤ c ∧ c < 6 then .ref (k.2.2.1 c) else if 10 ≤ c ∧ c < 16 then .ref (k.2.2.2.1 (c - 10)) else if 20 ≤ c ∧ c < 26 then .ref (k.2.2.2.2.1 (c - 20)) else .null
def zv (k : ZK) : MV → Value → Prop
  | .inl v, w => ∃ x : Int32, w = .int x ∧ x.toInt = v
  | .inr (.inl v), w => ∃ x : Int64, w = .long x ∧ x.toInt = v
  | .inr (.inr (.inl a)), w => w = .ref (k.1 + a)
  | .inr (.inr (.inr c)), w => w = zcv k c
def zo (k : ZK) : Option MV → Option Value → Prop
  | none, w => w = none
  | some v, w => ∃ x, w = some x ∧ zv k v x
def zs (k : ZK) : List MV → List Value → Prop
  | [], w => w = []
  | v :: l, w => ∃ x m, w = x :: m ∧ zv k v x ∧ zs k l m
def zl (k : ZK) (mls : MLs) (ls : Array Slot) : Prop := ls.size = mls.length ∧ lv_wf ls ∧ ∀ (i : Nat) (v : MV), mls[i]? = some (some v) → ∃ w, ls[i]? = some (.val w) ∧ zv k v w
def zFld (k : ZK) (g : MG) (μ : MU) (a ci j : Nat) : Value := if mFty ci j = 3 then va_rf ((mRf g a j).map (fun q => k.1 + q)) else .int (Int32.ofInt (μ a j))
def zEnt (k : ZK) (g : MG) (μ : MU) (a : Nat) : va_E :=
  if (mKd g a).1 < 7 then .inr ((mKd g a).1, (List.range (mNfs (mKd g a).1)).map (zFld k g μ a (mKd g a).1))
  else if (mKd g a).1 < 13 then .inl (k.2.1 (mKd g a).1, (mKd g a).2, .inl (fun j => Int32.ofInt (μ a j)))
  else .inl (k.2.1 (mKd g a).1, (mKd g a).2, .inr (.inr (.inr (.inr (fun j => (mRf g a j).map (fun q => k.1 + q))))))
def zWs (k : ZK) (g : MG) (μ : MU) : va_W := (List.range g.1).map (fun a => (k.1 + a, zEnt k g μ a))
def zRg (μ : MU) : Prop := ∀ a j, -2147483648 ≤ μ a j ∧ μ a j < 2147483648
def zKn (g : MG) : Prop := ∀ a, (a < g.1 ∧ ((mKd g a).1 < 7 ∨ (10 ≤ (mKd g a).1 ∧ (mKd g a).1 < 15)) ∧ (mKd g a).2 < 2147483648) ∨ (g.1 ≤ a ∧ (mKd g a).1 = 99)
def zH (D : va_G) (k : ZK) (g : MG) (μ : MU) (H : Heap) : Prop := va_P D vwCl (zWs k g μ) H ∧ zRg μ ∧ zKn g
def zTys (k : ZK) : List (ClassId × FieldType) := [(k.2.1 10, .int), (k.2.1 11, .char), (k.2.1 12, .boolean), (k.2.1 13, .object RX0), (k.2.1 14, .object RX4)]
def zA (k : ZK) : Nat → Prop := fun q => k.1 ≤ q
def zLen : List Nat := [5, 7, 4, 5, 1, 0]
def zByt : List (List Int32) := [[100, 64, 100, 37, 110], [100, 64, 100, 58, 110, 42, 110], [100, 100, 61, 110], [100, 47, 100, 58, 110], [110], []]
def zTxt : List String := ["d@d%n", "d@d:n*n", "dd=n", "d/d:n", "n", ""]
def zStN (c : Nat) : String := if c = 2 then "FIRST_VALUE" else if c = 3 then "LEAST_VALUE" else "MOST_VALUE"
def zNM : List (String × Nat × MethodName) := [("CircuitReels$Programme", 48, ⟨"CircuitReels$Reels", "<init>", "()V"⟩), ("CircuitReels", 32, ⟨"CircuitReels$Pad", "<init>", "()V"⟩), ("CircuitReels", 50, ⟨"CircuitReels$Reels", "<init>", "()V"⟩), ("CircuitReels$Circuit", 64, ⟨"CircuitReels", "isWithin", "(III)Z"⟩), ("CircuitReels$Circuit", 78, ⟨"CircuitReels", "isHouse", "(I)Z"⟩)]
def zNF : List (Nat × Nat) := [(49, 2), (72, 3), (75, 4)]
/-- the constants, in a state -/
def zC (E : ME) (k : ZK) (U : State) (H : Heap) : Prop :=
  (∀ q ∈ zNM, va_Nw (.methodLinkNest q.1 q.2.1 q.2.2 "CircuitReels") U) ∧
  (∀ q ∈ zNF, va_Nw (.fieldLinkNest "CircuitReels$Circuit" q.1 "CircuitReels" (zStN q.2) "[I" "CircuitReels") U) ∧
  (va_AO RX0 U ∧ va_AO RX4 U) ∧
  (∀ c, 2 ≤ c → c < 5 → va_Z "CircuitReels" (zStN c) "[I" (.ref (k.2.2.1 c)) (zA k) U H) ∧
  (∀ c, 2 ≤ c → c < 6 → va_X (k.2.2.1 c) (mk_len E c) (fun j => Int32.ofInt (mk_int E c j)) U H ∧ k.2.2.1 c < H.size ∧ k.2.2.1 c < k.1) ∧
  va_Z "java/lang/String" "COMPACT_STRINGS" "Z" (.int 1) (zA k) U H ∧
  va_Z "jdk/internal/util/Preconditions" "SIOOBE_FORMATTER" "Ljava/util/function/BiFunction;" (va_rf k.2.2.2.2.2) (zA k) U H ∧
  vk_S 6 zLen zByt k.2.2.2.1 k.2.2.2.2.1 (zA k) U H ∧
  (∀ i, i < 6 → vk_R "CircuitReels$Pad" (66 + 2 * i) (zTxt.getD i "") (k.2.2.2.1 i) U) ∧
  k.1 ≤ H.size
theorem zC_kept {E : ME} {k : ZK} {U : State} {H H1 : Heap} {locs : List Loc} (h : zC E k U H) (hS : va_S (zA k) H H1 locs) : zC E k U H1 := by
  obtain ⟨h1, h2, h3, h4, h5, h6, h7, h8, h9, h10⟩ := h
  refine ⟨h1, h2, h3, fun c a b => (h4 c a b).kept hS.2.1, fun c a b => ?_, h6.kept hS.2.1, h7.kept hS.2.1, h8.kept hS.2.1, h9, Nat.le_trans h10 hS.1⟩
  obtain ⟨q1, q2, q3⟩ := h5 c a b
  exact ⟨q1.kept (hS.2.1 _ q2 (Nat.not_le.mpr q3)), Nat.lt_of_lt_of_le q2 hS.1, q3⟩
theorem zC_moved {E : ME} {k : ZK} {s U : State} {H : Heap} (hW : s.WarmedH U.vm) (h : zC E k s H) : zC E k U H := by
  obtain ⟨h1, h2, h3, h4, h5, h6, h7, h8, h9, h10⟩ := h
  have ha := hW.alike
  exact ⟨fun q hq => (h1 q hq).warmM hW, fun q hq => (h2 q hq).warmF hW, ⟨h3.1.moved ha, h3.2.moved ha⟩, fun c a b => (h4 c a b).moved ha, fun c a b => ⟨(h5 c a b).1.moved ha, (h5 c a b).2⟩, h6.moved ha, h7.moved ha, h8.moved ha, fun i hi => (h9 i hi).warm hW, h10⟩
theorem zC_same {E : ME} {k : ZK} {s U : State} {H : Heap} (hv : U.vm = s.vm) (h : zC E k s H) : zC E k U H := by
  obtain ⟨h1, h2, h3, h4, h5, h6, h7, h8, h9, h10⟩ := h
  have ha : s.vm.Alike U.vm := by rw [hv]; exact Vm.Alike.refl _
  exact ⟨fun q hq => (h1 q hq).same rfl hv.symm, fun q hq => (h2 q hq).same rfl hv.symm, ⟨h3.1.moved ha, h3.2.moved ha⟩, fun c a b => (h4 c a b).moved ha, fun c a b => ⟨(h5 c a b).1.moved ha, (h5 c a b).2⟩, h6.moved ha, h7.moved ha, h8.moved ha, fun i hi => (h9 i hi).same hv, h10⟩
theorem zWs_at {k : ZK} {g : MG} {μ : MU} {a : Nat} (h : a < g.1) : (zWs k g μ)[a]? = some (k.1 + a, zEnt k g μ a) := by
  unfold zWs
  rw [List.getElem?_map, List.getElem?_range h]
  rfl
theorem zWs_D {k : ZK} {g : MG} {μ : MU} : va_D (zA k) (zWs k g μ) := by
  have key : ∀ (i : Nat) (q : Nat × va_E), (zWs k g μ)[i]? = some q → q.1 = k.1 + i := by
    intro i q h
    unfold zWs at h
    rw [List.getElem?_map] at h
    cases hi : (List.range g.1)[i]? with
    | none => rw [hi] at h; cases h
    | some j =>
      rw [hi] at h
      have hj : j = i := by
        obtain ⟨h1, h2⟩ := List.getElem?_eq_some_iff.mp hi
        rw [List.getElem_range] at h2
        exact h2.symm
      cases h
      rw [hj]
  refine ⟨fun i j p q hi hj hpq => ?_, fun i q hi => ?_⟩
  · rw [key i p hi, key j q hj] at hpq
    omega
  · rw [key i q hi]
    exact Nat.le_add_right _ _
theorem zWs_set {k : ZK} {g g' : MG} {μ μ' : MU} {a : Nat} (ha : a < g.1) (hn : g'.1 = g.1) (ho : ∀ b, b ≠ a → zEnt k g' μ' b = zEnt k g μ b) : (zWs k g μ).set a (k.1 + a, zEnt k g' μ' a) = zWs k g' μ' := by
  refine List.ext_getElem? fun i => ?_
  rw [List.getElem?_set]
  unfold zWs
  rw [List.length_map, List.length_range, List.getElem?_map, List.getElem?_map, hn]
  by_cases hi : a = i
  · subst hi
    rw [if_pos rfl, if_pos ha, List.getElem?_range ha]
    rfl
  · rw [if_neg hi]
    by_cases hl : i < g.1
    · rw [List.getElem?_range hl]
      show some (k.1 + i, zEnt k g μ i) = some (k.1 + i, zEnt k g' μ' i)
      rw [ho i (fun e => hi e.symm)]
    · rw [List.getElem?_eq_none (by simp; omega)]
      rfl
theorem zKn_lt {g : MG} (h : zKn g) {a : Nat} (ha : (mKd g a).1 < 15) : a < g.1 ∧ ((mKd g a).1 < 7 ∨ 10 ≤ (mKd g a).1) ∧ (mKd g a).2 < 2147483648 := by
  rcases h a with q | q
  · exact ⟨q.1, q.2.1.elim Or.inl (fun z => Or.inr z.1), q.2.2⟩
  · omega
theorem zKd_up {g : MG} {μ : MU} {a i : Nat} {v : Int} {b : Nat} (h : b ≠ a) : (mUp μ a i v) b = μ b := by
  funext j
  simp [mUp, h]
theorem zEnt_up {k : ZK} {g : MG} {μ : MU} {a i : Nat} {v : Int} : ∀ b, b ≠ a → zEnt k g (mUp μ a i v) b = zEnt k g μ b := by
  intro b hb
  unfold zEnt zFld
  rw [zKd_up (g := g) hb]
theorem zRg_up {μ : MU} {a i : Nat} {v : Int} (h : zRg μ) (hv : -2147483648 ≤ v ∧ v < 2147483648) : zRg (mUp μ a i v) := by
  intro b j
  unfold mUp
  split
  · exact hv
  · exact h b j
theorem zRow_up {μ : MU} {a i : Nat} {v : Int} : (fun j => Int32.ofInt (mUp μ a i v a j)) = upd (fun j => Int32.ofInt (μ a j)) i (Int32.ofInt v) := by
  funext j
  by_cases h : j = i
  · subst h; simp [mUp, upd]
  · simp [mUp, upd, h]
theorem zs_len {k : ZK} : ∀ {l : List MV} {m : List Value}, zs k l m → m.length = l.length := by
  intro l
  induction l with
  | nil => intro m h; rw [show m = [] from h]; rfl
  | cons v l ih => intro m h; obtain ⟨x, m', rfl, -, h2⟩ := h; simp [ih h2]
theorem zs_cat {k : ZK} : ∀ {l : List MV} {m : List Value}, zs k l m → l.length ≤ 4 → (m.map fun v => v.category).sum ≤ 8 := by
  intro l m h hl
  have h1 : m.length ≤ 4 := by rw [zs_len h]; exact hl
  have h2 : ∀ m : List Value, (m.map fun v => v.category).sum ≤ 2 * m.length := by
    intro m
    induction m with
    | nil => simp
    | cons v m ih =>
      simp only [List.map_cons, List.sum_cons, List.length_cons]
      have := lv_cat v
      omega
  have := h2 m
  omega
theorem zs_app {k : ZK} : ∀ {l1 l2 : List MV} {m : List Value}, zs k (l1 ++ l2) m → ∃ m1 m2, m = m1 ++ m2 ∧ zs k l1 m1 ∧ zs k l2 m2 := by
  intro l1
  induction l1 with
  | nil => intro l2 m h; exact ⟨[], m, rfl, rfl, h⟩
  | cons v l ih =>
    intro l2 m h
    obtain ⟨x, m', rfl, h1, h2⟩ := h
    obtain ⟨m1, m2, rfl, h3, h4⟩ := ih h2
    exact ⟨x :: m1, m2, rfl, ⟨x, m1, rfl, h1, h3⟩, h4⟩
theorem zs_app' {k : ZK} : ∀ {l1 l2 : List MV} {m1 m2 : List Value}, zs k l1 m1 → zs k l2 m2 → zs k (l1 ++ l2) (m1 ++ m2) := by
  intro l1
  induction l1 with
  | nil => intro l2 m1 m2 h1 h2; rw [show m1 = [] from h1]; exact h2
  | cons v l ih =>
    intro l2 m1 m2 h1 h2
    obtain ⟨x, m', rfl, h3, h4⟩ := h1
    exact ⟨x, _, rfl, h3, ih h4 h2⟩
theorem zs_rev {k : ZK} : ∀ {l : List MV} {m : List Value}, zs k l m → zs k l.reverse m.reverse := by
  intro l
  induction l with
  | nil => intro m h; rw [show m = [] from h]; rfl
  | cons v l ih =>
    intro m h
    obtain ⟨x, m', rfl, h1, h2⟩ := h
    rw [List.reverse_cons, List.reverse_cons]
    exact zs_app' (ih h2) ⟨x, [], rfl, h1, rfl⟩
theorem zcv_ref (k : ZK) (c : Nat) : zcv k c = .null ∨ ∃ a, zcv k c = .ref a := by
  unfold zcv
  split
  · cases k.2.2.2.2.2 with
    | none => exact Or.inl rfl
    | some a => exact Or.inr ⟨a, rfl⟩
  · split
    · exact Or.inr ⟨_, rfl⟩
    · split
      · exact Or.inr ⟨_, rfl⟩
      · split
        · exact Or.inr ⟨_, rfl⟩
        · exact Or.inl rfl
theorem zv_cat {k : ZK} {v : MV} {w : Value} (h : zv k v w) : (mC1 v = true → w.category = 1) ∧ (mC1 v = false → w.category = 2) := by
  rcases v with v | v | v | v
  · obtain ⟨x, rfl, -⟩ := h; exact ⟨fun _ => rfl, fun z => by cases z⟩
  · obtain ⟨x, rfl, -⟩ := h; exact ⟨fun z => (by cases z), fun _ => rfl⟩
  · rw [show w = _ from h]; exact ⟨fun _ => rfl, fun z => by cases z⟩
  · rw [show w = _ from h]; refine ⟨fun _ => ?_, fun z => by cases z⟩
    rcases zcv_ref k v with e | ⟨a, e⟩ <;> rw [e] <;> rfl
theorem zRv {k : ZK} {o : Option Nat} : zv k (mRv o) (va_rf (o.map (fun q => k.1 + q))) := by
  cases o with
  | none => rfl
  | some a => rfl
theorem zH_up {D : va_G} {k : ZK} {g : MG} {μ : MU} {H H1 : Heap} {a i : Nat} {v : Int} {e : va_E} (hH : zH D k g μ H) (ha : a < g.1) (hv : -2147483648 ≤ v ∧ v < 2147483648) (he : e = zEnt k g (mUp μ a i v) a) (hP : va_P D vwCl ((zWs k g μ).set a (k.1 + a, e)) H1) : zH D k g (mUp μ a i v) H1 := by
  subst he
  rw [zWs_set ha rfl (zEnt_up (k := k) (g := g) (μ := μ) (a := a) (i := i) (v := v))] at hP
  exact ⟨hP, zRg_up hH.2.1 hv, hH.2.2⟩
theorem zEnt_arr {k : ZK} {g : MG} {μ : MU} {a t : Nat} (h : (mKd g a).1 = t) (h1 : 7 ≤ t) (h2 : t < 13) : zEnt k g μ a = .inl (k.2.1 t, (mKd g a).2, .inl (fun j => Int32.ofInt (μ a j))) := by
  unfold zEnt
  rw [h, if_neg (by omega), if_pos h2]
theorem zEnt_ref {k : ZK} {g : MG} {μ : MU} {a t : Nat} (h : (mKd g a).1 = t) (h1 : 13 ≤ t) : zEnt k g μ a = .inl (k.2.1 t, (mKd g a).2, .inr (.inr (.inr (.inr (fun j => (mRf g a j).map (fun q => k.1 + q)))))) := by
  unfold zEnt
  rw [h, if_neg (by omega), if_neg (by omega)]
theorem zEnt_obj {k : ZK} {g : MG} {μ : MU} {a t : Nat} (h : (mKd g a).1 = t) (h1 : t < 7) : zEnt k g μ a = .inr (t, (List.range (mNfs t)).map (zFld k g μ a t)) := by
  unfold zEnt
  rw [h, if_pos h1]
theorem zOk_rg {t : Nat} {x : Int32} : -2147483648 ≤ x.toInt ∧ x.toInt < 2147483648 := zn_rng x
theorem zTxt_ok : ∀ c, c < 6 → zLen.getD c 0 = (mk_txt c).length ∧ ∀ j, j < zLen.getD c 0 → ((zByt.getD c []).getD j 0).toInt = (mk_txt c).getD j 0 := by decide +kernel
theorem szd {p : Program} {l : Launch} {e : Env} {R : Room} {s : State} {m : MethodId} {args : Array Value} {below : List Frame} {meth : Method} {c : Code} {H : Heap} {locs : List Loc} {cells slots : Nat} {Q : State → Prop} {g : JFrame} (n : Nat) (hlo : n ≤ H.size) (hup : s.heap.size + cells ≤ n) (kk : H.size = n → W p l e R s m args below meth c H locs cells slots Q g) : W p l e R s m args below meth c H locs cells slots Q g :=
  fun T hT X => kk (by have := X.heapSize; rw [hT] at this; omega) T hT X
theorem zH_lo {D : va_G} {k : ZK} {g : MG} {μ : MU} {H : Heap} (hH : zH D k g μ H) (hb : k.1 ≤ H.size) : k.1 + g.1 ≤ H.size := by
  by_cases h : g.1 = 0
  · omega
  · have := (hH.1 (g.1 - 1) _ (zWs_at (by omega))).lt
    simp only at this
    omega
theorem zKd_look {g : MG} {a t : Nat} (hK : zKn g) (h : (mKd g a).1 = t) (ht : t < 15) : a < g.1 ∧ (mKd g a).2 < 2147483648 := by
  obtain ⟨h1, -, h2⟩ := zKn_lt hK (a := a) (by omega)
  exact ⟨h1, h2⟩
