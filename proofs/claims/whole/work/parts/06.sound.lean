section ZS
variable {D : va_G} {k : ZK} {E : ME} {p : Program} {l : Launch} {e : Env} {R : Room} {s : State} {m : MethodId} {args : Array Value} {below : List Frame} {meth : Method} {c : Code} {H : Heap} {locs : List Loc} {cells slots : Nat} {Q : State → Prop}
variable {cc : ByteArray} {y pc q len : Nat} {mls : MLs} {mst : List MV} {g : MG} {μ : MU} {ls : Array Slot} {st : List Value} {c' : MCfg}
/-- what goes on behind a step -/
def zKt (D : va_G) (k : ZK) (p : Program) (l : Launch) (e : Env) (R : Room) (s : State) (m : MethodId) (args : Array Value) (below : List Frame) (meth : Method) (c : Code) (Q : State → Prop) (cells slots : Nat) (c' : MCfg) : Prop :=
  ∀ (ls : Array Slot) (st : List Value) (H : Heap) (locs : List Loc), zl k c'.2.1 ls → zs k c'.2.2.1 st → zH D k c'.2.2.2.1 c'.2.2.2.2 H → va_S (zA k) s.heap H locs → W p l e R s m args below meth c H locs cells slots Q (F0 m c'.1 ls st)
theorem z_nx {v : MV} {w : Value} (row : W p l e R s m args below meth c H locs cells slots Q (F0 m q ls (w :: st)) → W p l e R s m args below meth c H locs cells slots Q (F0 m pc ls st)) (hw : zv k v w) (h : mNx q mls (v :: mst) g μ = some (.inl c')) (hl : zl k mls ls) (hs : zs k mst st) (hH : zH D k g μ H) (hS : va_S (zA k) s.heap H locs) (K : zKt D k p l e R s m args below meth c Q cells slots c') : W p l e R s m args below meth c H locs cells slots Q (F0 m pc ls st) := by
  cases h
  exact row (K ls _ H locs hl ⟨w, st, rfl, hw, hs⟩ hH hS)
theorem z_bin {f : Int → Int → Int} (F : Int32 → Int32 → Int32) (hF : ∀ x y, (F x y).toInt = f x.toInt y.toInt) (row : ∀ (x y : Int32) (rest : List Value), W p l e R s m args below meth c H locs cells slots Q (F0 m q ls (.int (F x y) :: rest)) → W p l e R s m args below meth c H locs cells slots Q (F0 m pc ls (.int y :: .int x :: rest)))
    (h : s_bin f mls q mst g μ = some (.inl c')) (hl : zl k mls ls) (hs : zs k mst st) (hH : zH D k g μ H) (hS : va_S (zA k) s.heap H locs) (K : zKt D k p l e R s m args below meth c Q cells slots c') : W p l e R s m args below meth c H locs cells slots Q (F0 m pc ls st) := by
  unfold s_bin at h
  split at h
  · cases h
    obtain ⟨_, _, rfl, ⟨y, rfl, rfl⟩, _, st', rfl, ⟨x, rfl, rfl⟩, h3⟩ := hs
    exact row x y st' (K ls _ H locs hl ⟨_, _, rfl, ⟨F x y, rfl, hF x y⟩, h3⟩ hH hS)
  · cases h
theorem z_div {f : Int → Int → Int} (F : Int32 → Int32 → Int32) (hF : ∀ x y, ¬ y = 0 → (F x y).toInt = f x.toInt y.toInt) (row : ∀ (x y : Int32) (rest : List Value), ¬ y = 0 → W p l e R s m args below meth c H locs cells slots Q (F0 m q ls (.int (F x y) :: rest)) → W p l e R s m args below meth c H locs cells slots Q (F0 m pc ls (.int y :: .int x :: rest)))
    (h : s_div f mls q mst g μ = some (.inl c')) (hl : zl k mls ls) (hs : zs k mst st) (hH : zH D k g μ H) (hS : va_S (zA k) s.heap H locs) (K : zKt D k p l e R s m args below meth c Q cells slots c') : W p l e R s m args below meth c H locs cells slots Q (F0 m pc ls st) := by
  unfold s_div at h
  split at h
  · split at h
    · cases h
    · rename_i h0
      cases h
      obtain ⟨_, _, rfl, ⟨y, rfl, rfl⟩, _, st', rfl, ⟨x, rfl, rfl⟩, h3⟩ := hs
      have hy : ¬ y = 0 := fun z => h0 (by rw [z]; rfl)
      exact row x y st' hy (K ls _ H locs hl ⟨_, _, rfl, ⟨F x y, rfl, hF x y hy⟩, h3⟩ hH hS)
  · cases h
theorem z_lbin {f : Int → Int → Int} (F : Int64 → Int64 → Int64) (hF : ∀ x y, (F x y).toInt = f x.toInt y.toInt) (row : ∀ (x y : Int64) (rest : List Value), W p l e R s m args below meth c H locs cells slots Q (F0 m q ls (.long (F x y) :: rest)) → W p l e R s m args below meth c H locs cells slots Q (F0 m pc ls (.long y :: .long x :: rest)))
    (h : s_lbin f mls q mst g μ = some (.inl c')) (hl : zl k mls ls) (hs : zs k mst st) (hH : zH D k g μ H) (hS : va_S (zA k) s.heap H locs) (K : zKt D k p l e R s m args below meth c Q cells slots c') : W p l e R s m args below meth c H locs cells slots Q (F0 m pc ls st) := by
  unfold s_lbin at h
  split at h
  · cases h
    obtain ⟨_, _, rfl, ⟨y, rfl, rfl⟩, _, st', rfl, ⟨x, rfl, rfl⟩, h3⟩ := hs
    exact row x y st' (K ls _ H locs hl ⟨_, _, rfl, ⟨F x y, rfl, hF x y⟩, h3⟩ hH hS)
  · cases h
theorem z_lsh {f : Int → Int → Int} (F : Int64 → Int32 → Int64) (hF : ∀ x y, (F x y).toInt = f x.toInt y.toInt) (row : ∀ (x : Int64) (y : Int32) (rest : List Value), W p l e R s m args below meth c H locs cells slots Q (F0 m q ls (.long (F x y) :: rest)) → W p l e R s m args below meth c H locs cells slots Q (F0 m pc ls (.int y :: .long x :: rest)))
    (h : s_lsh f mls q mst g μ = some (.inl c')) (hl : zl k mls ls) (hs : zs k mst st) (hH : zH D k g μ H) (hS : va_S (zA k) s.heap H locs) (K : zKt D k p l e R s m args below meth c Q cells slots c') : W p l e R s m args below meth c H locs cells slots Q (F0 m pc ls st) := by
  unfold s_lsh at h
  split at h
  · cases h
    obtain ⟨_, _, rfl, ⟨y, rfl, rfl⟩, _, st', rfl, ⟨x, rfl, rfl⟩, h3⟩ := hs
    exact row x y st' (K ls _ H locs hl ⟨_, _, rfl, ⟨F x y, rfl, hF x y⟩, h3⟩ hH hS)
  · cases h
theorem z_lcmpv (x y : Int64) : (lg_cmp x y).toInt = if x.toInt < y.toInt then -1 else if x.toInt = y.toInt then 0 else 1 := by
  unfold lg_cmp
  by_cases h1 : y < x
  · have h2 := zn_lt64.mp h1
    rw [if_pos h1, if_neg (by omega), if_neg (by omega)]; rfl
  · rw [if_neg h1]
    by_cases h3 : x = y
    · subst h3; rw [if_pos rfl, if_neg (by omega), if_pos rfl]; rfl
    · have h4 : ¬ y.toInt < x.toInt := fun z => h1 (zn_lt64.mpr z)
      have h5 : ¬ x.toInt = y.toInt := fun z => h3 (zn_eq64.mpr z)
      rw [if_neg h3, if_pos (by omega)]; rfl
theorem z_lcmp (hx : p.tables.exec = Jvm.exec) (hb : c.code = cc) (hd : decode cc pc = .ok (.lcmp, 1))
    (h : s_lcmp mls (pc + 1) mst g μ = some (.inl c')) (hl : zl k mls ls) (hs : zs k mst st) (hH : zH D k g μ H) (hS : va_S (zA k) s.heap H locs) (K : zKt D k p l e R s m args below meth c Q cells slots c') : W p l e R s m args below meth c H locs cells slots Q (F0 m pc ls st) := by
  unfold s_lcmp at h
  split at h
  · cases h
    obtain ⟨_, _, rfl, ⟨y, rfl, rfl⟩, _, st', rfl, ⟨x, rfl, rfl⟩, h3⟩ := hs
    exact W.lcmp hx hb hd (K ls _ H locs hl ⟨_, _, rfl, ⟨_, rfl, z_lcmpv x y⟩, h3⟩ hH hS)
  · cases h
theorem z_i2l (hx : p.tables.exec = Jvm.exec) (hb : c.code = cc) (hd : decode cc pc = .ok (.i2l, 1))
    (h : s_i2l mls (pc + 1) mst g μ = some (.inl c')) (hl : zl k mls ls) (hs : zs k mst st) (hH : zH D k g μ H) (hS : va_S (zA k) s.heap H locs) (K : zKt D k p l e R s m args below meth c Q cells slots c') : W p l e R s m args below meth c H locs cells slots Q (F0 m pc ls st) := by
  unfold s_i2l at h
  split at h
  · cases h
    obtain ⟨_, st', rfl, ⟨x, rfl, rfl⟩, h3⟩ := hs
    exact lv_i2l hx hb hd rfl (K ls _ H locs hl ⟨_, _, rfl, ⟨_, rfl, zn_i2l x⟩, h3⟩ hH hS)
  · cases h
theorem z_l2i (hx : p.tables.exec = Jvm.exec) (hb : c.code = cc) (hd : decode cc pc = .ok (.l2i, 1))
    (h : s_l2i mls (pc + 1) mst g μ = some (.inl c')) (hl : zl k mls ls) (hs : zs k mst st) (hH : zH D k g μ H) (hS : va_S (zA k) s.heap H locs) (K : zKt D k p l e R s m args below meth c Q cells slots c') : W p l e R s m args below meth c H locs cells slots Q (F0 m pc ls st) := by
  unfold s_l2i at h
  split at h
  · cases h
    obtain ⟨_, st', rfl, ⟨x, rfl, rfl⟩, h3⟩ := hs
    exact lv_l2i hx hb hd rfl (K ls _ H locs hl ⟨_, _, rfl, ⟨_, rfl, zn_l2i x⟩, h3⟩ hH hS)
  · cases h
theorem z_i2c (hx : p.tables.exec = Jvm.exec) (hb : c.code = cc) (hd : decode cc pc = .ok (.i2c, 1))
    (h : s_i2c mls (pc + 1) mst g μ = some (.inl c')) (hl : zl k mls ls) (hs : zs k mst st) (hH : zH D k g μ H) (hS : va_S (zA k) s.heap H locs) (K : zKt D k p l e R s m args below meth c Q cells slots c') : W p l e R s m args below meth c H locs cells slots Q (F0 m pc ls st) := by
  unfold s_i2c at h
  split at h
  · cases h
    obtain ⟨_, st', rfl, ⟨x, rfl, rfl⟩, h3⟩ := hs
    exact lv_i2c hx hb hd rfl (K ls _ H locs hl ⟨_, _, rfl, ⟨_, rfl, zn_i2c x⟩, h3⟩ hH hS)
  · cases h
theorem z_dup (hx : p.tables.exec = Jvm.exec) (hb : c.code = cc) (hd : decode cc pc = .ok (.dup, 1))
    (h : s_dup mls (pc + 1) mst g μ = some (.inl c')) (hl : zl k mls ls) (hs : zs k mst st) (hH : zH D k g μ H) (hS : va_S (zA k) s.heap H locs) (K : zKt D k p l e R s m args below meth c Q cells slots c') : W p l e R s m args below meth c H locs cells slots Q (F0 m pc ls st) := by
  unfold s_dup at h
  split at h
  · split at h
    · rename_i h1
      cases h
      obtain ⟨x, st', rfl, h2, h3⟩ := hs
      exact lv_dup hx hb hd ((zv_cat h2).1 h1) (K ls _ H locs hl ⟨_, _, rfl, h2, _, _, rfl, h2, h3⟩ hH hS)
    · cases h
  · cases h
theorem z_dup2 (hx : p.tables.exec = Jvm.exec) (hb : c.code = cc) (hd : decode cc pc = .ok (.dup2, 1))
    (h : s_dup2 mls (pc + 1) mst g μ = some (.inl c')) (hl : zl k mls ls) (hs : zs k mst st) (hH : zH D k g μ H) (hS : va_S (zA k) s.heap H locs) (K : zKt D k p l e R s m args below meth c Q cells slots c') : W p l e R s m args below meth c H locs cells slots Q (F0 m pc ls st) := by
  unfold s_dup2 at h
  split at h
  · split at h
    · rename_i h1
      cases h
      obtain ⟨x, _, rfl, h2, x2, st', rfl, h3, h4⟩ := hs
      exact lv_dup2_11 hx hb hd ((zv_cat h2).1 h1.1) ((zv_cat h3).1 h1.2) (K ls _ H locs hl ⟨_, _, rfl, h2, _, _, rfl, h3, _, _, rfl, h2, _, _, rfl, h3, h4⟩ hH hS)
    · cases h
  · cases h
theorem z_pop (hx : p.tables.exec = Jvm.exec) (hb : c.code = cc) (hd : decode cc pc = .ok (.pop, 1))
    (h : s_pop mls (pc + 1) mst g μ = some (.inl c')) (hl : zl k mls ls) (hs : zs k mst st) (hH : zH D k g μ H) (hS : va_S (zA k) s.heap H locs) (K : zKt D k p l e R s m args below meth c Q cells slots c') : W p l e R s m args below meth c H locs cells slots Q (F0 m pc ls st) := by
  unfold s_pop at h
  split at h
  · split at h
    · rename_i h1
      cases h
      obtain ⟨x, st', rfl, h2, h3⟩ := hs
      exact lv_pop hx hb hd ((zv_cat h2).1 h1) (K ls _ H locs hl h3 hH hS)
    · cases h
  · cases h
/-! loads -/
theorem z_ldi {i : Nat} (row : ∀ x : Int32, ls[i]? = some (.val (.int x)) → W p l e R s m args below meth c H locs cells slots Q (F0 m q ls (.int x :: st)) → W p l e R s m args below meth c H locs cells slots Q (F0 m pc ls st))
    (h : s_ldi mls i q mst g μ = some (.inl c')) (hl : zl k mls ls) (hs : zs k mst st) (hH : zH D k g μ H) (hS : va_S (zA k) s.heap H locs) (K : zKt D k p l e R s m args below meth c Q cells slots c') : W p l e R s m args below meth c H locs cells slots Q (F0 m pc ls st) := by
  unfold s_ldi at h
  split at h
  · rename_i v hv
    cases h
    obtain ⟨w, h1, x, rfl, h2⟩ := hl.2.2 i _ hv
    exact row x h1 (K ls _ H locs hl ⟨_, _, rfl, ⟨x, rfl, h2⟩, hs⟩ hH hS)
  · cases h
theorem z_ldl {i : Nat} (row : ∀ x : Int64, ls[i]? = some (.val (.long x)) → W p l e R s m args below meth c H locs cells slots Q (F0 m q ls (.long x :: st)) → W p l e R s m args below meth c H locs cells slots Q (F0 m pc ls st))
    (h : s_ldl mls i q mst g μ = some (.inl c')) (hl : zl k mls ls) (hs : zs k mst st) (hH : zH D k g μ H) (hS : va_S (zA k) s.heap H locs) (K : zKt D k p l e R s m args below meth c Q cells slots c') : W p l e R s m args below meth c H locs cells slots Q (F0 m pc ls st) := by
  unfold s_ldl at h
  split at h
  · rename_i v hv
    cases h
    obtain ⟨w, h1, x, rfl, h2⟩ := hl.2.2 i _ hv
    exact row x h1 (K ls _ H locs hl ⟨_, _, rfl, ⟨x, rfl, h2⟩, hs⟩ hH hS)
  · cases h
theorem zv_ref {k : ZK} {v : Nat ⊕ Nat} {w : Value} (h : zv k (.inr (.inr v)) w) : w = .null ∨ ∃ a, w = .ref a := by
  rcases v with v | v
  · exact Or.inr ⟨_, h⟩
  · rw [show w = zcv k v from h]; exact zcv_ref k v
theorem z_lda {i : Nat} (row : ∀ w : Value, (w = .null ∨ ∃ a, w = .ref a) → ls[i]? = some (.val w) → W p l e R s m args below meth c H locs cells slots Q (F0 m q ls (w :: st)) → W p l e R s m args below meth c H locs cells slots Q (F0 m pc ls st))
    (h : s_lda mls i q mst g μ = some (.inl c')) (hl : zl k mls ls) (hs : zs k mst st) (hH : zH D k g μ H) (hS : va_S (zA k) s.heap H locs) (K : zKt D k p l e R s m args below meth c Q cells slots c') : W p l e R s m args below meth c H locs cells slots Q (F0 m pc ls st) := by
  unfold s_lda at h
  split at h
  · rename_i v hv
    cases h
    obtain ⟨w, h1, h2⟩ := hl.2.2 i _ hv
    exact row w (zv_ref h2) h1 (K ls _ H locs hl ⟨_, _, rfl, h2, hs⟩ hH hS)
  · cases h
/-! stores -/
def zAll (ls : Array Slot) : List (Nat × Value) := (List.range ls.size).filterMap (fun i : Nat => match (ls[i]? : Option Slot) with
  | some (Slot.val w) => some (i, w)
  | _ => none)
theorem zAll_mem {i : Nat} {w : Value} (h : ls[i]? = some (.val w)) : (i, w) ∈ zAll ls := by
  refine List.mem_filterMap.mpr ⟨i, List.mem_range.mpr (lv_lt h), ?_⟩
  rw [h]
theorem zAll_has (hl : zl k mls ls) : lv_has ls mls.length (zAll ls) := by
  refine ⟨hl.1, hl.2.1, fun q hq => ?_⟩
  obtain ⟨i, -, hi⟩ := List.mem_filterMap.mp hq
  split at hi
  · rename_i w hw
    cases hi
    exact hw
  · cases hi
theorem zl_st1 {i : Nat} {v : MV} {w : Value} {ls' : Array Slot} (hl : zl k mls ls) (hi : i < mls.length) (hp : mNl (mPv mls i) = true) (hv : zv k v w)
    (h : lv_has ls' mls.length ((i, w) :: (zAll ls).filter (fun q => !(q.1 == i) && !(q.1 + 1 == i && q.2.category == 2)))) : zl k (mls.set i (some v)) ls' := by
  refine ⟨by rw [List.length_set]; exact h.1, h.2.1, fun j v' hj => ?_⟩
  rw [List.getElem?_set] at hj
  by_cases hij : i = j
  · subst hij
    rw [if_pos rfl, if_pos hi] at hj
    cases hj
    exact ⟨w, h.2.2 (i, w) List.mem_cons_self, hv⟩
  · rw [if_neg hij] at hj
    obtain ⟨w', h1, h2⟩ := hl.2.2 j v' hj
    refine ⟨w', h.2.2 (j, w') (List.mem_cons_of_mem _ (List.mem_filter.mpr ⟨zAll_mem h1, ?_⟩)), h2⟩
    have e1 : (j == i) = false := by simp; omega
    simp only [e1, Bool.not_false, Bool.true_and]
    by_cases hj1 : j + 1 = i
    · subst hj1
      have h3 : mPv mls (j + 1) = some (some v') := hj
      rw [h3] at hp
      have h4 : w'.category = 1 := (zv_cat h2).1 (by rcases v' with v' | v' | v' <;> first | rfl | cases hp)
      simp [h4]
    · simp [hj1]
theorem zl_st2 {i : Nat} {v : MV} {w : Value} {ls' : Array Slot} (hl : zl k mls ls) (hi : i + 1 < mls.length) (hp : mNl (mPv mls i) = true) (hv : zv k v w)
    (h : lv_has ls' mls.length ((i, w) :: (zAll ls).filter (fun q => !(q.1 == i) && (!(q.1 == i + 1) && !(q.1 + 1 == i && q.2.category == 2))))) : zl k ((mls.set i (some v)).set (i + 1) none) ls' := by
  refine ⟨by rw [List.length_set, List.length_set]; exact h.1, h.2.1, fun j v' hj => ?_⟩
  rw [List.getElem?_set, List.getElem?_set, List.length_set] at hj
  by_cases hij : i = j
  · subst hij
    rw [if_neg (by omega), if_pos rfl, if_pos (by omega)] at hj
    cases hj
    exact ⟨w, h.2.2 (i, w) List.mem_cons_self, hv⟩
  · by_cases hij2 : i + 1 = j
    · rw [if_pos hij2, if_pos (by omega)] at hj
      cases hj
    · rw [if_neg hij2, if_neg hij] at hj
      obtain ⟨w', h1, h2⟩ := hl.2.2 j v' hj
      refine ⟨w', h.2.2 (j, w') (List.mem_cons_of_mem _ (List.mem_filter.mpr ⟨zAll_mem h1, ?_⟩)), h2⟩
      have e1 : (j == i) = false := by simp; omega
      have e2 : (j == i + 1) = false := by simp; omega
      simp only [e1, e2, Bool.not_false, Bool.true_and]
      by_cases hj1 : j + 1 = i
      · subst hj1
        have h3 : mPv mls (j + 1) = some (some v') := hj
        rw [h3] at hp
        have h4 : w'.category = 1 := (zv_cat h2).1 (by rcases v' with v' | v' | v' <;> first | rfl | cases hp)
        simp [h4]
      · simp [hj1]
theorem z_sti {i : Nat} (row : ∀ (x : Int32) (rest : List Value), (∀ ls' : Array Slot, lv_has ls' mls.length ((i, Value.int x) :: (zAll ls).filter (fun q => !(q.1 == i) && !(q.1 + 1 == i && q.2.category == 2))) → W p l e R s m args below meth c H locs cells slots Q (F0 m q ls' rest)) → i < mls.length → W p l e R s m args below meth c H locs cells slots Q (F0 m pc ls (.int x :: rest)))
    (h : s_sti mls i q mst g μ = some (.inl c')) (hl : zl k mls ls) (hs : zs k mst st) (hH : zH D k g μ H) (hS : va_S (zA k) s.heap H locs) (K : zKt D k p l e R s m args below meth c Q cells slots c') : W p l e R s m args below meth c H locs cells slots Q (F0 m pc ls st) := by
  unfold s_sti at h
  split at h
  · split at h
    · rename_i h1
      cases h
      obtain ⟨_, st', rfl, ⟨x, rfl, rfl⟩, h3⟩ := hs
      exact row x st' (fun ls' h4 => K ls' _ H locs (zl_st1 hl h1.1 h1.2.1 ⟨x, rfl, rfl⟩ h4) h3 hH hS) h1.1
    · cases h
  · cases h
theorem z_stl {i : Nat} (row : ∀ (x : Int64) (rest : List Value), (∀ ls' : Array Slot, lv_has ls' mls.length ((i, Value.long x) :: (zAll ls).filter (fun q => !(q.1 == i) && (!(q.1 == i + 1) && !(q.1 + 1 == i && q.2.category == 2)))) → W p l e R s m args below meth c H locs cells slots Q (F0 m q ls' rest)) → i + 1 < mls.length → W p l e R s m args below meth c H locs cells slots Q (F0 m pc ls (.long x :: rest)))
    (h : s_stl mls i q mst g μ = some (.inl c')) (hl : zl k mls ls) (hs : zs k mst st) (hH : zH D k g μ H) (hS : va_S (zA k) s.heap H locs) (K : zKt D k p l e R s m args below meth c Q cells slots c') : W p l e R s m args below meth c H locs cells slots Q (F0 m pc ls st) := by
  unfold s_stl at h
  split at h
  · split at h
    · rename_i h1
      cases h
      obtain ⟨_, st', rfl, ⟨x, rfl, rfl⟩, h3⟩ := hs
      exact row x st' (fun ls' h4 => K ls' _ H locs (zl_st2 hl h1.1 h1.2.1 ⟨x, rfl, rfl⟩ h4) h3 hH hS) h1.1
    · cases h
  · cases h
theorem z_sta {i : Nat} (row : ∀ (w : Value) (rest : List Value), (w = .null ∨ ∃ a, w = .ref a) → (∀ ls' : Array Slot, lv_has ls' mls.length ((i, w) :: (zAll ls).filter (fun q => !(q.1 == i) && !(q.1 + 1 == i && q.2.category == 2))) → W p l e R s m args below meth c H locs cells slots Q (F0 m q ls' rest)) → i < mls.length → W p l e R s m args below meth c H locs cells slots Q (F0 m pc ls (w :: rest)))
    (h : s_sta mls i q mst g μ = some (.inl c')) (hl : zl k mls ls) (hs : zs k mst st) (hH : zH D k g μ H) (hS : va_S (zA k) s.heap H locs) (K : zKt D k p l e R s m args below meth c Q cells slots c') : W p l e R s m args below meth c H locs cells slots Q (F0 m pc ls st) := by
  unfold s_sta at h
  split at h
  · split at h
    · rename_i h1
      cases h
      obtain ⟨w, st', rfl, h2, h3⟩ := hs
      exact row w st' (zv_ref h2) (fun ls' h4 => K ls' _ H locs (zl_st1 hl h1.1 h1.2.1 h2 h4) h3 hH hS) h1.1
    · cases h
  · cases h
theorem z_inc (hx : p.tables.exec = Jvm.exec) (hb : c.code = cc) {i : Nat} {n : Int} (hd : decode cc pc = .ok (.iinc i n, 3))
    (h : s_inc mls i n (pc + 3) mst g μ = some (.inl c')) (hl : zl k mls ls) (hs : zs k mst st) (hH : zH D k g μ H) (hS : va_S (zA k) s.heap H locs) (K : zKt D k p l e R s m args below meth c Q cells slots c') : W p l e R s m args below meth c H locs cells slots Q (F0 m pc ls st) := by
  unfold s_inc at h
  split at h
  · rename_i v hv
    split at h
    · rename_i h1
      cases h
      obtain ⟨w, h2, x, rfl, rfl⟩ := hl.2.2 i _ hv
      obtain ⟨j, hj⟩ := List.getElem?_of_mem (zAll_mem h2)
      have hi : i < mls.length := (List.getElem?_eq_some_iff.mp hv).1
      refine lv_iinc (k := j) hx hb hd (zAll_has hl) hj rfl hi rfl (fun ls' h4 => ?_)
      refine K ls' st H locs (zl_st1 hl hi h1 ⟨_, rfl, ?_⟩ h4) hs hH hS
      rw [zn_add, Int32.toInt_ofInt]
      show mWr _ = mWr _
      unfold mWr
      exact Int.add_bmod_bmod
    · cases h
  · cases h
/-! jumps -/
theorem z_goto (hx : p.tables.exec = Jvm.exec) (hb : c.code = cc) {off : Int} (hd : decode cc pc = .ok (.goto off, 3))
    (h : (if (pc : Int) + off < 0 then none else mNx (mJmp pc off) mls mst g μ) = some (.inl c')) (hl : zl k mls ls) (hs : zs k mst st) (hH : zH D k g μ H) (hS : va_S (zA k) s.heap H locs) (K : zKt D k p l e R s m args below meth c Q cells slots c') : W p l e R s m args below meth c H locs cells slots Q (F0 m pc ls st) := by
  split at h
  · cases h
  · cases h
    exact lv_goto hx hb hd (by unfold mJmp; omega) (K ls st H locs hl hs hH hS)
theorem z_if (hx : p.tables.exec = Jvm.exec) (hb : c.code = cc) {cd : ClassFile.Cond} {off : Int} (hd : decode cc pc = .ok (.ifCond cd off, 3))
    (h : s_if cd off mls pc 3 mst g μ = some (.inl c')) (hl : zl k mls ls) (hs : zs k mst st) (hH : zH D k g μ H) (hS : va_S (zA k) s.heap H locs) (K : zKt D k p l e R s m args below meth c Q cells slots c') : W p l e R s m args below meth c H locs cells slots Q (F0 m pc ls st) := by
  unfold s_if at h
  split at h
  · split at h
    · cases h
    · rename_i hn
      obtain ⟨_, st', rfl, ⟨x, rfl, rfl⟩, h3⟩ := hs
      have ht : (pc : Int) + off = ((mJmp pc off : Nat) : Int) := by unfold mJmp; omega
      have z0 : (0 : Int32).toInt = 0 := rfl
      have kt : mHb cd x.toInt 0 = true → W p l e R s m args below meth c H locs cells slots Q (F0 m (mJmp pc off) ls st') := by
        intro hh
        rw [if_pos hh] at h
        cases h
        exact K ls st' H locs hl h3 hH hS
      have kf : ¬ mHb cd x.toInt 0 = true → W p l e R s m args below meth c H locs cells slots Q (F0 m (pc + 3) ls st') := by
        intro hh
        rw [if_neg hh] at h
        cases h
        exact K ls st' H locs hl h3 hH hS
      cases cd
      · exact lv_if_eq hx hb hd ht (fun w => kt (hb_eq.mpr (zn_eq.mp w))) (fun w => kf (fun z => w (zn_eq.mpr (hb_eq.mp z))))
      · exact lv_if_ne hx hb hd ht (fun w => kt (hb_ne.mpr (fun z => w (zn_eq.mpr z)))) (fun w => kf (fun z => (hb_ne.mp z) (zn_eq.mp w)))
      · exact lv_if_lt hx hb hd ht (fun w => kt (hb_lt.mpr (zn_lt.mp w))) (fun w => kf (fun z => w (zn_lt.mpr (hb_lt.mp z))))
      · exact lv_if_ge hx hb hd ht (fun w => kt (hb_ge.mpr (zn_le.mp w))) (fun w => kf (fun z => w (zn_le.mpr (hb_ge.mp z))))
      · exact lv_if_gt hx hb hd ht (fun w => kt (hb_gt.mpr (zn_lt.mp w))) (fun w => kf (fun z => w (zn_lt.mpr (hb_gt.mp z))))
      · exact lv_if_le hx hb hd ht (fun w => kt (hb_le.mpr (zn_le.mp w))) (fun w => kf (fun z => w (zn_le.mpr (hb_le.mp z))))
  · cases h
theorem z_icmp (hx : p.tables.exec = Jvm.exec) (hb : c.code = cc) {cd : ClassFile.Cond} {off : Int} (hd : decode cc pc = .ok (.if_icmp cd off, 3))
    (h : s_icmp cd off mls pc 3 mst g μ = some (.inl c')) (hl : zl k mls ls) (hs : zs k mst st) (hH : zH D k g μ H) (hS : va_S (zA k) s.heap H locs) (K : zKt D k p l e R s m args below meth c Q cells slots c') : W p l e R s m args below meth c H locs cells slots Q (F0 m pc ls st) := by
  unfold s_icmp at h
  split at h
  · split at h
    · cases h
    · rename_i hn
      obtain ⟨_, _, rfl, ⟨y, rfl, rfl⟩, _, st', rfl, ⟨x, rfl, rfl⟩, h3⟩ := hs
      have ht : (pc : Int) + off = ((mJmp pc off : Nat) : Int) := by unfold mJmp; omega
      have kt : mHb cd x.toInt y.toInt = true → W p l e R s m args below meth c H locs cells slots Q (F0 m (mJmp pc off) ls st') := by
        intro hh
        rw [if_pos hh] at h
        cases h
        exact K ls st' H locs hl h3 hH hS
      have kf : ¬ mHb cd x.toInt y.toInt = true → W p l e R s m args below meth c H locs cells slots Q (F0 m (pc + 3) ls st') := by
        intro hh
        rw [if_neg hh] at h
        cases h
        exact K ls st' H locs hl h3 hH hS
      cases cd
      · exact lv_icmp_eq hx hb hd ht (fun w => kt (hb_eq.mpr (zn_eq.mp w))) (fun w => kf (fun z => w (zn_eq.mpr (hb_eq.mp z))))
      · exact lv_icmp_ne hx hb hd ht (fun w => kt (hb_ne.mpr (fun z => w (zn_eq.mpr z)))) (fun w => kf (fun z => (hb_ne.mp z) (zn_eq.mp w)))
      · exact lv_icmp_lt hx hb hd ht (fun w => kt (hb_lt.mpr (zn_lt.mp w))) (fun w => kf (fun z => w (zn_lt.mpr (hb_lt.mp z))))
      · exact lv_icmp_ge hx hb hd ht (fun w => kt (hb_ge.mpr (zn_le.mp w))) (fun w => kf (fun z => w (zn_le.mpr (hb_ge.mp z))))
      · exact lv_icmp_gt hx hb hd ht (fun w => kt (hb_gt.mpr (zn_lt.mp w))) (fun w => kf (fun z => w (zn_lt.mpr (hb_gt.mp z))))
      · exact lv_icmp_le hx hb hd ht (fun w => kt (hb_le.mpr (zn_le.mp w))) (fun w => kf (fun z => w (zn_le.mpr (hb_le.mp z))))
  · cases h
theorem z_tsw (hx : p.tables.exec = Jvm.exec) (hb : c.code = cc) {d lo hi : Int} {offs : Array Int} (hd : decode cc pc = .ok (.tableswitch d lo hi offs, len))
    (h : s_tsw d lo hi offs mls pc mst g μ = some (.inl c')) (hl : zl k mls ls) (hs : zs k mst st) (hH : zH D k g μ H) (hS : va_S (zA k) s.heap H locs) (K : zKt D k p l e R s m args below meth c Q cells slots c') : W p l e R s m args below meth c H locs cells slots Q (F0 m pc ls st) := by
  unfold s_tsw at h
  split at h
  · obtain ⟨_, st', rfl, ⟨x, rfl, rfl⟩, h3⟩ := hs
    split at h
    · rename_i ho
      split at h
      · cases h
      · cases h
        exact lv_tableOut hx hb hd ho (by unfold mJmp; omega) (K ls st' H locs hl h3 hH hS)
    · rename_i ho
      split at h
      · rename_i off hoff
        split at h
        · cases h
        · cases h
          exact lv_tableIn hx hb hd (fun z => ho (Or.inl z)) (fun z => ho (Or.inr z)) hoff (by unfold mJmp; omega) (K ls st' H locs hl h3 hH hS)
      · cases h
  · cases h
theorem z_lsw (hx : p.tables.exec = Jvm.exec) (hb : c.code = cc) {d : Int} {ps : Array (Int × Int)} (hd : decode cc pc = .ok (.lookupswitch d ps, len))
    (h : s_lsw d ps mls pc mst g μ = some (.inl c')) (hl : zl k mls ls) (hs : zs k mst st) (hH : zH D k g μ H) (hS : va_S (zA k) s.heap H locs) (K : zKt D k p l e R s m args below meth c Q cells slots c') : W p l e R s m args below meth c H locs cells slots Q (F0 m pc ls st) := by
  unfold s_lsw at h
  split at h
  · obtain ⟨_, st', rfl, ⟨x, rfl, rfl⟩, h3⟩ := hs
    split at h
    · rename_i ho
      cases h
      exact lv_lookup hx hb hd ho.1 rfl (by have := ho.2; unfold mJmp; omega) (K ls st' H locs hl h3 hH hS)
    · cases h
  · cases h
end ZS
