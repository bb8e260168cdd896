section ZN
variable {D : va_G} {k : ZK} {E : ME} {p : Program} {l : Launch} {e : Env} {R : Room} {s : State} {m : MethodId} {args : Array Value} {below : List Frame} {meth : Method} {c : Code} {H : Heap} {locs : List Loc} {cells slots : Nat} {Q : State → Prop}
variable {cc : ByteArray} {y pc q len : Nat} {mls : MLs} {mst : List MV} {g : MG} {μ : MU} {ls : Array Slot} {st : List Value} {c' : MCfg}
theorem zA_in (hC : zC E k s s.heap) : ∀ q, s.heap.size ≤ q → zA k q := fun q h => Nat.le_trans hC.2.2.2.2.2.2.2.2.2 h
theorem szu {gf : JFrame} (kk : H.size ≤ s.heap.size + cells → W p l e R s m args below meth c H locs cells slots Q gf) : W p l e R s m args below meth c H locs cells slots Q gf :=
  fun T hT X => kk (by have := X.heapSize; rw [hT] at this; exact this) T hT X
theorem z_fresh {q : Nat} {en : va_E} {H1 : Heap} (hP : va_P D vwCl (zWs k g μ ++ [(q, en)]) H1) (hD : va_D (zA k) (zWs k g μ ++ [(q, en)])) (hz : H1.size ≤ k.1 + g.1 + 1) : q = k.1 + g.1 := by
  have hlen : (zWs k g μ).length = g.1 := by unfold zWs; simp
  have hq : (zWs k g μ ++ [(q, en)])[g.1]? = some (q, en) := by
    rw [List.getElem?_append_right (by omega), hlen, Nat.sub_self]; rfl
  have h1 := (hP g.1 _ hq).lt
  have h2 : k.1 ≤ q := hD.2 g.1 _ hq
  have h3 : ∀ i, i < g.1 → k.1 + i ≠ q := by
    intro i hi he
    have := hD.1 i g.1 (k.1 + i, zEnt k g μ i) (q, en) (by rw [List.getElem?_append_left (by omega)]; exact zWs_at hi) hq he
    omega
  have h4 : q < k.1 + g.1 + 1 := by
    have : q < H1.size := h1
    omega
  by_cases h5 : q < k.1 + g.1
  · exact absurd (show k.1 + (q - k.1) = q by omega) (h3 (q - k.1) (by omega))
  · omega
theorem zEnt_new {kk : Nat × Nat} {sl a : Nat} (ha : a < g.1) : zEnt k (mGrow g kk sl) (mZero μ g.1) a = zEnt k g μ a := by
  have e1 : mKd (mGrow g kk sl) a = mKd g a := by unfold mKd mGrow; simp; omega
  have e2 : ∀ i, mRf (mGrow g kk sl) a i = mRf g a i := fun i => by unfold mRf mGrow; simp; omega
  have e3 : ∀ i, mZero μ g.1 a i = μ a i := fun i => by unfold mZero; rw [if_neg (by omega)]
  unfold zEnt zFld
  simp only [e1, e2, e3]
theorem zWs_new {kk : Nat × Nat} {sl : Nat} : zWs k (mGrow g kk sl) (mZero μ g.1) = zWs k g μ ++ [(k.1 + g.1, zEnt k (mGrow g kk sl) (mZero μ g.1) g.1)] := by
  unfold zWs
  rw [show (mGrow g kk sl).1 = g.1 + 1 from rfl, List.range_succ, List.map_append, List.map_cons, List.map_nil]
  congr 1
  refine List.map_congr_left fun a ha => ?_
  rw [zEnt_new (List.mem_range.mp ha)]
theorem zKn_new {kk : Nat × Nat} {sl : Nat} (h : zKn g) (hk : (kk.1 < 7 ∨ (10 ≤ kk.1 ∧ kk.1 < 15)) ∧ kk.2 < 2147483648) : zKn (mGrow g kk sl) := by
  intro a
  have e : mKd (mGrow g kk sl) a = if a = g.1 then kk else mKd g a := rfl
  rw [e, show (mGrow g kk sl).1 = g.1 + 1 from rfl]
  by_cases h1 : a = g.1
  · subst h1
    rw [if_pos rfl]
    exact Or.inl ⟨by omega, hk.1, hk.2⟩
  · rw [if_neg h1]
    rcases h a with q | q
    · exact Or.inl ⟨by omega, q.2⟩
    · exact Or.inr ⟨by omega, q.2⟩
theorem zH_new {H1 : Heap} {q : Nat} {kk : Nat × Nat} {sl : Nat} {en : va_E} (hH : zH D k g μ H) (hk : (kk.1 < 7 ∨ (10 ≤ kk.1 ∧ kk.1 < 15)) ∧ kk.2 < 2147483648) (hP : va_P D vwCl (zWs k g μ ++ [(q, en)]) H1) (hq : q = k.1 + g.1) (he : en = zEnt k (mGrow g kk sl) (mZero μ g.1) g.1) : zH D k (mGrow g kk sl) (mZero μ g.1) H1 := by
  subst hq; subst he
  refine ⟨by rw [zWs_new]; exact hP, fun a j => ?_, zKn_new hH.2.2 hk⟩
  unfold mZero
  split
  · decide
  · exact hH.2.1 a j
theorem z_newa (hx : p.tables.exec = Jvm.exec) (hb : c.code = cc) (hts : ∀ w ∈ zTbl, w.before args s = true) (hK : va_K D vwCl (zTys k) s) (hC : zC E k s s.heap) {at_ : ArrayType} {t : Nat} {ty : FieldType} (hw : Cond.arrayClass (newarray.typeOf at_) ∈ zTbl) (hty : newarray.typeOf at_ = ty) (h10 : 10 ≤ t) (h13 : t < 13) (hdef : defaultValue ty = .int 0) (hcm : componentBytes ty ≤ 8) (hnm : ∀ cA, va_RA s cA ty → cA = k.2.1 t) (hd : decode cc pc = .ok (.newarray at_, 2))
    (h : s_newa t mls (pc + 2) mst g μ = some (.inl c')) (hl : zl k mls ls) (hs : zs k mst st) (hH : zH D k g μ H) (hS : va_S (zA k) s.heap H locs) (hz : s.heap.size + cells = k.1 + g.1) (hrc : cells + (c'.2.2.2.1.1 - g.1) ≤ R.cells) (hrs : slots + (c'.2.2.2.1.2.1 - g.2.1) ≤ R.slots) (K : zKt D k p l e R s m args below meth c Q (cells + (c'.2.2.2.1.1 - g.1)) (slots + (c'.2.2.2.1.2.1 - g.2.1)) c') : W p l e R s m args below meth c H locs cells slots Q (F0 m pc ls st) := by
  unfold s_newa at h
  split at h
  · split at h
    · rename_i h1
      cases h
      obtain ⟨_, st', rfl, ⟨x, rfl, rfl⟩, h3⟩ := hs
      have e1 : (mGrow g (t, x.toInt.toNat) x.toInt.toNat).1 - g.1 = 1 := by show g.1 + 1 - g.1 = 1; omega
      have e2 : (mGrow g (t, x.toInt.toNat) x.toInt.toNat).2.1 - g.2.1 = x.toInt.toNat := by show g.2.1 + x.toInt.toNat - g.2.1 = _; omega
      dsimp only at hrc hrs K
      rw [e1] at hrc K
      rw [e2] at hrs K
      refine va_newa (a0 := (x.toInt.toNat, .inl (fun _ => 0))) hx hb (hts _ hw) hty hK hH.1 zWs_D hS (zA_in hC) (fun cA => by rw [hdef]; rfl) (fun z => by have := zn_lt.mp z; have h0 : (0 : Int32).toInt = 0 := rfl; omega) rfl (by show x.toInt.toNat * _ ≤ _; have := Nat.mul_le_mul (show x.toInt.toNat ≤ 2000 by omega) hcm; omega) hrc hrs hd (fun q cA H1 hK1 hP1 hD1 hS1 => ?_)
      have hc : cA = k.2.1 t := hnm cA (hK1.2 5 (cA, ty) rfl).2
      subst hc
      refine szu (fun hsz => ?_)
      have hq := z_fresh hP1 hD1 (by omega)
      have hq' : zv k (mR g.1) (.ref q) := by rw [hq]; rfl
      refine K ls _ H1 locs hl ⟨_, _, rfl, hq', h3⟩ (zH_new hH ⟨Or.inr ⟨h10, by omega⟩, by omega⟩ hP1 hq ?_) hS1
      have ek : mKd (mGrow g (t, x.toInt.toNat) x.toInt.toNat) g.1 = (t, x.toInt.toNat) := by unfold mKd mGrow; simp
      rw [zEnt_arr (t := t) (by rw [ek]) (by omega) h13, ek]
      have : (fun j => Int32.ofInt (mZero μ g.1 g.1 j)) = fun _ => 0 := by funext j; unfold mZero; rw [if_pos rfl]; rfl
      rw [this]
    · cases h
  · cases h
theorem z_anew (hx : p.tables.exec = Jvm.exec) (hb : c.code = cc) {own : String} (hown : s.vm.findClass own = some m.cls) {idx ci : Nat} (hcl : (Cond.classLink own idx (zCN ci)).before args s = true) (hK : va_K D vwCl (zTys k) s) (hC : zC E k s s.heap) (hd : decode cc pc = .ok (.anewarray idx, 3))
    (h : s_anew ci mls (pc + 3) mst g μ = some (.inl c')) (hl : zl k mls ls) (hs : zs k mst st) (hH : zH D k g μ H) (hS : va_S (zA k) s.heap H locs) (hz : s.heap.size + cells = k.1 + g.1) (hrc : cells + (c'.2.2.2.1.1 - g.1) ≤ R.cells) (hrs : slots + (c'.2.2.2.1.2.1 - g.2.1) ≤ R.slots) (K : zKt D k p l e R s m args below meth c Q (cells + (c'.2.2.2.1.1 - g.1)) (slots + (c'.2.2.2.1.2.1 - g.2.1)) c') : W p l e R s m args below meth c H locs cells slots Q (F0 m pc ls st) := by
  unfold s_anew at h
  split at h
  · split at h
    · rename_i h1
      cases h
      obtain ⟨_, st', rfl, ⟨x, rfl, rfl⟩, h3⟩ := hs
      obtain ⟨t, ht⟩ : ∃ t, t = (if ci = 0 then 13 else 14) := ⟨_, rfl⟩
      rw [← ht] at hrc hrs K
      have e1 : (mGrow g (t, x.toInt.toNat) x.toInt.toNat).1 - g.1 = 1 := by show g.1 + 1 - g.1 = 1; omega
      have e2 : (mGrow g (t, x.toInt.toNat) x.toInt.toNat).2.1 - g.2.1 = x.toInt.toNat := by show g.2.1 + x.toInt.toNat - g.2.1 = _; omega
      dsimp only at hrc hrs K
      rw [e1] at hrc K
      rw [e2] at hrs K
      have hao : va_AO (zCN ci) s := by
        rcases h1.2.2 with rfl | rfl
        · exact hC.2.2.1.1
        · exact hC.2.2.1.2
      refine va_newq (N' := x.toInt.toNat) hx hb hown hcl hao hK hH.1 zWs_D hS (zA_in hC) (fun z => by have := zn_lt.mp z; have h0 : (0 : Int32).toInt = 0 := rfl; omega) rfl (by omega) hrc hrs hd (fun q cA H1 hK1 hP1 hD1 hS1 => ?_)
      have hc : cA = k.2.1 t := by
        obtain ⟨kA, comp, -, -, -, h4⟩ := (hK1.2 5 (cA, .object (zCN ci)) rfl).2
        rcases h1.2.2 with rfl | rfl
        · obtain ⟨kA', comp', -, -, -, h5⟩ := (hK.2 3 (k.2.1 13, .object RX0) rfl).2
          rw [ht]
          exact Option.some.inj (h4.symm.trans h5)
        · obtain ⟨kA', comp', -, -, -, h5⟩ := (hK.2 4 (k.2.1 14, .object RX4) rfl).2
          rw [ht]
          exact Option.some.inj (h4.symm.trans h5)
      subst hc
      refine szu (fun hsz => ?_)
      have hq := z_fresh hP1 hD1 (by omega)
      have hq' : zv k (mR g.1) (.ref q) := by rw [hq]; rfl
      have ht2 : 13 ≤ t ∧ t < 15 := by rw [ht]; split <;> omega
      refine K ls _ H1 locs hl ⟨_, _, rfl, hq', h3⟩ (zH_new hH ⟨Or.inr ⟨by omega, ht2.2⟩, by omega⟩ hP1 hq ?_) hS1
      have ek : mKd (mGrow g (t, x.toInt.toNat) x.toInt.toNat) g.1 = (t, x.toInt.toNat) := by unfold mKd mGrow; simp
      rw [zEnt_ref (t := t) (by rw [ek]) ht2.1, ek]
      have : (fun j => (mRf (mGrow g (t, x.toInt.toNat) x.toInt.toNat) g.1 j).map (fun q => k.1 + q)) = fun _ => none := by funext j; unfold mRf mGrow; simp
      rw [this]
    · cases h
  · cases h
theorem z_tyc {ci f : Nat} (hc : ci < 7) (hf : f < mNfs ci) : ((mFty ci f = 0 ∧ zTy ci f = .int) ∨ (mFty ci f = 1 ∧ zTy ci f = .char) ∨ (mFty ci f = 2 ∧ zTy ci f = .boolean) ∨ (mFty ci f = 3 ∧ ((match zTy ci f with | .array _ => true | .object _ => true | _ => false) = true))) ∧ (zT ci f).2.2.2 = decide (mFty ci f = 3) ∧ (zT ci f).1 = zCN ci := by
  have h1 := List.all_eq_true.mp (List.all_eq_true.mp zFty_ok ci (List.mem_range.mpr hc)) f (List.mem_range.mpr hf)
  simp only [Bool.and_eq_true, decide_eq_true_eq] at h1
  exact ⟨h1.1.1, h1.1.2, h1.2⟩
theorem z_new (hx : p.tables.exec = Jvm.exec) (hb : c.code = cc) (hts : ∀ w ∈ zTbl, w.before args s = true) {own : String} (hown : s.vm.findClass own = some m.cls) {idx ci : Nat} (hci : ci < 7) (hcl : (Cond.classLink own idx (zCN ci)).before args s = true) (hK : va_K D vwCl (zTys k) s) (hC : zC E k s s.heap) (hd : decode cc pc = .ok (.new idx, 3))
    (h : s_new ci mls (pc + 3) mst g μ = some (.inl c')) (hl : zl k mls ls) (hs : zs k mst st) (hH : zH D k g μ H) (hS : va_S (zA k) s.heap H locs) (hz : s.heap.size + cells = k.1 + g.1) (hrc : cells + (c'.2.2.2.1.1 - g.1) ≤ R.cells) (hrs : slots + (c'.2.2.2.1.2.1 - g.2.1) ≤ R.slots) (K : zKt D k p l e R s m args below meth c Q (cells + (c'.2.2.2.1.1 - g.1)) (slots + (c'.2.2.2.1.2.1 - g.2.1)) c') : W p l e R s m args below meth c H locs cells slots Q (F0 m pc ls st) := by
  unfold s_new at h
  cases h
  have e1 : (mGrow g (ci, 0) (mNfs ci)).1 - g.1 = 1 := by show g.1 + 1 - g.1 = 1; omega
  have e2 : (mGrow g (ci, 0) (mNfs ci)).2.1 - g.2.1 = mNfs ci := by show g.2.1 + mNfs ci - g.2.1 = _; omega
  dsimp only at hrc hrs K
  rw [e1] at hrc K
  rw [e2] at hrs K
  have hI := List.all_eq_true.mp zInst_ok ci (List.mem_range.mpr hci)
  simp only [Bool.and_eq_true, decide_eq_true_eq] at hI
  have ek : mKd (mGrow g (ci, 0) (mNfs ci)) g.1 = (ci, 0) := by unfold mKd mGrow; simp
  refine va_new (fs := (List.range (mNfs ci)).map (zFld k (mGrow g (ci, 0) (mNfs ci)) (mZero μ g.1) g.1 ci)) hx hb hts (zU_in hci) (zTy ci) (zTy_ok hci) hown hcl (hts _ (zTbl_of hI.1.1.1 hI.1.1.2)) (hts _ (zTbl_of hI.1.2 hI.2)) hK hH.1 zWs_D hS (zA_in hC) (zCl_ok ci hci) (fun j hj => ?_) hrc hrs hd (fun q H1 hP1 hD1 hS1 => ?_)
  · unfold vp_V
    rw [List.getD_eq_getElem?_getD, List.getElem?_map, List.getElem?_range hj]
    show _ = zFld k _ _ g.1 ci j
    have hr : mRf (mGrow g (ci, 0) (mNfs ci)) g.1 j = none := by unfold mRf mGrow; simp
    have hu : mZero μ g.1 g.1 j = 0 := by unfold mZero; rw [if_pos rfl]
    unfold zFld
    rcases (z_tyc hci hj).1 with ⟨h1, h2⟩ | ⟨h1, h2⟩ | ⟨h1, h2⟩ | ⟨h1, h2⟩
    · rw [h2, if_neg (by omega), hu]; rfl
    · rw [h2, if_neg (by omega), hu]; rfl
    · rw [h2, if_neg (by omega), hu]; rfl
    · rw [if_pos h1, hr]
      cases hty : zTy ci j <;> rw [hty] at h2 <;> first | rfl | cases h2
  · refine szu (fun hsz => ?_)
    have hq := z_fresh hP1 hD1 (by omega)
    have hq' : zv k (mR g.1) (.ref q) := by rw [hq]; rfl
    refine K ls _ H1 locs hl ⟨_, _, rfl, hq', hs⟩ (zH_new hH ⟨Or.inl hci, by show (0 : Nat) < 2147483648; decide⟩ hP1 hq ?_) hS1
    rw [zEnt_obj (t := ci) (by rw [ek]) hci]
end ZN
section ZF
variable {D : va_G} {k : ZK} {E : ME} {p : Program} {l : Launch} {e : Env} {R : Room} {s : State} {m : MethodId} {args : Array Value} {below : List Frame} {meth : Method} {c : Code} {H : Heap} {locs : List Loc} {cells slots : Nat} {Q : State → Prop}
variable {cc : ByteArray} {y pc q len : Nat} {mls : MLs} {mst : List MV} {g : MG} {μ : MU} {ls : Array Slot} {st : List Value} {c' : MCfg}
theorem zFldOf {o i ci f : Nat} (h : mFldOf o i = some (ci, f)) : ∃ e ∈ mFldL, e.1 = o ∧ e.2.1 = i ∧ e.2.2.1 = ci ∧ e.2.2.2.1 = f := by
  unfold mFldOf at h
  cases hf : mFldL.find? (fun e => e.1 == o && e.2.1 == i) with
  | none => rw [hf] at h; cases h
  | some e =>
    rw [hf] at h
    have h1 := List.find?_some hf
    have h2 := List.mem_of_find?_eq_some hf
    simp only [Bool.and_eq_true, beq_iff_eq] at h1
    cases h
    exact ⟨e, h2, h1.1, h1.2, rfl, rfl⟩
theorem zFldW {o i ci f : Nat} (h : mFldOf o i = some (ci, f)) : (ci < 7 ∧ f < mNfs ci ∧ Cond.fieldLink (zCN o) i (zT ci f).1 (zT ci f).2.1 (zT ci f).2.2.1 ∈ zTbl) ∨ (ci = 7 ∧ f < 2 ∧ Cond.fieldLink (zCN o) i "java/lang/String" (if f = 0 then "value" else "coder") (if f = 0 then "[B" else "B") ∈ zTbl) := by
  obtain ⟨e, he, rfl, rfl, rfl, rfl⟩ := zFldOf h
  have h1 := List.all_eq_true.mp zFW_ok e he
  simp only [Bool.and_eq_true, Bool.or_eq_true, decide_eq_true_eq] at h1
  have h2 := zTbl_of h1.1.1 h1.1.2
  unfold zFW at h2
  rcases h1.2 with h3 | h3
  · rw [if_neg (by omega)] at h2
    exact Or.inl ⟨h3.1, h3.2, h2⟩
  · rw [if_pos h3.1] at h2
    exact Or.inr ⟨h3.1, h3.2, h2⟩
theorem z_get (hx : p.tables.exec = Jvm.exec) (hb : c.code = cc) (hts : ∀ w ∈ zTbl, w.before args s = true) {o idx ci f : Nat} (hown : s.vm.findClass (zCN o) = some m.cls) (hf : mFldOf o idx = some (ci, f)) (hK : va_K D vwCl (zTys k) s) (hC : zC E k s s.heap) (hd : decode cc pc = .ok (.getfield idx, 3))
    (h : s_get ci f mls (pc + 3) mst g μ = some (.inl c')) (hl : zl k mls ls) (hs : zs k mst st) (hH : zH D k g μ H) (hS : va_S (zA k) s.heap H locs) (K : zKt D k p l e R s m args below meth c Q cells slots c') : W p l e R s m args below meth c H locs cells slots Q (F0 m pc ls st) := by
  have hw := zFldW hf
  unfold s_get at h
  split at h
  · rename_i a st0
    split at h
    · rename_i h1
      obtain ⟨_, st', rfl, hv, h3⟩ := hs
      cases hv
      rcases hw with ⟨hci, -, hw⟩ | ⟨hci, -, -⟩
      · obtain ⟨ha, -⟩ := zKd_look hH.2.2 h1.1 (by omega)
        have hat := zWs_at (k := k) (μ := μ) ha
        rw [zEnt_obj h1.1 hci] at hat
        have hfs : ((List.range (mNfs ci)).map (zFld k g μ a ci))[f]? = some (zFld k g μ a ci f) := by rw [List.getElem?_map, List.getElem?_range h1.2]; rfl
        refine va_get hx hb hts (zU_in hci) hown hK hH.1 a hat (zCl_ok ci hci) f h1.2 (hts _ hw) (fun _ z => z) hfs hd ?_
        unfold zFld
        split at h
        · rename_i h4
          cases h
          rw [if_pos h4]
          exact K ls _ H locs hl ⟨_, _, rfl, zRv, h3⟩ hH hS
        · rename_i h4
          cases h
          rw [if_neg h4]
          exact K ls _ H locs hl ⟨_, _, rfl, ⟨_, rfl, zn_i (hH.2.1 _ _)⟩, h3⟩ hH hS
      · exfalso
        rw [hci] at h1
        have : mNfs 7 = 0 := rfl
        omega
    · cases h
  · rename_i cn st0
    split at h
    · rename_i h1
      obtain ⟨w, st', rfl, hv, h3⟩ := hs
      have hv : w = zcv k cn := hv
      have hcn : 10 ≤ cn ∧ cn < 16 := by simpa [mk_isS] using h1.2
      have e1 : zcv k cn = .ref (k.2.2.2.1 (cn - 10)) := by unfold zcv; rw [if_neg (by omega), if_neg (by omega), if_pos (by omega)]
      rw [hv, e1]
      obtain ⟨hs1, hs2, hs3, -⟩ := hC.2.2.2.2.2.2.2.1.1 (cn - 10) (by omega)
      rcases hw with ⟨hci, -⟩ | ⟨hci, hf2, hw⟩
      · omega
      · split at h
        · rename_i h4
          cases h
          rw [if_pos h4, if_pos h4] at hw
          refine vk_getf hx hb hs3 hS hown (hts _ hw) (fun _ z => z) hd (K ls _ H locs hl ⟨_, _, rfl, ?_, h3⟩ hH hS)
          show _ = zcv k (cn + 10)
          unfold zcv
          rw [if_neg (by omega), if_neg (by omega), if_neg (by omega), if_pos (by omega), show cn + 10 - 20 = cn - 10 by omega]
        · rename_i h4
          split at h
          · cases h
            rw [if_neg h4, if_neg h4] at hw
            exact vk_getf hx hb hs2 hS hown (hts _ hw) (fun _ z => z) hd (K ls _ H locs hl ⟨_, _, rfl, ⟨0, rfl, rfl⟩, h3⟩ hH hS)
          · cases h
    · cases h
  · cases h
theorem z_put (hx : p.tables.exec = Jvm.exec) (hb : c.code = cc) (hts : ∀ w ∈ zTbl, w.before args s = true) {o idx ci f : Nat} {ini : Bool} (hin2 : (ini && o == ci) = true → meth.name = "<init>") (hown : s.vm.findClass (zCN o) = some m.cls) (hf : mFldOf o idx = some (ci, f)) (hK : va_K D vwCl (zTys k) s) (hd : decode cc pc = .ok (.putfield idx, 3))
    (h : s_put (ini && o == ci) ci f mls (pc + 3) mst g μ = some (.inl c')) (hl : zl k mls ls) (hs : zs k mst st) (hH : zH D k g μ H) (hS : va_S (zA k) s.heap H locs) (K : zKt D k p l e R s m args below meth c Q cells slots c') : W p l e R s m args below meth c H locs cells slots Q (F0 m pc ls st) := by
  have hw := zFldW hf
  unfold s_put at h
  split at h
  · rename_i v a st0
    split at h
    · rename_i h1
      cases h
      obtain ⟨_, _, rfl, ⟨x, rfl, rfl⟩, _, st', rfl, hv, h3⟩ := hs
      cases hv
      rcases hw with ⟨hci, -, hw⟩ | ⟨hci, -, -⟩
      · obtain ⟨ha, -⟩ := zKd_look hH.2.2 h1.1 (by omega)
        have hat := zWs_at (k := k) (μ := μ) ha
        rw [zEnt_obj h1.1 hci] at hat
        obtain ⟨ht, hfin, -⟩ := z_tyc hci h1.2.1
        have hty : (mFty ci f = 0 ∧ zTy ci f = .int) ∨ (mFty ci f = 1 ∧ zTy ci f = .char) ∨ (mFty ci f = 2 ∧ zTy ci f = .boolean) := by
          rcases ht with z | z | z | z
          · exact Or.inl z
          · exact Or.inr (Or.inl z)
          · exact Or.inr (Or.inr z)
          · exact absurd z.1 h1.2.2.1
        have hnar := z_nar h1.2.2.2 hty
        refine va_put hx hb hts (zU_in hci) (zTy ci) (zTy_ok hci) (zNm_ok hci) hown hK hH.1 zWs_D hS a hat (zCl_ok ci hci) f h1.2.1 (hts _ hw) (fun _ z => z) (by rw [hfin]; exact decide_eq_false h1.2.2.1) (zTy_ok hci f h1.2.1) hnar.1 hnar.2 (by simp; exact h1.2.1) hd (fun H1 locs1 hP1 _ hS1 => K ls st' H1 locs1 hl h3 (zH_up hH ha (zn_rng x) ?_ hP1) hS1)
        rw [zEnt_obj (t := ci) h1.1 hci]
        congr 2
        refine List.ext_getElem? fun j => ?_
        rw [List.getElem?_set, List.length_map, List.length_range, List.getElem?_map, List.getElem?_map]
        by_cases hj : f = j
        · subst hj
          rw [if_pos rfl, if_pos h1.2.1, List.getElem?_range h1.2.1]
          show _ = some (zFld k g (mUp μ a f x.toInt) a ci f)
          unfold zFld
          rw [if_neg h1.2.2.1]
          simp [mUp, zn_of]
        · rw [if_neg hj]
          cases hr : (List.range (mNfs ci))[j]? with
          | none => rfl
          | some j' =>
            have hj' : j' = j := by
              obtain ⟨q1, q2⟩ := List.getElem?_eq_some_iff.mp hr
              rw [List.getElem_range] at q2
              exact q2.symm
            subst hj'
            show some (zFld k g μ a ci j') = some (zFld k g (mUp μ a f x.toInt) a ci j')
            unfold zFld
            have : mUp μ a f x.toInt a j' = μ a j' := by unfold mUp; rw [if_neg (fun z => hj z.2.symm)]
            rw [this]
      · exfalso
        have := h1.2.1
        rw [hci] at this
        have : mNfs 7 = 0 := rfl
        omega
    · cases h
  · rename_i b a st0
    split at h
    · rename_i h1
      cases h
      obtain ⟨_, _, rfl, hvb, _, st', rfl, hv, h3⟩ := hs
      cases hv; cases hvb
      rcases hw with ⟨hci, -, hw⟩ | ⟨hci, -, -⟩
      · obtain ⟨ha, -⟩ := zKd_look hH.2.2 h1.1 (by omega)
        have hat := zWs_at (k := k) (μ := μ) ha
        rw [zEnt_obj h1.1 hci] at hat
        obtain ⟨ht, hfin, hdc⟩ := z_tyc hci h1.2.1
        have hty : (match zTy ci f with | .array _ => true | .object _ => true | _ => false) = true := by
          rcases ht with z | z | z | z
          · omega
          · omega
          · omega
          · exact z.2
        have hnar : narrow (zTy ci f) (.ref (k.1 + b)) = .ref (k.1 + b) ∧ fits (zTy ci f) (.ref (k.1 + b)) = true := by
          cases hz : zTy ci f <;> rw [hz] at hty <;> first | exact ⟨rfl, rfl⟩ | cases hty
        have ho : o = ci := by
          have := h1.2.2.2
          simp only [Bool.and_eq_true, beq_iff_eq] at this
          exact this.2
        refine va_putF hx hb hts (zU_in hci) (zTy ci) (zTy_ok hci) (zNm_ok hci) hown hK hH.1 zWs_D hS a hat (zCl_ok ci hci) f h1.2.1 (hts _ hw) (fun _ z => z) (by rw [hfin]; exact decide_eq_true h1.2.2.1) (hin2 h1.2.2.2) (by rw [hdc, ho]) (zTy_ok hci f h1.2.1) hnar.1 hnar.2 (by simp; exact h1.2.1) hd (fun H1 locs1 hP1 _ hS1 => K ls st' H1 locs1 hl h3 (zH_rf hH ha ?_ hP1) hS1)
        show _ = zEnt k (mSetR g a f (some b)) μ a
        rw [zEnt_obj (t := ci) (show (mKd (mSetR g a f (some b)) a).1 = ci from h1.1) hci]
        congr 2
        refine List.ext_getElem? fun j => ?_
        rw [List.getElem?_set, List.length_map, List.length_range, List.getElem?_map, List.getElem?_map]
        by_cases hj : f = j
        · subst hj
          rw [if_pos rfl, if_pos h1.2.1, List.getElem?_range h1.2.1]
          show _ = some (zFld k (mSetR g a f (some b)) μ a ci f)
          unfold zFld
          rw [if_pos h1.2.2.1]
          have : mRf (mSetR g a f (some b)) a f = some b := by unfold mRf mSetR; simp
          rw [this]
          rfl
        · rw [if_neg hj]
          cases hr : (List.range (mNfs ci))[j]? with
          | none => rfl
          | some j' =>
            have hj' : j' = j := by
              obtain ⟨q1, q2⟩ := List.getElem?_eq_some_iff.mp hr
              rw [List.getElem_range] at q2
              exact q2.symm
            subst hj'
            show some (zFld k g μ a ci j') = some (zFld k (mSetR g a f (some b)) μ a ci j')
            unfold zFld
            have : mRf (mSetR g a f (some b)) a j' = mRf g a j' := by unfold mRf mSetR; simp; intro z; exact absurd z.symm hj
            rw [this]
      · exfalso
        have := h1.2.1
        rw [hci] at this
        have : mNfs 7 = 0 := rfl
        omega
    · cases h
  · cases h
theorem zGstOf {o i : Nat} {v : MV} (h : mGstOf o i = some v) : (∃ c, o = 0 ∧ (i, c) ∈ zNF ∧ 2 ≤ c ∧ c < 5 ∧ v = mK c) ∨ (o = 7 ∧ i = 38 ∧ v = mI 1) ∨ (o = 7 ∧ i = 1053 ∧ v = mK 1) := by
  unfold mGstOf at h
  cases hf : mGstL.find? (fun e => e.1 == o && e.2.1 == i) with
  | none => rw [hf] at h; cases h
  | some e =>
    rw [hf] at h
    have h1 := List.find?_some hf
    have h2 := List.mem_of_find?_eq_some hf
    simp only [Bool.and_eq_true, beq_iff_eq] at h1
    cases h
    obtain ⟨rfl, rfl⟩ := h1
    have key : ∀ e ∈ mGstL, (∃ c, e.1 = 0 ∧ (e.2.1, c) ∈ zNF ∧ 2 ≤ c ∧ c < 5 ∧ e.2.2.1 = mK c) ∨ (e.1 = 7 ∧ e.2.1 = 38 ∧ e.2.2.1 = mI 1) ∨ (e.1 = 7 ∧ e.2.1 = 1053 ∧ e.2.2.1 = mK 1) := by
      intro e he
      simp only [mGstL, List.mem_cons, List.not_mem_nil, or_false] at he
      rcases he with rfl | rfl | rfl | rfl | rfl
      all_goals first
        | exact Or.inr (Or.inl ⟨rfl, rfl, rfl⟩)
        | exact Or.inr (Or.inr ⟨rfl, rfl, rfl⟩)
        | exact Or.inl ⟨2, rfl, by decide, by decide, by decide, rfl⟩
        | exact Or.inl ⟨3, rfl, by decide, by decide, by decide, rfl⟩
        | exact Or.inl ⟨4, rfl, by decide, by decide, by decide, rfl⟩
    exact key e h2
theorem z_gst (hx : p.tables.exec = Jvm.exec) (hb : c.code = cc) (hts : ∀ w ∈ zTbl, w.before args s = true) {o idx : Nat} {v : MV} (hown : s.vm.findClass (zCN o) = some m.cls) (hf : mGstOf o idx = some v) (hC : zC E k s s.heap) (hd : decode cc pc = .ok (.getstatic idx, 3))
    (h : mNx (pc + 3) mls (v :: mst) g μ = some (.inl c')) (hl : zl k mls ls) (hs : zs k mst st) (hH : zH D k g μ H) (hS : va_S (zA k) s.heap H locs) (K : zKt D k p l e R s m args below meth c Q cells slots c') : W p l e R s m args below meth c H locs cells slots Q (F0 m pc ls st) := by
  cases h
  rcases zGstOf hf with ⟨cn, rfl, hn, h2, h5, rfl⟩ | ⟨rfl, rfl, rfl⟩ | ⟨rfl, rfl, rfl⟩
  · have hz := hC.2.2.2.1 cn h2 h5
    have hw := va_Nw.use (A := args) rfl (hC.2.1 _ hn)
    refine va_getsN hx hb hz hS hown hw (fun _ z => z) hd (K ls _ H locs hl ⟨_, _, rfl, ?_, hs⟩ hH hS)
    show _ = zcv k cn
    unfold zcv
    rw [if_neg (by omega), if_pos (by omega)]
  · exact va_gets hx hb hC.2.2.2.2.2.1 hS hown (hts _ zGs1) (fun _ z => z) hd (K ls _ H locs hl ⟨_, _, rfl, ⟨1, rfl, rfl⟩, hs⟩ hH hS)
  · exact va_gets hx hb hC.2.2.2.2.2.2.1 hS hown (hts _ zGs2) (fun _ z => z) hd (K ls _ H locs hl ⟨_, _, rfl, rfl, hs⟩ hH hS)
theorem zLdcOf {o i : Nat} {v : MV} (h : mLdcOf o i = some v) : (∃ z, v = mI z ∧ Cond.constant (zCN o) i (Int32.ofInt z) ∈ zTbl ∧ -2147483648 ≤ z ∧ z < 2147483648) ∨ (∃ z, v = mL z ∧ Cond.constantLong (zCN o) i (Int64.ofInt z) ∈ zTbl ∧ -9223372036854775808 ≤ z ∧ z < 9223372036854775808) ∨ (∃ c, v = mK c ∧ o = 2 ∧ 10 ≤ c ∧ c < 16 ∧ i = 66 + 2 * (c - 10)) := by
  unfold mLdcOf at h
  cases hf : mLdcL.find? (fun e => e.1 == o && e.2.1 == i) with
  | none => rw [hf] at h; cases h
  | some e =>
    rw [hf] at h
    have h1 := List.find?_some hf
    have h2 := List.mem_of_find?_eq_some hf
    simp only [Bool.and_eq_true, beq_iff_eq] at h1
    cases h
    obtain ⟨rfl, rfl⟩ := h1
    have h3 := List.all_eq_true.mp zLW_ok e h2
    unfold zLW at h3
    rcases hv : e.2.2.1 with z | z | z | z
    · rw [hv] at h3
      simp only [Bool.and_eq_true, decide_eq_true_eq] at h3
      exact Or.inl ⟨z, hv, zTbl_of h3.1.1 h3.1.2, h3.2⟩
    · rw [hv] at h3
      simp only [Bool.and_eq_true, decide_eq_true_eq] at h3
      exact Or.inr (Or.inl ⟨z, hv, zTbl_of h3.1.1 h3.1.2, h3.2⟩)
    · rw [hv] at h3; cases h3
    · rw [hv] at h3
      simp only [Bool.and_eq_true, decide_eq_true_eq, beq_iff_eq] at h3
      exact Or.inr (Or.inr ⟨z, hv, h3.1, h3.2⟩)
end ZF
section ZL
variable {D : va_G} {k : ZK} {E : ME} {p : Program} {l : Launch} {e : Env} {R : Room} {s : State} {m : MethodId} {args : Array Value} {below : List Frame} {meth : Method} {c : Code} {H : Heap} {locs : List Loc} {cells slots : Nat} {Q : State → Prop}
variable {cc : ByteArray} {y pc q len : Nat} {mls : MLs} {mst : List MV} {g : MG} {μ : MU} {ls : Array Slot} {st : List Value} {c' : MCfg}
theorem zn_i64 {v : Int} (h : -9223372036854775808 ≤ v ∧ v < 9223372036854775808) : (Int64.ofInt v).toInt = v := Int64.toInt_ofInt_of_le (by omega) (by omega)
theorem z_ldc (hx : p.tables.exec = Jvm.exec) (hb : c.code = cc) (hts : ∀ w ∈ zTbl, w.before args s = true) {o idx : Nat} (hown : s.vm.findClass (zCN o) = some m.cls) (hC : zC E k s s.heap) (hd : decode cc pc = .ok (.ldc idx, 2))
    (h : (match mLd1 (mLdcOf o idx) with | some v => mNx (pc + 2) mls (v :: mst) g μ | none => none) = some (.inl c')) (hl : zl k mls ls) (hs : zs k mst st) (hH : zH D k g μ H) (hS : va_S (zA k) s.heap H locs) (K : zKt D k p l e R s m args below meth c Q cells slots c') : W p l e R s m args below meth c H locs cells slots Q (F0 m pc ls st) := by
  cases hf : mLdcOf o idx with
  | none => rw [hf] at h; cases h
  | some v =>
    rw [hf] at h
    rcases zLdcOf hf with ⟨z, rfl, hw, hz⟩ | ⟨z, rfl, hw, hz⟩ | ⟨cn, rfl, ho, h1, h2, h3⟩
    · cases h
      exact lv_ldc hx hb hown (hts _ hw) hd (K ls _ H locs hl ⟨_, _, rfl, ⟨_, rfl, zn_i hz⟩, hs⟩ hH hS)
    · cases h
    · cases h
      have hr := hC.2.2.2.2.2.2.2.2.1 (cn - 10) (by omega)
      rw [← h3] at hr
      subst ho
      refine va_ldcS hx hb hown hr hd (K ls _ H locs hl ⟨_, _, rfl, ?_, hs⟩ hH hS)
      show _ = zcv k cn
      unfold zcv
      rw [if_neg (by omega), if_neg (by omega), if_pos (by omega)]
theorem z_ldcw (hx : p.tables.exec = Jvm.exec) (hb : c.code = cc) (hts : ∀ w ∈ zTbl, w.before args s = true) {o idx : Nat} (hown : s.vm.findClass (zCN o) = some m.cls) (hd : decode cc pc = .ok (.ldc_w idx, 3))
    (h : (match mLd2 (mLdcOf o idx) with | some v => mNx (pc + 3) mls (v :: mst) g μ | none => none) = some (.inl c')) (hl : zl k mls ls) (hs : zs k mst st) (hH : zH D k g μ H) (hS : va_S (zA k) s.heap H locs) (K : zKt D k p l e R s m args below meth c Q cells slots c') : W p l e R s m args below meth c H locs cells slots Q (F0 m pc ls st) := by
  cases hf : mLdcOf o idx with
  | none => rw [hf] at h; cases h
  | some v =>
    rw [hf] at h
    rcases zLdcOf hf with ⟨z, rfl, hw, hz⟩ | ⟨z, rfl, hw, hz⟩ | ⟨cn, rfl, ho, h1, h2, h3⟩
    · cases h
      exact lv_ldcw hx hb hown (hts _ hw) hd (K ls _ H locs hl ⟨_, _, rfl, ⟨_, rfl, zn_i hz⟩, hs⟩ hH hS)
    · cases h
    · cases h
theorem z_ldc2 (hx : p.tables.exec = Jvm.exec) (hb : c.code = cc) (hts : ∀ w ∈ zTbl, w.before args s = true) {o idx : Nat} (hown : s.vm.findClass (zCN o) = some m.cls) (hd : decode cc pc = .ok (.ldc2_w idx, 3))
    (h : (match mLd3 (mLdcOf o idx) with | some v => mNx (pc + 3) mls (v :: mst) g μ | none => none) = some (.inl c')) (hl : zl k mls ls) (hs : zs k mst st) (hH : zH D k g μ H) (hS : va_S (zA k) s.heap H locs) (K : zKt D k p l e R s m args below meth c Q cells slots c') : W p l e R s m args below meth c H locs cells slots Q (F0 m pc ls st) := by
  cases hf : mLdcOf o idx with
  | none => rw [hf] at h; cases h
  | some v =>
    rw [hf] at h
    rcases zLdcOf hf with ⟨z, rfl, hw, hz⟩ | ⟨z, rfl, hw, hz⟩ | ⟨cn, rfl, ho, h1, h2, h3⟩
    · cases h
    · cases h
      exact lv_ldc2 hx hb hown (hts _ hw) hd (K ls _ H locs hl ⟨_, _, rfl, ⟨_, rfl, zn_i64 hz⟩, hs⟩ hH hS)
    · cases h
theorem zMthOf {o i y' n w : Nat} (h : mMthOf o i = some (y', n, w)) : ∃ e ∈ mMthL, e.1 = o ∧ e.2.1 = i ∧ e.2.2.1 = y' ∧ e.2.2.2.1 = n ∧ e.2.2.2.2.1 = w := by
  unfold mMthOf at h
  cases hf : mMthL.find? (fun e => e.1 == o && e.2.1 == i) with
  | none => rw [hf] at h; cases h
  | some e =>
    rw [hf] at h
    have h1 := List.find?_some hf
    have h2 := List.mem_of_find?_eq_some hf
    simp only [Bool.and_eq_true, beq_iff_eq] at h1
    cases h
    exact ⟨e, h2, h1.1, h1.2, rfl, rfl, rfl⟩
/-- a link's word: by the tables, or among nest mates -/
theorem zLkW {o i y' n w : Nat} (h : mMthOf o i = some (y', n, w)) : (zNst o i = false ∧ Cond.methodLink (zCN o) i (if y' = 1000 then arraycopyName else if y' = 1001 then Lib.objectInit else mName y') ∈ zTbl) ∨ (zNst o i = true ∧ (zCN o, i, (if y' = 1000 then arraycopyName else if y' = 1001 then Lib.objectInit else mName y')) ∈ zNM) := by
  obtain ⟨e, he, rfl, rfl, rfl, rfl, rfl⟩ := zMthOf h
  by_cases hn : zNst e.1 e.2.1 = true
  · refine Or.inr ⟨hn, ?_⟩
    have key : ∀ e ∈ mMthL, zNst e.1 e.2.1 = true → (zCN e.1, e.2.1, (if e.2.2.1 = 1000 then arraycopyName else if e.2.2.1 = 1001 then Lib.objectInit else mName e.2.2.1)) ∈ zNM := by decide +kernel
    exact key e he hn
  · have h1 := List.all_eq_true.mp zLk_ok e he
    have hn' : zNst e.1 e.2.1 = false := by simpa using hn
    simp only [Bool.and_eq_true, Bool.or_eq_true, decide_eq_true_eq, hn', Bool.false_eq_true, false_or] at h1
    have h2 := zTbl_of h1.1 h1.2
    unfold zLk zAcp at h2
    rw [if_neg hn] at h2
    exact Or.inl ⟨hn', h2⟩
theorem z_copy (hx : p.tables.exec = Jvm.exec) (hb : c.code = cc) (hts : ∀ w ∈ zTbl, w.before args s = true) {o idx n9 w9 : Nat} (hown : s.vm.findClass (zCN o) = some m.cls) (hm : mMthOf o idx = some (1000, n9, w9)) (hK : va_K D vwCl (zTys k) s) (hC : zC E k s s.heap) (hml : c.maxLocals = mls.length) (hfr : 1 ≤ R.frames) (hlo : 60 ≤ R.locals) (hd : decode cc pc = .ok (.invokestatic idx, 3))
    (h : s_copy mls (pc + 3) mst g μ = some (.inl c')) (hl : zl k mls ls) (hs : zs k mst st) (hH : zH D k g μ H) (hS : va_S (zA k) s.heap H locs) (K : zKt D k p l e R s m args below meth c Q cells slots c') : W p l e R s m args below meth c H locs cells slots Q (F0 m pc ls st) := by
  have hlk : (Cond.methodLink (zCN o) idx arraycopyName).before args s = true := by
    rcases zLkW hm with ⟨-, h1⟩ | ⟨h1, h2⟩
    · exact hts _ h1
    · exfalso
      have key : ∀ q ∈ zNM, q.2.2 ≠ arraycopyName := by decide +kernel
      exact key _ h2 rfl
  have nz : ∀ {x : Int32}, 0 ≤ x.toInt → ¬ x < 0 := fun h0 z => by have := zn_lt.mp z; have h1 : (0 : Int32).toInt = 0 := rfl; omega
  have hw : nativeFrameWords "java/lang/System" "arraycopy" 5 + 11 ≤ 52 := by decide +kernel
  unfold s_copy at h
  split at h
  · rename_i n dp a sp a0 st0
    split at h
    · rename_i h1
      cases h
      obtain ⟨_, _, rfl, ⟨xn, rfl, rfl⟩, _, _, rfl, ⟨xd, rfl, rfl⟩, _, _, rfl, hva, _, _, rfl, ⟨xs, rfl, rfl⟩, _, st', rfl, hv0, h3⟩ := hs
      cases hva; cases hv0
      obtain ⟨q1, q2, q3, q4, q5, q6, q7, q8⟩ := h1
      have ha := (zKd_look hH.2.2 q1 (by omega)).1
      have ha0 := (zKd_look hH.2.2 q2 (by omega)).1
      have hat := zWs_at (k := k) (μ := μ) ha
      rw [zEnt_arr q1 (by omega) (by omega)] at hat
      have ha0t := zWs_at (k := k) (μ := μ) ha0
      rw [zEnt_arr q2 (by omega) (by omega)] at ha0t
      have hcat := zs_cat h3 q8
      refine va_copyi hx hb (hml.trans hl.1.symm) hown hlk (hts _ zAc1) (hts _ zAc2) (hts _ zAc3) hK hH.1 zWs_D hS a0 a 0 0 ha0t hat rfl rfl rfl (nz q3) (nz q4) (nz q5) (by show xs.toInt.toNat + xn.toInt.toNat ≤ _; omega) (by show xd.toInt.toNat + xn.toInt.toNat ≤ _; omega) (fun _ _ => rfl) hfr (by omega) hd (fun H1 locs1 hP1 _ hS1 => K ls st' H1 locs1 hl h3 ⟨?_, fun b j => ?_, hH.2.2⟩ hS1)
      · have e2 : ∀ b, b ≠ a → zEnt k g (mCpy μ a0 xs.toInt.toNat a xd.toInt.toNat xn.toInt.toNat) b = zEnt k g μ b := by
          intro b hb
          have : mCpy μ a0 xs.toInt.toNat a xd.toInt.toNat xn.toInt.toNat b = μ b := by funext j; unfold mCpy; rw [if_neg (fun z => hb z.1)]
          unfold zEnt zFld
          rw [this]
        have e3 := zWs_set (k := k) (g := g) (g' := g) (μ := μ) (μ' := mCpy μ a0 xs.toInt.toNat a xd.toInt.toNat xn.toInt.toNat) ha rfl e2
        rw [zEnt_arr q1 (by omega) (by omega)] at e3
        rw [← e3]
        have e4 : (fun j => Int32.ofInt (mCpy μ a0 xs.toInt.toNat a xd.toInt.toNat xn.toInt.toNat a j)) = va_cpy (fun j => Int32.ofInt (μ a0 j)) (fun j => Int32.ofInt (μ a j)) xs.toNatClampNeg xd.toNatClampNeg xn.toNatClampNeg := by
          funext j
          unfold mCpy va_cpy
          show Int32.ofInt (if a = a ∧ xd.toInt.toNat ≤ j ∧ j < xd.toInt.toNat + xn.toInt.toNat then _ else _) = if xd.toInt.toNat ≤ j ∧ j < xd.toInt.toNat + xn.toInt.toNat then _ else _
          by_cases hj : xd.toInt.toNat ≤ j ∧ j < xd.toInt.toNat + xn.toInt.toNat
          · rw [if_pos ⟨rfl, hj⟩, if_pos hj]; rfl
          · rw [if_neg (fun z => hj z.2), if_neg hj]
        rw [e4]
        exact hP1
      · show -2147483648 ≤ mCpy μ a0 xs.toInt.toNat a xd.toInt.toNat xn.toInt.toNat b j ∧ mCpy μ a0 xs.toInt.toNat a xd.toInt.toNat xn.toInt.toNat b j < 2147483648
        unfold mCpy
        split
        · exact hH.2.1 _ _
        · exact hH.2.1 _ _
    · cases h
  · rename_i n dp a sp cn st0
    split at h
    · rename_i h1
      cases h
      obtain ⟨_, _, rfl, ⟨xn, rfl, rfl⟩, _, _, rfl, ⟨xd, rfl, rfl⟩, _, _, rfl, hva, _, _, rfl, ⟨xs, rfl, rfl⟩, w0, st', rfl, hv0, h3⟩ := hs
      cases hva
      obtain ⟨q1, q2, q3, q4, q5, q6, q7, q8⟩ := h1
      subst q2
      have hv0 : w0 = zcv k 2 := hv0
      have e1 : zcv k 2 = .ref (k.2.2.1 2) := rfl
      rw [hv0, e1]
      have ha := (zKd_look hH.2.2 q1 (by omega)).1
      have hat := zWs_at (k := k) (μ := μ) ha
      rw [zEnt_arr q1 (by omega) (by omega)] at hat
      obtain ⟨hX, hX2, hX3⟩ := hC.2.2.2.2.1 2 (by omega) (by omega)
      have hcat := zs_cat h3 q8
      refine va_copyx hx hb (hml.trans hl.1.symm) hown hlk (hts _ zAc1) (hts _ zAc2) (hts _ zAc3) hK hH.1 zWs_D hS hX hX2 (Nat.not_le.mpr hX3) a 0 hat rfl (nz (by omega)) (nz (by omega)) (nz q5) (by show xs.toInt.toNat + xn.toInt.toNat ≤ 5; omega) (by show xd.toInt.toNat + xn.toInt.toNat ≤ _; omega) hfr (by omega) hd (fun H1 locs1 hP1 _ hS1 => K ls st' H1 locs1 hl h3 ⟨?_, fun b j => ?_, hH.2.2⟩ hS1)
      · have e2 : ∀ b, b ≠ a → zEnt k g (mCpc μ (fun i => ([15, 5, 10, 3, 5] : List Int).getD i 0) a xn.toInt.toNat) b = zEnt k g μ b := by
          intro b hb
          have : mCpc μ (fun i => ([15, 5, 10, 3, 5] : List Int).getD i 0) a xn.toInt.toNat b = μ b := by funext j; unfold mCpc; rw [if_neg (fun z => hb z.1)]
          unfold zEnt zFld
          rw [this]
        have e3 := zWs_set (k := k) (g := g) (g' := g) (μ := μ) (μ' := mCpc μ (fun i => ([15, 5, 10, 3, 5] : List Int).getD i 0) a xn.toInt.toNat) ha rfl e2
        rw [zEnt_arr q1 (by omega) (by omega)] at e3
        rw [← e3]
        have e4 : (fun j => Int32.ofInt (mCpc μ (fun i => ([15, 5, 10, 3, 5] : List Int).getD i 0) a xn.toInt.toNat a j)) = va_cpy (fun j => Int32.ofInt (mk_int E 2 j)) (fun j => Int32.ofInt (μ a j)) xs.toNatClampNeg xd.toNatClampNeg xn.toNatClampNeg := by
          funext j
          unfold mCpc va_cpy
          show Int32.ofInt (if a = a ∧ j < xn.toInt.toNat then _ else _) = if xd.toInt.toNat ≤ j ∧ j < xd.toInt.toNat + xn.toInt.toNat then Int32.ofInt (mk_int E 2 (xs.toInt.toNat + (j - xd.toInt.toNat))) else _
          have z0 : xd.toInt.toNat = 0 := by omega
          have z1 : xs.toInt.toNat = 0 := by omega
          rw [z0, z1]
          by_cases hj : j < xn.toInt.toNat
          · rw [if_pos ⟨rfl, hj⟩, if_pos ⟨Nat.zero_le _, by rw [Nat.zero_add]; exact hj⟩]
            simp [mk_int]
          · rw [if_neg (fun z => hj z.2), if_neg (fun z => hj (by have := z.2; rw [Nat.zero_add] at this; exact this))]
        rw [e4]
        exact hP1
      · show -2147483648 ≤ mCpc μ (fun i => ([15, 5, 10, 3, 5] : List Int).getD i 0) a xn.toInt.toNat b j ∧ mCpc μ (fun i => ([15, 5, 10, 3, 5] : List Int).getD i 0) a xn.toInt.toNat b j < 2147483648
        unfold mCpc
        split
        · have key : ∀ l : List Int, (∀ x ∈ l, -2147483648 ≤ x ∧ x < 2147483648) → -2147483648 ≤ l.getD j 0 ∧ l.getD j 0 < 2147483648 := by
            intro l hl
            rw [List.getD_eq_getElem?_getD]
            cases h : l[j]? with
            | none => decide
            | some x => exact hl x (List.mem_of_getElem? h)
          exact key _ (by decide)
        · exact hH.2.1 _ _
    · cases h
  · cases h
theorem z_oin (hx : p.tables.exec = Jvm.exec) (hb : c.code = cc) (hts : ∀ w ∈ zTbl, w.before args s = true) {o idx n9 w9 : Nat} (hown : s.vm.findClass (zCN o) = some m.cls) (hm : mMthOf o idx = some (1001, n9, w9)) (hml : c.maxLocals = mls.length) (hfr : 1 ≤ R.frames) (hlo : 60 ≤ R.locals) (hd : decode cc pc = .ok (.invokespecial idx, 3))
    (h : s_oin mls (pc + 3) mst g μ = some (.inl c')) (hl : zl k mls ls) (hs : zs k mst st) (hH : zH D k g μ H) (hS : va_S (zA k) s.heap H locs) (K : zKt D k p l e R s m args below meth c Q cells slots c') : W p l e R s m args below meth c H locs cells slots Q (F0 m pc ls st) := by
  have hlk : (Cond.methodLink (zCN o) idx Lib.objectInit).before args s = true := by
    rcases zLkW hm with ⟨-, h1⟩ | ⟨h1, h2⟩
    · exact hts _ h1
    · exfalso
      have key : ∀ q ∈ zNM, q.2.2 ≠ Lib.objectInit := by decide +kernel
      exact key _ h2 rfl
  unfold s_oin at h
  split at h
  · split at h
    · rename_i h1
      cases h
      obtain ⟨_, st', rfl, hv, h3⟩ := hs
      cases hv
      have hcat := zs_cat h3 h1
      exact W.objInit hx hb hown hlk (hts _ zOi1) (hts _ zOi2) rfl (hl.1.trans hml.symm) rfl hd hfr (by show 2 * 0 + _ + 12 ≤ _; omega) (K ls st' H locs hl h3 hH hS)
    · cases h
  · cases h
end ZL
