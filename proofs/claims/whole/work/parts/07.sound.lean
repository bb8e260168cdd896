section ZH
variable {D : va_G} {k : ZK} {E : ME} {p : Program} {l : Launch} {e : Env} {R : Room} {s : State} {m : MethodId} {args : Array Value} {below : List Frame} {meth : Method} {c : Code} {H : Heap} {locs : List Loc} {cells slots : Nat} {Q : State → Prop}
variable {cc : ByteArray} {y pc q len : Nat} {mls : MLs} {mst : List MV} {g : MG} {μ : MU} {ls : Array Slot} {st : List Value} {c' : MCfg}
theorem zC_txt (hC : zC E k s s.heap) {c : Nat} (h : mk_isB c = true) : zcv k c = .ref (k.2.2.2.2.1 (c - 20)) ∧ c - 20 < 6 ∧ mk_len E c = (mk_txt (c - 20)).length := by
  simp only [mk_isB, Bool.and_eq_true, decide_eq_true_eq] at h
  refine ⟨?_, by omega, ?_⟩
  · unfold zcv
    rw [if_neg (by omega), if_neg (by omega), if_neg (by omega), if_pos (by omega)]
  · unfold mk_len
    rw [if_neg (by omega), if_neg (by omega)]
theorem zC_int (hC : zC E k s s.heap) {c : Nat} (h : mk_isI c = true) : zcv k c = .ref (k.2.2.1 c) ∧ 2 ≤ c ∧ c < 6 := by
  have : 2 ≤ c ∧ c < 6 := by
    simp only [mk_isI, Bool.or_eq_true, beq_iff_eq] at h
    omega
  refine ⟨?_, this⟩
  unfold zcv
  rw [if_neg (by omega), if_pos this]
theorem zE_rg (hE : E.1 < 2147483648 ∧ ∀ j, -2147483648 ≤ E.2 j ∧ E.2 j < 2147483648) {c : Nat} (h2 : 2 ≤ c) (h6 : c < 6) (j : Nat) : -2147483648 ≤ mk_int E c j ∧ mk_int E c j < 2147483648 := by
  have key : ∀ l : List Int, (∀ x ∈ l, -2147483648 ≤ x ∧ x < 2147483648) → -2147483648 ≤ l.getD j 0 ∧ l.getD j 0 < 2147483648 := by
    intro l hl
    rw [List.getD_eq_getElem?_getD]
    cases h : l[j]? with
    | none => decide
    | some x => exact hl x (List.mem_of_getElem? h)
  unfold mk_int
  split
  · exact key _ (by decide)
  · split
    · exact key _ (by decide)
    · split
      · exact key _ (by decide)
      · exact hE.2 j
theorem mk_len_lt (hE : E.1 < 2147483648) (c : Nat) (h : mk_isI c = true ∨ mk_isB c = true) : mk_len E c < 2147483648 := by
  unfold mk_len
  split
  · exact hE
  · split
    · decide
    · rcases h with h | h
      · simp only [mk_isI, Bool.or_eq_true, beq_iff_eq] at h; omega
      · simp only [mk_isB, Bool.and_eq_true, decide_eq_true_eq] at h
        have : c - 20 < 6 := by omega
        have k2 : ∀ d, d < 6 → (mk_txt d).length < 2147483648 := by decide
        exact k2 _ this
theorem z_alen (hx : p.tables.exec = Jvm.exec) (hb : c.code = cc) (hK : va_K D vwCl (zTys k) s) (hC : zC E k s s.heap) (hE : E.1 < 2147483648 ∧ ∀ j, -2147483648 ≤ E.2 j ∧ E.2 j < 2147483648) (hd : decode cc pc = .ok (.arraylength, 1))
    (h : s_alen E mls (pc + 1) mst g μ = some (.inl c')) (hl : zl k mls ls) (hs : zs k mst st) (hH : zH D k g μ H) (hS : va_S (zA k) s.heap H locs) (K : zKt D k p l e R s m args below meth c Q cells slots c') : W p l e R s m args below meth c H locs cells slots Q (F0 m pc ls st) := by
  unfold s_alen at h
  split at h
  · rename_i a st0
    split at h
    · rename_i h1
      cases h
      obtain ⟨_, st', rfl, hw, h3⟩ := hs
      cases hw
      obtain ⟨ha, hlen⟩ := zKd_look hH.2.2 rfl (show (mKd g a).1 < 15 from h1.2)
      have hv : zv k (.inl ((mKd g a).2 : Int)) (.int (nI (mKd g a).2)) := ⟨_, rfl, nI_toInt (by omega)⟩
      have K' := K ls _ H locs hl ⟨_, _, rfl, hv, h3⟩ hH hS
      have hat := zWs_at (k := k) (μ := μ) ha
      rcases Nat.lt_or_ge (mKd g a).1 13 with h13 | h13
      · rw [zEnt_arr rfl (by omega) h13] at hat
        have ht : (zTys k)[(mKd g a).1 - 10]? = some (k.2.1 (mKd g a).1, if (mKd g a).1 = 10 then .int else if (mKd g a).1 = 11 then .char else .boolean) := by
          obtain ⟨t, e⟩ : ∃ t, t = (mKd g a).1 := ⟨_, rfl⟩
          rw [← e] at h1 h13 ⊢
          match t, h1.1, h13 with
          | 10, _, _ => rfl
          | 11, _, _ => rfl
          | 12, _, _ => rfl
        exact va_alen hx hb hK hH.1 a _ hat ht rfl hd K'
      · rw [zEnt_ref rfl h13] at hat
        have ht : (zTys k)[(mKd g a).1 - 10]? = some (k.2.1 (mKd g a).1, if (mKd g a).1 = 13 then .object RX0 else .object RX4) := by
          obtain ⟨t, e⟩ : ∃ t, t = (mKd g a).1 := ⟨_, rfl⟩
          rw [← e] at h1 h13 ⊢
          match t, h1.2, h13 with
          | 13, _, _ => rfl
          | 14, _, _ => rfl
        exact va_alen hx hb hK hH.1 a _ hat ht rfl hd K'
    · cases h
  · rename_i cn st0
    split at h
    · rename_i h1
      cases h
      obtain ⟨w, st', rfl, hw, h3⟩ := hs
      have hw : w = zcv k cn := hw
      have hlen := mk_len_lt hE.1 cn h1
      have hv : zv k (.inl (mk_len E cn : Int)) (.int (nI (mk_len E cn))) := ⟨_, rfl, nI_toInt (by omega)⟩
      have K' := K ls _ H locs hl ⟨_, _, rfl, hv, h3⟩ hH hS
      rcases h1 with h1 | h1
      · obtain ⟨e1, e2, e3⟩ := zC_int hC h1
        rw [hw, e1]
        obtain ⟨q1, q2, q3⟩ := hC.2.2.2.2.1 cn e2 e3
        exact va_slen hx hb q1 q2 (Nat.not_le.mpr q3) hS hd K'
      · obtain ⟨e1, e2, e3⟩ := zC_txt hC h1
        rw [hw, e1]
        have hT := (hC.2.2.2.2.2.2.2.1.1 _ e2).2.2.2
        rw [(zTxt_ok _ e2).1, ← e3] at hT
        exact va_tlen hx hb hT hS rfl hd K'
    · cases h
  · cases h
theorem z_iald (hx : p.tables.exec = Jvm.exec) (hb : c.code = cc) (hK : va_K D vwCl (zTys k) s) (hC : zC E k s s.heap) (hE : E.1 < 2147483648 ∧ ∀ j, -2147483648 ≤ E.2 j ∧ E.2 j < 2147483648) (hd : decode cc pc = .ok (.iaload, 1))
    (h : s_ald 10 E mls (pc + 1) mst g μ = some (.inl c')) (hl : zl k mls ls) (hs : zs k mst st) (hH : zH D k g μ H) (hS : va_S (zA k) s.heap H locs) (K : zKt D k p l e R s m args below meth c Q cells slots c') : W p l e R s m args below meth c H locs cells slots Q (F0 m pc ls st) := by
  unfold s_ald at h
  split at h
  · rename_i i a st0
    split at h
    · rename_i h1
      cases h
      obtain ⟨_, _, rfl, ⟨x, rfl, rfl⟩, _, st', rfl, hw, h3⟩ := hs
      cases hw
      have ha := (zKd_look hH.2.2 h1.1 (by omega)).1
      have hat := zWs_at (k := k) (μ := μ) ha
      rw [zEnt_arr h1.1 (by omega) (by omega)] at hat
      exact va_iald hx hb hK hH.1 a 0 hat rfl (zn_in h1.2.1 h1.2.2) hd (K ls _ H locs hl ⟨_, _, rfl, ⟨_, rfl, zn_i (hH.2.1 _ _)⟩, h3⟩ hH hS)
    · cases h
  · rename_i i cn st0
    split at h
    · rename_i h1
      split at h
      · rename_i h2
        cases h
        obtain ⟨_, _, rfl, ⟨x, rfl, rfl⟩, w, st', rfl, hw, h3⟩ := hs
        have hw : w = zcv k cn := hw
        obtain ⟨e1, e2, e3⟩ := zC_int hC h2.2
        rw [hw, e1]
        obtain ⟨q1, q2, q3⟩ := hC.2.2.2.2.1 cn e2 e3
        exact va_sld hx hb q1 q2 (Nat.not_le.mpr q3) hS (zn_in h1.1 h1.2) hd (K ls _ H locs hl ⟨_, _, rfl, ⟨_, rfl, zn_i (zE_rg hE e2 e3 _)⟩, h3⟩ hH hS)
      · rw [if_neg (fun z => by cases z.1)] at h; cases h
    · cases h
  · cases h
theorem z_cald (hx : p.tables.exec = Jvm.exec) (hb : c.code = cc) (hK : va_K D vwCl (zTys k) s) (hd : decode cc pc = .ok (.caload, 1))
    (h : s_ald 11 E mls (pc + 1) mst g μ = some (.inl c')) (hl : zl k mls ls) (hs : zs k mst st) (hH : zH D k g μ H) (hS : va_S (zA k) s.heap H locs) (K : zKt D k p l e R s m args below meth c Q cells slots c') : W p l e R s m args below meth c H locs cells slots Q (F0 m pc ls st) := by
  unfold s_ald at h
  split at h
  · rename_i i a st0
    split at h
    · rename_i h1
      cases h
      obtain ⟨_, _, rfl, ⟨x, rfl, rfl⟩, _, st', rfl, hw, h3⟩ := hs
      cases hw
      have ha := (zKd_look hH.2.2 h1.1 (by omega)).1
      have hat := zWs_at (k := k) (μ := μ) ha
      rw [zEnt_arr h1.1 (by omega) (by omega)] at hat
      exact va_cald hx hb hK hH.1 a 1 hat rfl (zn_in h1.2.1 h1.2.2) hd (K ls _ H locs hl ⟨_, _, rfl, ⟨_, rfl, zn_i (hH.2.1 _ _)⟩, h3⟩ hH hS)
    · cases h
  · split at h
    · rw [if_neg (fun z => by cases z.1), if_neg (fun z => by cases z.1)] at h; cases h
    · cases h
  · cases h
theorem z_bald (hx : p.tables.exec = Jvm.exec) (hb : c.code = cc) (hK : va_K D vwCl (zTys k) s) (hC : zC E k s s.heap) (hd : decode cc pc = .ok (.baload, 1))
    (h : s_ald 12 E mls (pc + 1) mst g μ = some (.inl c')) (hl : zl k mls ls) (hs : zs k mst st) (hH : zH D k g μ H) (hS : va_S (zA k) s.heap H locs) (K : zKt D k p l e R s m args below meth c Q cells slots c') : W p l e R s m args below meth c H locs cells slots Q (F0 m pc ls st) := by
  unfold s_ald at h
  split at h
  · rename_i i a st0
    split at h
    · rename_i h1
      cases h
      obtain ⟨_, _, rfl, ⟨x, rfl, rfl⟩, _, st', rfl, hw, h3⟩ := hs
      cases hw
      have ha := (zKd_look hH.2.2 h1.1 (by omega)).1
      have hat := zWs_at (k := k) (μ := μ) ha
      rw [zEnt_arr h1.1 (by omega) (by omega)] at hat
      exact va_zald hx hb hK hH.1 a 2 hat rfl (zn_in h1.2.1 h1.2.2) hd (K ls _ H locs hl ⟨_, _, rfl, ⟨_, rfl, zn_i (hH.2.1 _ _)⟩, h3⟩ hH hS)
    · cases h
  · rename_i i cn st0
    split at h
    · rename_i h1
      rw [if_neg (fun z => by cases z.1)] at h
      split at h
      · rename_i h2
        cases h
        obtain ⟨_, _, rfl, ⟨x, rfl, rfl⟩, w, st', rfl, hw, h3⟩ := hs
        have hw : w = zcv k cn := hw
        obtain ⟨e1, e2, e3⟩ := zC_txt hC h2.2
        rw [hw, e1]
        have hT := (hC.2.2.2.2.2.2.2.1.1 _ e2).2.2.2
        have hlt : x.toInt.toNat < zLen.getD (cn - 20) 0 := by rw [(zTxt_ok _ e2).1, ← e3]; omega
        exact va_tb hx hb hT hS (zn_in h1.1 (by rw [(zTxt_ok _ e2).1, ← e3]; exact h1.2)) rfl hd (K ls _ H locs hl ⟨_, _, rfl, ⟨_, rfl, (zTxt_ok _ e2).2 _ hlt⟩, h3⟩ hH hS)
      · cases h
    · cases h
  · cases h
theorem z_iast (hx : p.tables.exec = Jvm.exec) (hb : c.code = cc) (hK : va_K D vwCl (zTys k) s) (hd : decode cc pc = .ok (.iastore, 1))
    (h : s_ast 10 0 mls (pc + 1) mst g μ = some (.inl c')) (hl : zl k mls ls) (hs : zs k mst st) (hH : zH D k g μ H) (hS : va_S (zA k) s.heap H locs) (K : zKt D k p l e R s m args below meth c Q cells slots c') : W p l e R s m args below meth c H locs cells slots Q (F0 m pc ls st) := by
  unfold s_ast at h
  split at h
  · rename_i v i a st0
    split at h
    · rename_i h1
      cases h
      obtain ⟨_, _, rfl, ⟨x, rfl, rfl⟩, _, _, rfl, ⟨j, rfl, rfl⟩, _, st', rfl, hw, h3⟩ := hs
      cases hw
      have ha := (zKd_look hH.2.2 h1.1 (by omega)).1
      have hat := zWs_at (k := k) (μ := μ) ha
      rw [zEnt_arr h1.1 (by omega) (by omega)] at hat
      refine va_iast hx hb hK hH.1 zWs_D hS a 0 hat rfl (zn_in h1.2.1 h1.2.2.1) hd (fun H1 locs1 hP1 _ hS1 => K ls st' H1 locs1 hl h3 (zH_up hH ha (zn_rng x) ?_ hP1) hS1)
      rw [zEnt_arr h1.1 (by omega) (by omega), zRow_up, zn_of]
      rfl
    · cases h
  · cases h
theorem z_nar {t : Nat} {ty : FieldType} {x : Int32} (h : mOk t x.toInt = true) (ht : (t = 0 ∧ ty = .int) ∨ (t = 1 ∧ ty = .char) ∨ (t = 2 ∧ ty = .boolean)) : narrow ty (.int x) = .int x ∧ fits ty (.int x) = true := by
  rcases ht with ⟨rfl, rfl⟩ | ⟨rfl, rfl⟩ | ⟨rfl, rfl⟩
  · exact ⟨rfl, rfl⟩
  · simp only [mOk] at h
    have h2 : 0 ≤ x.toInt ∧ x.toInt < 65536 := by simpa using h
    have e : x = nI x.toInt.toNat := Int32.toInt_inj.mp (by rw [nI_toInt (by omega)]; omega)
    rw [e]
    exact pk_charN (by omega)
  · simp only [mOk] at h
    have h2 : x.toInt = 0 ∨ x.toInt = 1 := by simpa using h
    rcases h2 with h2 | h2
    · have e : x = 0 := Int32.toInt_inj.mp h2
      subst e; exact ⟨rfl, rfl⟩
    · have e : x = 1 := Int32.toInt_inj.mp h2
      subst e; exact ⟨rfl, rfl⟩
theorem z_cast (hx : p.tables.exec = Jvm.exec) (hb : c.code = cc) (hK : va_K D vwCl (zTys k) s) (hd : decode cc pc = .ok (.castore, 1))
    (h : s_ast 11 1 mls (pc + 1) mst g μ = some (.inl c')) (hl : zl k mls ls) (hs : zs k mst st) (hH : zH D k g μ H) (hS : va_S (zA k) s.heap H locs) (K : zKt D k p l e R s m args below meth c Q cells slots c') : W p l e R s m args below meth c H locs cells slots Q (F0 m pc ls st) := by
  unfold s_ast at h
  split at h
  · rename_i v i a st0
    split at h
    · rename_i h1
      cases h
      obtain ⟨_, _, rfl, ⟨x, rfl, rfl⟩, _, _, rfl, ⟨j, rfl, rfl⟩, _, st', rfl, hw, h3⟩ := hs
      cases hw
      have ha := (zKd_look hH.2.2 h1.1 (by omega)).1
      have hat := zWs_at (k := k) (μ := μ) ha
      rw [zEnt_arr h1.1 (by omega) (by omega)] at hat
      refine va_cast hx hb hK hH.1 zWs_D hS a 1 hat rfl (zn_in h1.2.1 h1.2.2.1) hd (fun H1 locs1 hP1 _ hS1 => K ls st' H1 locs1 hl h3 (zH_up hH ha (zn_rng x) ?_ hP1) hS1)
      have e : vp_nar .char x = x := by unfold vp_nar; rw [(z_nar h1.2.2.2 (Or.inr (Or.inl ⟨rfl, rfl⟩))).1]
      rw [zEnt_arr h1.1 (by omega) (by omega), zRow_up, zn_of, e]
      rfl
    · cases h
  · cases h
theorem z_bast (hx : p.tables.exec = Jvm.exec) (hb : c.code = cc) (hK : va_K D vwCl (zTys k) s) (hd : decode cc pc = .ok (.bastore, 1))
    (h : s_ast 12 2 mls (pc + 1) mst g μ = some (.inl c')) (hl : zl k mls ls) (hs : zs k mst st) (hH : zH D k g μ H) (hS : va_S (zA k) s.heap H locs) (K : zKt D k p l e R s m args below meth c Q cells slots c') : W p l e R s m args below meth c H locs cells slots Q (F0 m pc ls st) := by
  unfold s_ast at h
  split at h
  · rename_i v i a st0
    split at h
    · rename_i h1
      cases h
      obtain ⟨_, _, rfl, ⟨x, rfl, rfl⟩, _, _, rfl, ⟨j, rfl, rfl⟩, _, st', rfl, hw, h3⟩ := hs
      cases hw
      have ha := (zKd_look hH.2.2 h1.1 (by omega)).1
      have hat := zWs_at (k := k) (μ := μ) ha
      rw [zEnt_arr h1.1 (by omega) (by omega)] at hat
      refine va_zast hx hb hK hH.1 zWs_D hS a 2 hat rfl (zn_in h1.2.1 h1.2.2.1) hd (fun H1 locs1 hP1 _ hS1 => K ls st' H1 locs1 hl h3 (zH_up hH ha (zn_rng x) ?_ hP1) hS1)
      have e : vp_nar .boolean x = x := by unfold vp_nar; rw [(z_nar h1.2.2.2 (Or.inr (Or.inr ⟨rfl, rfl⟩))).1]
      rw [zEnt_arr h1.1 (by omega) (by omega), zRow_up, zn_of, e]
      rfl
    · cases h
  · cases h
theorem z_aald (hx : p.tables.exec = Jvm.exec) (hb : c.code = cc) (hK : va_K D vwCl (zTys k) s) (hd : decode cc pc = .ok (.aaload, 1))
    (h : s_aald mls (pc + 1) mst g μ = some (.inl c')) (hl : zl k mls ls) (hs : zs k mst st) (hH : zH D k g μ H) (hS : va_S (zA k) s.heap H locs) (K : zKt D k p l e R s m args below meth c Q cells slots c') : W p l e R s m args below meth c H locs cells slots Q (F0 m pc ls st) := by
  unfold s_aald at h
  split at h
  · rename_i i a st0
    split at h
    · rename_i h1
      cases h
      obtain ⟨_, _, rfl, ⟨x, rfl, rfl⟩, _, st', rfl, hw, h3⟩ := hs
      cases hw
      have K' := K ls _ H locs hl ⟨_, _, rfl, zRv, h3⟩ hH hS
      rcases h1.1 with h2 | h2
      · have ha := (zKd_look hH.2.2 h2 (by omega)).1
        have hat := zWs_at (k := k) (μ := μ) ha
        rw [zEnt_ref h2 (by omega)] at hat
        exact va_aldq hx hb hK hH.1 a 3 hat rfl (zn_in h1.2.1 h1.2.2) hd K'
      · have ha := (zKd_look hH.2.2 h2 (by omega)).1
        have hat := zWs_at (k := k) (μ := μ) ha
        rw [zEnt_ref h2 (by omega)] at hat
        exact va_aldq hx hb hK hH.1 a 4 hat rfl (zn_in h1.2.1 h1.2.2) hd K'
    · cases h
  · cases h
theorem zEnt_rf {a j : Nat} {v : Option Nat} : ∀ b, b ≠ a → zEnt k (mSetR g a j v) μ b = zEnt k g μ b := by
  intro b hb
  have e1 : mKd (mSetR g a j v) b = mKd g b := rfl
  have e2 : ∀ i, mRf (mSetR g a j v) b i = mRf g b i := fun i => by unfold mRf mSetR; simp [hb]
  unfold zEnt zFld
  simp only [e1, e2]
theorem zH_rf {H1 : Heap} {a j : Nat} {v : Option Nat} {e : va_E} (hH : zH D k g μ H) (ha : a < g.1) (he : e = zEnt k (mSetR g a j v) μ a) (hP : va_P D vwCl ((zWs k g μ).set a (k.1 + a, e)) H1) : zH D k (mSetR g a j v) μ H1 := by
  subst he
  rw [zWs_set (g' := mSetR g a j v) (μ' := μ) ha rfl zEnt_rf] at hP
  exact ⟨hP, hH.2.1, hH.2.2⟩
theorem z_aast (hx : p.tables.exec = Jvm.exec) (hb : c.code = cc) (hK : va_K D vwCl (zTys k) s) (hd : decode cc pc = .ok (.aastore, 1))
    (h : s_aast mls (pc + 1) mst g μ = some (.inl c')) (hl : zl k mls ls) (hs : zs k mst st) (hH : zH D k g μ H) (hS : va_S (zA k) s.heap H locs) (K : zKt D k p l e R s m args below meth c Q cells slots c') : W p l e R s m args below meth c H locs cells slots Q (F0 m pc ls st) := by
  unfold s_aast at h
  split at h
  · rename_i b i a st0
    split at h
    · rename_i h1
      cases h
      obtain ⟨_, _, rfl, hw2, _, _, rfl, ⟨x, rfl, rfl⟩, _, st', rfl, hw, h3⟩ := hs
      cases hw; cases hw2
      have key : ∀ t, 13 ≤ t → (mKd g a).1 = t → Sum.inl (k.2.1 t, (mKd g a).2, Sum.inr (Sum.inr (Sum.inr (Sum.inr (va_up (fun j => (mRf g a j).map (fun q => k.1 + q)) x.toNatClampNeg (some (k.1 + b))))))) = zEnt k (mSetR g a x.toInt.toNat (some b)) μ a := by
        intro t ht h2
        rw [zEnt_ref (show (mKd (mSetR g a x.toInt.toNat (some b)) a).1 = t from h2) ht]
        have : (va_up (fun j => (mRf g a j).map (fun q => k.1 + q)) x.toNatClampNeg (some (k.1 + b))) = (fun j => (mRf (mSetR g a x.toInt.toNat (some b)) a j).map (fun q => k.1 + q)) := by
          funext j
          unfold va_up mRf mSetR
          show (if j = x.toInt.toNat then some (k.1 + b) else (g.2.2.2 a j).map (fun q => k.1 + q)) = (if a = a ∧ j = x.toInt.toNat then some b else g.2.2.2 a j).map (fun q => k.1 + q)
          by_cases hj : j = x.toInt.toNat
          · rw [if_pos hj, if_pos ⟨rfl, hj⟩]; rfl
          · rw [if_neg hj, if_neg (fun z => hj z.2)]
        rw [this]
        rfl
      rcases h1.1 with h2 | h2
      · have ha := (zKd_look hH.2.2 h2.1 (by omega)).1
        have hat := zWs_at (k := k) (μ := μ) ha
        rw [zEnt_ref h2.1 (by omega)] at hat
        have hb2 := (zKd_look hH.2.2 h2.2 (by omega)).1
        have hbt := zWs_at (k := k) (μ := μ) hb2
        rw [zEnt_obj h2.2 (by omega)] at hbt
        exact va_astq hx hb hK hH.1 zWs_D hS a 3 b 0 hat (r := (RX0, TX0, 12)) rfl hbt rfl (zn_in h1.2.1 h1.2.2) hd (fun H1 locs1 hP1 _ hS1 => K ls st' H1 locs1 hl h3 (zH_rf hH ha (key 13 (by omega) h2.1) hP1) hS1)
      · have ha := (zKd_look hH.2.2 h2.1 (by omega)).1
        have hat := zWs_at (k := k) (μ := μ) ha
        rw [zEnt_ref h2.1 (by omega)] at hat
        have hb2 := (zKd_look hH.2.2 h2.2 (by omega)).1
        have hbt := zWs_at (k := k) (μ := μ) hb2
        rw [zEnt_obj h2.2 (by omega)] at hbt
        exact va_astq hx hb hK hH.1 zWs_D hS a 4 b 4 hat (r := (RX4, TX4, 9)) rfl hbt rfl (zn_in h1.2.1 h1.2.2) hd (fun H1 locs1 hP1 _ hS1 => K ls st' H1 locs1 hl h3 (zH_rf hH ha (key 14 (by omega) h2.1) hP1) hS1)
    · cases h
  · cases h
end ZH
