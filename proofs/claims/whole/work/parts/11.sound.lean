theorem zlen {len n : Nat} (h : len = n ∨ n = 0) (hn : n ≠ 0) : len = n := h.resolve_right hn
def mNew : Instr → Bool
  | .new _ => true
  | .newarray _ => true
  | .anewarray _ => true
  | _ => false
theorem mStep_same {E : ME} {y pc len : Nat} {i : Instr} {mls : MLs} {mst : List MV} {g : MG} {μ : MU} {c' : MCfg} (h : mStep E y pc i len mls mst g μ = some (.inl c')) (hn : mNew i = false) : c'.2.2.2.1.1 = g.1 ∧ c'.2.2.2.1.2.1 = g.2.1 := by
  unfold mStep at h
  split at h <;> (try simp only [s_ldi, s_ldl, s_lda, s_sti, s_stl, s_sta, s_inc, s_bin, s_div, s_lbin, s_lsh, s_lcmp, s_i2l, s_l2i, s_i2c, s_dup, s_dup2, s_pop, s_if, s_icmp, s_tsw, s_lsw, s_alen, s_ald, s_ast, s_aald, s_aast, s_get, s_put, s_copy, s_oin, s_call, s_iret, s_aret, s_vret, mNx] at h) <;> (repeat' split at h) <;> first | (cases h; done) | (cases h; exact ⟨rfl, rfl⟩) | (cases hn; done)
theorem mFr_ok : (List.range 154).all (fun y => Nat.ble 1 (mFr y) && Nat.ble 60 (mLo y)) = true := by decide +kernel
theorem z_newtab {o i ci : Nat} (h : mClsOf o i = some ci) : ci < 7 ∧ Cond.classLink (zCN o) i (zCN ci) ∈ zTbl := by
  unfold mClsOf at h
  cases hf : mClsL.find? (fun e => e.1 == o && e.2.1 == i) with
  | none => rw [hf] at h; cases h
  | some e =>
    rw [hf] at h
    have h1 := List.find?_some hf
    have h2 := List.mem_of_find?_eq_some hf
    simp only [Bool.and_eq_true, beq_iff_eq] at h1
    cases h
    have h3 := List.all_eq_true.mp zCW_ok e h2
    simp only [Bool.and_eq_true, decide_eq_true_eq] at h3
    rw [h1.1, h1.2] at h3
    exact ⟨h3.2, zTbl_of h3.1.1 h3.1.2⟩
theorem zRA_I {s : State} {k : ZK} {D : va_G} (hK : va_K D vwCl (zTys k) s) : ∀ cA, va_RA s cA .int → cA = k.2.1 10 := fun cA h => Option.some.inj (Eq.trans (Eq.symm (show s.vm.findClass _ = some cA from h)) (show s.vm.findClass _ = some (k.2.1 10) from (hK.2 0 (k.2.1 10, .int) rfl).2))
theorem zRA_C {s : State} {k : ZK} {D : va_G} (hK : va_K D vwCl (zTys k) s) : ∀ cA, va_RA s cA .char → cA = k.2.1 11 := fun cA h => Option.some.inj (Eq.trans (Eq.symm (show s.vm.findClass _ = some cA from h)) (show s.vm.findClass _ = some (k.2.1 11) from (hK.2 1 (k.2.1 11, .char) rfl).2))
theorem zRA_Z {s : State} {k : ZK} {D : va_G} (hK : va_K D vwCl (zTys k) s) : ∀ cA, va_RA s cA .boolean → cA = k.2.1 12 := fun cA h => Option.some.inj (Eq.trans (Eq.symm (show s.vm.findClass _ = some cA from h)) (show s.vm.findClass _ = some (k.2.1 12) from (hK.2 2 (k.2.1 12, .boolean) rfl).2))
set_option maxHeartbeats 4000000 in
theorem zStep {D : va_G} {k : ZK} {E : ME} {p : Program} {l : Launch} {e : Env} {R : Room} {s : State} {m : MethodId} {args : Array Value} {below : List Frame} {meth : Method} {c : Code} {H : Heap} {locs : List Loc} {cells slots : Nat} {Q : State → Prop}
    {y pc len : Nat} {i : Instr} {mls : MLs} {mst : List MV} {g : MG} {μ : MU} {ls : Array Slot} {st : List Value} {c' : MCfg} (hy : y < 154) (hE : E.1 < 2147483648 ∧ ∀ j, -2147483648 ≤ E.2 j ∧ E.2 j < 2147483648)
    (hX : zCx D k E p R s m args meth c y mls) (hd : decode (mBytes y) pc = .ok (i, len)) (hlen : len = mLen i ∨ mLen i = 0) (hq : mStep E y pc i len mls mst g μ = some (.inl c')) (hl : zl k mls ls) (hs : zs k mst st) (hH : zH D k g μ H) (hS : va_S (zA k) s.heap H locs) (hz : s.heap.size + cells = k.1 + g.1) (hrc : cells + (c'.2.2.2.1.1 - g.1) ≤ R.cells) (hrs : slots + (c'.2.2.2.1.2.1 - g.2.1) ≤ R.slots)
    (K : zKt D k p l e R s m args below meth c Q (cells + (c'.2.2.2.1.1 - g.1)) (slots + (c'.2.2.2.1.2.1 - g.2.1)) c') : W p l e R s m args below meth c H locs cells slots Q (F0 m pc ls st) := by
  obtain ⟨hx, hb, hts, hown, hK, hC, hml, hR, hini⟩ := hX
  have hf := List.all_eq_true.mp mFr_ok y (List.mem_range.mpr hy)
  simp only [Bool.and_eq_true, Nat.ble_eq] at hf
  have hR1 : 1 ≤ R.frames := by omega
  have hR2 : 60 ≤ R.locals := by omega
  have K0 : mNew i = false → zKt D k p l e R s m args below meth c Q cells slots c' := by
    intro hn
    have hsm := mStep_same hq hn
    rw [hsm.1, hsm.2, Nat.sub_self, Nat.sub_self] at K
    exact K
  unfold mStep at hq
  split at hq
  · obtain rfl : len = 1 := zlen hlen (by decide)
    rename_i nn
    exact z_nx (k := k) (v := mI (nn.bmod 4294967296)) (lv_iconst hx hb hd rfl) ⟨_, rfl, Int32.toInt_ofInt⟩ hq hl hs hH hS (K0 rfl)
  · obtain rfl : len = 2 := zlen hlen (by decide)
    rename_i nn
    exact z_nx (k := k) (v := mI (nn.bmod 256)) (lv_bipush hx hb hd rfl) ⟨_, rfl, zn_bi⟩ hq hl hs hH hS (K0 rfl)
  · obtain rfl : len = 3 := zlen hlen (by decide)
    rename_i nn
    exact z_nx (k := k) (v := mI (nn.bmod 65536)) (lv_sipush hx hb hd rfl) ⟨_, rfl, zn_si⟩ hq hl hs hH hS (K0 rfl)
  · obtain rfl : len = 1 := zlen hlen (by decide)
    rename_i nn
    exact z_nx (k := k) (v := mL (nn.val : Int)) (lv_lconst hx hb hd rfl) ⟨_, rfl, by match nn with | 0 => rfl | 1 => rfl⟩ hq hl hs hH hS (K0 rfl)
  · obtain rfl : len = 2 := zlen hlen (by decide)
    exact z_ldc hx hb hts hown hC hd hq hl hs hH hS (K0 rfl)
  · obtain rfl : len = 3 := zlen hlen (by decide)
    exact z_ldcw hx hb hts hown hd hq hl hs hH hS (K0 rfl)
  · obtain rfl : len = 3 := zlen hlen (by decide)
    exact z_ldc2 hx hb hts hown hd hq hl hs hH hS (K0 rfl)
  · obtain rfl : len = 2 := zlen hlen (by decide)
    exact z_ldi (fun x hv kk => lv_iload hx hb hd hv kk) hq hl hs hH hS (K0 rfl)
  · obtain rfl : len = 1 := zlen hlen (by decide)
    exact z_ldi (fun x hv kk => lv_iload_n hx hb hd rfl hv kk) hq hl hs hH hS (K0 rfl)
  · obtain rfl : len = 2 := zlen hlen (by decide)
    exact z_ldl (fun x hv kk => lv_lload hx hb hd hv kk) hq hl hs hH hS (K0 rfl)
  · obtain rfl : len = 1 := zlen hlen (by decide)
    exact z_ldl (fun x hv kk => lv_lload_n hx hb hd rfl hv kk) hq hl hs hH hS (K0 rfl)
  · obtain rfl : len = 2 := zlen hlen (by decide)
    exact z_lda (fun w hw hv kk => by rcases hw with rfl | ⟨ww, rfl⟩ <;> first | exact lv_aload hx hb hd hv kk | exact lv_aloadN hx hb hd hv kk) hq hl hs hH hS (K0 rfl)
  · obtain rfl : len = 1 := zlen hlen (by decide)
    exact z_lda (fun w hw hv kk => by rcases hw with rfl | ⟨ww, rfl⟩ <;> first | exact lv_aload_n hx hb hd rfl hv kk | exact lv_aload_nN hx hb hd rfl hv kk) hq hl hs hH hS (K0 rfl)
  · obtain rfl : len = 2 := zlen hlen (by decide)
    exact z_sti (fun x rest kk hi => lv_istore hx hb hd (zAll_has hl) hi rfl kk) hq hl hs hH hS (K0 rfl)
  · obtain rfl : len = 1 := zlen hlen (by decide)
    exact z_sti (fun x rest kk hi => lv_istore_n hx hb hd rfl (zAll_has hl) hi rfl kk) hq hl hs hH hS (K0 rfl)
  · obtain rfl : len = 2 := zlen hlen (by decide)
    exact z_stl (fun x rest kk hi => lv_lstore hx hb hd (zAll_has hl) hi rfl kk) hq hl hs hH hS (K0 rfl)
  · obtain rfl : len = 1 := zlen hlen (by decide)
    exact z_stl (fun x rest kk hi => lv_lstore_n hx hb hd rfl (zAll_has hl) hi rfl kk) hq hl hs hH hS (K0 rfl)
  · obtain rfl : len = 2 := zlen hlen (by decide)
    exact z_sta (fun w rest hw kk hi => by rcases hw with rfl | ⟨ww, rfl⟩ <;> first | exact lv_astore hx hb hd (zAll_has hl) hi rfl kk | exact lv_astoreN hx hb hd (zAll_has hl) hi rfl kk) hq hl hs hH hS (K0 rfl)
  · obtain rfl : len = 1 := zlen hlen (by decide)
    exact z_sta (fun w rest hw kk hi => by rcases hw with rfl | ⟨ww, rfl⟩ <;> first | exact lv_astore_n hx hb hd rfl (zAll_has hl) hi rfl kk | exact lv_astore_nN hx hb hd rfl (zAll_has hl) hi rfl kk) hq hl hs hH hS (K0 rfl)
  · obtain rfl : len = 3 := zlen hlen (by decide)
    exact z_inc hx hb hd hq hl hs hH hS (K0 rfl)
  · obtain rfl : len = 1 := zlen hlen (by decide)
    exact z_bin (fun x y => x + y) zn_add (fun x y rest kk => lv_iadd hx hb hd kk) hq hl hs hH hS (K0 rfl)
  · obtain rfl : len = 1 := zlen hlen (by decide)
    exact z_bin (fun x y => x - y) zn_sub (fun x y rest kk => lv_isub hx hb hd kk) hq hl hs hH hS (K0 rfl)
  · obtain rfl : len = 1 := zlen hlen (by decide)
    exact z_bin (fun x y => x * y) zn_mul (fun x y rest kk => lv_imul hx hb hd kk) hq hl hs hH hS (K0 rfl)
  · obtain rfl : len = 1 := zlen hlen (by decide)
    exact z_div (fun x y => x / y) (fun x y _ => zn_div x y) (fun x y rest hne kk => lv_idiv hx hb hd hne kk) hq hl hs hH hS (K0 rfl)
  · obtain rfl : len = 1 := zlen hlen (by decide)
    exact z_div (fun x y => x - x / y * y) (fun x y hne => zn_rem x y hne) (fun x y rest hne kk => lv_irem hx hb hd hne kk) hq hl hs hH hS (K0 rfl)
  · obtain rfl : len = 1 := zlen hlen (by decide)
    exact z_bin (fun x y => x <<< (y &&& 31)) (zn_l32 _) (fun x y rest kk => lv_ishl hx hb hd kk) hq hl hs hH hS (K0 rfl)
  · obtain rfl : len = 1 := zlen hlen (by decide)
    exact z_bin (fun x y => x >>> (y &&& 31)) (zn_l32 _) (fun x y rest kk => lv_ishr hx hb hd kk) hq hl hs hH hS (K0 rfl)
  · obtain rfl : len = 1 := zlen hlen (by decide)
    exact z_bin (fun x y => (x.toUInt32 >>> (y.toUInt32 &&& Int32.toUInt32 31)).toInt32) (zn_l32 _) (fun x y rest kk => lv_iushr hx hb hd rfl kk) hq hl hs hH hS (K0 rfl)
  · obtain rfl : len = 1 := zlen hlen (by decide)
    exact z_bin (fun x y => x &&& y) (zn_l32 _) (fun x y rest kk => lv_iand hx hb hd kk) hq hl hs hH hS (K0 rfl)
  · obtain rfl : len = 1 := zlen hlen (by decide)
    exact z_bin (fun x y => x ||| y) (zn_l32 _) (fun x y rest kk => lv_ior hx hb hd kk) hq hl hs hH hS (K0 rfl)
  · obtain rfl : len = 1 := zlen hlen (by decide)
    exact z_lbin (fun x y => x &&& y) (zn_l64 _) (fun x y rest kk => lv_land hx hb hd kk) hq hl hs hH hS (K0 rfl)
  · obtain rfl : len = 1 := zlen hlen (by decide)
    exact z_lbin (fun x y => x ||| y) (zn_l64 _) (fun x y rest kk => lv_lor hx hb hd kk) hq hl hs hH hS (K0 rfl)
  · obtain rfl : len = 1 := zlen hlen (by decide)
    exact z_lsh (fun x y => (x.toUInt64 >>> (y.toInt64.toUInt64 &&& Int64.toUInt64 63)).toInt64) (fun x y => by unfold mLushr; rw [zn_of64, zn_of]) (fun x y rest kk => lv_lushr hx hb hd rfl kk) hq hl hs hH hS (K0 rfl)
  · obtain rfl : len = 1 := zlen hlen (by decide)
    exact z_lsh (fun x y => x <<< (y.toInt64 &&& 63)) (fun x y => by unfold mLshl; rw [zn_of64, zn_of]) (fun x y rest kk => lv_lshl hx hb hd rfl kk) hq hl hs hH hS (K0 rfl)
  · obtain rfl : len = 1 := zlen hlen (by decide)
    exact z_lcmp hx hb hd hq hl hs hH hS (K0 rfl)
  · obtain rfl : len = 1 := zlen hlen (by decide)
    exact z_i2l hx hb hd hq hl hs hH hS (K0 rfl)
  · obtain rfl : len = 1 := zlen hlen (by decide)
    exact z_l2i hx hb hd hq hl hs hH hS (K0 rfl)
  · obtain rfl : len = 1 := zlen hlen (by decide)
    exact z_i2c hx hb hd hq hl hs hH hS (K0 rfl)
  · obtain rfl : len = 1 := zlen hlen (by decide)
    exact z_dup hx hb hd hq hl hs hH hS (K0 rfl)
  · obtain rfl : len = 1 := zlen hlen (by decide)
    exact z_dup2 hx hb hd hq hl hs hH hS (K0 rfl)
  · obtain rfl : len = 1 := zlen hlen (by decide)
    exact z_pop hx hb hd hq hl hs hH hS (K0 rfl)
  · obtain rfl : len = 3 := zlen hlen (by decide)
    exact z_goto hx hb hd hq hl hs hH hS (K0 rfl)
  · obtain rfl : len = 3 := zlen hlen (by decide)
    exact z_if hx hb hd hq hl hs hH hS (K0 rfl)
  · obtain rfl : len = 3 := zlen hlen (by decide)
    exact z_icmp hx hb hd hq hl hs hH hS (K0 rfl)
  · exact z_tsw hx hb hd hq hl hs hH hS (K0 rfl)
  · exact z_lsw hx hb hd hq hl hs hH hS (K0 rfl)
  · obtain rfl : len = 1 := zlen hlen (by decide)
    exact z_alen hx hb hK hC hE hd hq hl hs hH hS (K0 rfl)
  · obtain rfl : len = 1 := zlen hlen (by decide)
    exact z_iald hx hb hK hC hE hd hq hl hs hH hS (K0 rfl)
  · obtain rfl : len = 1 := zlen hlen (by decide)
    exact z_cald hx hb hK hd hq hl hs hH hS (K0 rfl)
  · obtain rfl : len = 1 := zlen hlen (by decide)
    exact z_bald hx hb hK hC hd hq hl hs hH hS (K0 rfl)
  · obtain rfl : len = 1 := zlen hlen (by decide)
    exact z_iast hx hb hK hd hq hl hs hH hS (K0 rfl)
  · obtain rfl : len = 1 := zlen hlen (by decide)
    exact z_cast hx hb hK hd hq hl hs hH hS (K0 rfl)
  · obtain rfl : len = 1 := zlen hlen (by decide)
    exact z_bast hx hb hK hd hq hl hs hH hS (K0 rfl)
  · obtain rfl : len = 1 := zlen hlen (by decide)
    exact z_aald hx hb hK hd hq hl hs hH hS (K0 rfl)
  · obtain rfl : len = 1 := zlen hlen (by decide)
    exact z_aast hx hb hK hd hq hl hs hH hS (K0 rfl)
  · obtain rfl : len = 2 := zlen hlen (by decide)
    exact z_newa (at_ := .int) (ty := .int) hx hb hts hK hC zArI rfl (by decide) (by decide) rfl (by decide) (zRA_I hK) hd hq hl hs hH hS hz hrc hrs K
  · obtain rfl : len = 2 := zlen hlen (by decide)
    exact z_newa (at_ := .char) (ty := .char) hx hb hts hK hC zArC rfl (by decide) (by decide) rfl (by decide) (zRA_C hK) hd hq hl hs hH hS hz hrc hrs K
  · obtain rfl : len = 2 := zlen hlen (by decide)
    exact z_newa (at_ := .boolean) (ty := .boolean) hx hb hts hK hC zArZ rfl (by decide) (by decide) rfl (by decide) (zRA_Z hK) hd hq hl hs hH hS hz hrc hrs K
  · obtain rfl : len = 3 := zlen hlen (by decide)
    split at hq
    · rename_i ci hci
      obtain ⟨hci7, hcw⟩ := z_newtab hci
      exact z_anew hx hb hown (hts _ hcw) hK hC hd hq hl hs hH hS hz hrc hrs K
    · cases hq
  · obtain rfl : len = 3 := zlen hlen (by decide)
    split at hq
    · rename_i ci hci
      obtain ⟨hci7, hcw⟩ := z_newtab hci
      exact z_new hx hb hts hown hci7 (hts _ hcw) hK hC hd hq hl hs hH hS hz hrc hrs K
    · cases hq
  · obtain rfl : len = 3 := zlen hlen (by decide)
    split at hq
    · rename_i ci f hfd
      exact z_get hx hb hts hown hfd hK hC hd hq hl hs hH hS (K0 rfl)
    · cases hq
  · obtain rfl : len = 3 := zlen hlen (by decide)
    split at hq
    · rename_i ci f hfd
      exact z_put (ini := mIni y) hx hb hts (fun hzz => hini (by simp only [Bool.and_eq_true] at hzz; exact hzz.1)) hown hfd hK hd hq hl hs hH hS (K0 rfl)
    · cases hq
  · obtain rfl : len = 3 := zlen hlen (by decide)
    split at hq
    · rename_i vv hgs
      exact z_gst hx hb hts hown hgs hC hd hq hl hs hH hS (K0 rfl)
    · cases hq
  · split at hq
    · split at hq
      · unfold s_call at hq
        split at hq <;> cases hq
      · cases hq
    · cases hq
  · obtain rfl : len = 3 := zlen hlen (by decide)
    split at hq
    · split at hq
      · rename_i hmt hy1
        subst hy1
        exact z_oin hx hb hts hown hmt hml hR1 hR2 hd hq hl hs hH hS (K0 rfl)
      · split at hq
        · unfold s_call at hq
          split at hq <;> cases hq
        · cases hq
    · cases hq
  · obtain rfl : len = 3 := zlen hlen (by decide)
    split at hq
    · split at hq
      · rename_i hmt hy1
        subst hy1
        exact z_copy hx hb hts hown hmt hK hC hml hR1 hR2 hd hq hl hs hH hS (K0 rfl)
      · split at hq
        · unfold s_call at hq
          split at hq <;> cases hq
        · cases hq
    · cases hq
  · unfold s_iret at hq
    (repeat' split at hq) <;> cases hq
  · unfold s_aret at hq
    (repeat' split at hq) <;> cases hq
  · unfold s_vret at hq
    (repeat' split at hq) <;> cases hq
  · cases hq
theorem mCall_of {E : ME} {y pc len : Nat} {i : Instr} {mls : MLs} {mst : List MV} {g : MG} {μ : MU} {y' : Nat} {as rest : List MV} (hq : mStep E y pc i len mls mst g μ = some (.inr (.inl (y', as, rest)))) :
    ∃ idx n w, mMthOf (mCl y) idx = some (y', n, w) ∧ ¬ y' = 1000 ∧ ¬ y' = 1001 ∧ ((i = .invokevirtual idx ∧ w < 10) ∨ (i = .invokespecial idx ∧ 20 ≤ w ∧ w < 30) ∨ (i = .invokestatic idx ∧ w = 100)) ∧ ((w < 10 → mRcv w g as = true) ∧ (20 ≤ w ∧ w < 30 → mRcv (w - 20) g as = true)) ∧ n ≤ mst.length ∧ as = (mst.take n).reverse ∧ rest = mst.drop n ∧ rest.length ≤ 4 := by
  have hne : ∀ idx n w, mMthOf (mCl y) idx = some (y', n, w) → w ≠ 99 → (w < 10 ∨ 20 ≤ w) → w ≠ 100 → ¬ y' = 1000 ∧ ¬ y' = 1001 := by
    intro idx n w hm h1 h2 h3
    obtain ⟨ee, hee, e1, e2, e3, e4, e5⟩ := zMthOf hm
    have key : ∀ ee ∈ mMthL, (ee.2.2.1 = 1000 → ee.2.2.2.2.1 = 100) ∧ (ee.2.2.1 = 1001 → ee.2.2.2.2.1 = 99) := by decide +kernel
    have hkk := key ee hee
    rw [e3, e5] at hkk
    exact ⟨fun z => h3 (hkk.1 z), fun z => h1 (hkk.2 z)⟩
  have hne2 : ∀ idx n w, mMthOf (mCl y) idx = some (y', n, w) → w = 100 → ¬ y' = 1001 := by
    intro idx n w hm h1 z
    obtain ⟨ee, hee, e1, e2, e3, e4, e5⟩ := zMthOf hm
    have key : ∀ ee ∈ mMthL, (ee.2.2.1 = 1001 → ee.2.2.2.2.1 = 99) := by decide +kernel
    have hkk := key ee hee (e3.trans z)
    omega
  unfold mStep at hq
  split at hq
  all_goals first
    | (exfalso; revert hq; (try simp only [s_ldi, s_ldl, s_lda, s_sti, s_stl, s_sta, s_inc, s_bin, s_div, s_lbin, s_lsh, s_lcmp, s_i2l, s_l2i, s_i2c, s_dup, s_dup2, s_pop, s_if, s_icmp, s_tsw, s_lsw, s_alen, s_ald, s_ast, s_aald, s_aast, s_newa, s_anew, s_new, s_get, s_put, s_iret, s_aret, s_vret, mNx]); (repeat' split) <;> (intro hq; cases hq); done)
    | skip
  · rename_i idx
    split at hq
    · rename_i y2 n w hm
      split at hq
      · rename_i hw
        unfold s_call at hq
        split at hq
        · rename_i hc
          cases hq
          obtain ⟨hn1, hn2⟩ := hne _ _ _ hm (by omega) (by omega) (by omega)
          exact ⟨idx, n, w, hm, hn1, hn2, Or.inl ⟨rfl, hw⟩, ⟨fun _ => hc.2.2.resolve_left (by omega), fun z => by omega⟩, hc.1, rfl, rfl, hc.2.1⟩
        · cases hq
      · cases hq
    · cases hq
  · rename_i idx
    split at hq
    · rename_i y2 n w hm
      split at hq
      · exfalso
        revert hq
        unfold s_oin mNx
        (repeat' split) <;> (intro hq; cases hq)
      · split at hq
        · rename_i hw
          unfold s_call at hq
          split at hq
          · rename_i hc
            cases hq
            obtain ⟨hn1, hn2⟩ := hne _ _ _ hm (by omega) (by omega) (by omega)
            exact ⟨idx, n, w, hm, hn1, hn2, Or.inr (Or.inl ⟨rfl, hw⟩), ⟨fun z => by omega, fun _ => hc.2.2.resolve_left (by omega)⟩, hc.1, rfl, rfl, hc.2.1⟩
          · cases hq
        · cases hq
    · cases hq
  · rename_i idx
    split at hq
    · rename_i y2 n w hm
      split at hq
      · exfalso
        revert hq
        unfold s_copy mNx
        (repeat' split) <;> (intro hq; cases hq)
      · rename_i hy1
        split at hq
        · rename_i hw
          unfold s_call at hq
          split at hq
          · rename_i hc
            cases hq
            exact ⟨idx, n, w, hm, hy1, hne2 _ _ _ hm hw, Or.inr (Or.inr ⟨rfl, hw⟩), ⟨fun z => by omega, fun z => by omega⟩, hc.1, rfl, rfl, hc.2.1⟩
          · cases hq
        · cases hq
    · cases hq
theorem zMain {D : va_G} {k : ZK} {E : ME} {l : Launch} (hE : E.1 < 2147483648 ∧ ∀ j, -2147483648 ≤ E.2 j ∧ E.2 j < 2147483648) : ∀ n, zI D k E l n := by
  intro n
  induction n with
  | zero => intro y pc mls mst g μ r g' μ' hy hq; cases hq
  | succ n ih =>
    intro y pc mls mst g μ r g' μ' hy hq p e R s m args below meth c Q hX hF H locs cells slots ls st hl hs hH hS hz hrc hrs
    have hmono := mRun_mono2 _ _ _ _ _ _ _ _ _ _ hq
    rw [mRun] at hq
    cases hc : mCode y pc with
    | none => rw [hc] at hq; cases hq
    | some il =>
      obtain ⟨i, len⟩ := il
      rw [hc] at hq
      dsimp only at hq
      obtain ⟨hd, hlen⟩ : decode (mBytes y) pc = .ok (i, len) ∧ (len = mLen i ∨ mLen i = 0) := by
        unfold mCode at hc
        split at hc
        · rename_i rr hdd
          split at hc
          · rename_i hln
            cases hc
            exact ⟨hdd, hln⟩
          · cases hc
        · cases hc
      cases hst : mStep E y pc i len mls mst g μ with
      | none => rw [hst] at hq; cases hq
      | some q =>
        rw [hst] at hq
        rcases q with ⟨pc', mls', mst', g1, μ1⟩ | ⟨y', as, rest⟩ | rr
        · dsimp only at hq
          have hm1 := mStep_mono hst
          have hm2 := mRun_mono2 _ _ _ _ _ _ _ _ _ _ hq
          dsimp only at hm1
          refine zStep hy hE hX hd hlen hst hl hs hH hS hz (by show cells + (g1.1 - g.1) ≤ _; omega) (by show slots + (g1.2.1 - g.2.1) ≤ _; omega) (fun ls2 st2 H2 locs2 q1 q2 q3 q4 => ?_)
          have hX2 : zCx D k E p R s m args meth c y mls' := ⟨hX.1, hX.2.1, hX.2.2.1, hX.2.2.2.1, hX.2.2.2.2.1, hX.2.2.2.2.2.1, by rw [hm1.1]; exact hX.2.2.2.2.2.2.1, hX.2.2.2.2.2.2.2⟩
          exact ih _ _ _ _ _ _ _ _ _ hy hq p e R s m args below meth c Q hX2 hF H2 locs2 _ _ ls2 st2 q1 q2 q3 q4 (by show s.heap.size + (cells + (g1.1 - g.1)) = k.1 + g1.1; omega) (by show cells + (g1.1 - g.1) + _ ≤ _; omega) (by show slots + (g1.2.1 - g.2.1) + _ ≤ _; omega)
        · dsimp only at hq
          split at hq
          · rename_i hle
            cases h1 : mRun E n y' 0 (mEnt (mMax y') as) [] g μ with
            | none => rw [h1] at hq; cases hq
            | some q1 =>
              rw [h1] at hq
              obtain ⟨r1, g1, μ1⟩ := q1
              dsimp only at hq
              split at hq
              · rename_i hzz
                obtain ⟨idx, nn, w, hm, hy1, hy2, hi, hw, hn, ha, hrst, h4⟩ := mCall_of hst
                have hm2 := mRun_mono2 _ _ _ _ _ _ _ _ _ _ hq
                have hy' : y' < 153 := by
                  obtain ⟨ee, hee, e1, e2, e3, e4, e5⟩ := zMthOf hm
                  have hkd := List.all_eq_true.mp zLk_kind ee hee
                  rw [e3] at hkd
                  simp only [Bool.and_eq_true, Bool.or_eq_true, decide_eq_true_eq, beq_iff_eq, hy1, hy2, false_or] at hkd
                  exact hkd.1
                have hl3 : len = 3 := by rcases hi with ⟨rfl, -⟩ | ⟨rfl, -⟩ | ⟨rfl, -⟩ <;> exact zlen hlen (by decide)
                subst hl3
                refine z_call hX.1 hX.2.1 hX.2.2.1 hX.2.2.2.1 hX.2.2.2.2.1 hX.2.2.2.2.2.1 hX.2.2.2.2.2.2.1 hX.2.2.2.2.2.2.2.1 hm hy1 hy2 hi hd hw hn ha hrst h4 hle.2 (fun vals hv => zMet_of ih hy' hv hle.1 h1 hzz.1 hzz.2) hl hs hH hS hz (by omega) (by omega) (fun ls2 st2 H2 locs2 q1 q2 q3 q4 => ?_)
                exact ih _ _ _ _ _ _ _ _ _ hy hq p e R s m args below meth c Q hX hF H2 locs2 _ _ ls2 st2 q1 q2 q3 q4 (by show s.heap.size + (cells + mCell y') = k.1 + g1.1; omega) (by show cells + mCell y' + _ ≤ _; omega) (by show slots + mSlot y' + _ ≤ _; omega)
              · cases hq
          · cases hq
        · cases hq
          exact hF pc len i mls mst ls st H locs cells slots hd hlen hst hs hH hS (by omega) (by omega)
