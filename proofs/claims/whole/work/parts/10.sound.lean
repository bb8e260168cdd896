theorem mRun_mono2 {E : ME} : ∀ (n y pc : Nat) (mls : MLs) (mst : List MV) (g : MG) (μ : MU) (r : Option MV) (g' : MG) (μ' : MU), mRun E n y pc mls mst g μ = some (r, g', μ') → g.1 ≤ g'.1 ∧ g.2.1 ≤ g'.2.1 := by
  intro n
  induction n with
  | zero => intro y pc mls mst g μ r g' μ' hq; cases hq
  | succ n ih =>
    intro y pc mls mst g μ r g' μ' hq
    rw [mRun] at hq
    cases hc : mCode y pc with
    | none => rw [hc] at hq; cases hq
    | some il =>
      obtain ⟨i, len⟩ := il
      rw [hc] at hq
      dsimp only at hq
      cases hs : mStep E y pc i len mls mst g μ with
      | none => rw [hs] at hq; cases hq
      | some q =>
        rw [hs] at hq
        rcases q with ⟨pc', ls', st', g1, μ1⟩ | ⟨y', as, rest⟩ | rr
        · have hm1 := mStep_mono hs
          have hm2 := ih _ _ _ _ _ _ _ _ _ hq
          dsimp only at hm1
          omega
        · dsimp only at hq
          split at hq
          · cases h1 : mRun E n y' 0 (mEnt (mMax y') as) [] g μ with
            | none => rw [h1] at hq; cases hq
            | some q1 =>
              rw [h1] at hq
              obtain ⟨r1, g1, μ1⟩ := q1
              dsimp only at hq
              split at hq
              · rename_i hz
                have hm2 := ih _ _ _ _ _ _ _ _ _ hq
                omega
              · cases hq
          · cases hq
        · cases hq
          exact ⟨Nat.le_refl _, Nat.le_refl _⟩
def zCx (D : va_G) (k : ZK) (E : ME) (p : Program) (R : Room) (s : State) (m : MethodId) (args : Array Value) (meth : Method) (c : Code) (y : Nat) (mls : MLs) : Prop :=
  p.tables.exec = Jvm.exec ∧ c.code = mBytes y ∧ (∀ w ∈ zTbl, w.before args s = true) ∧ s.vm.findClass (zCN (mCl y)) = some m.cls ∧ va_K D vwCl (zTys k) s ∧ zC E k s s.heap ∧ c.maxLocals = mls.length ∧ (mFr y ≤ R.frames ∧ mLo y ≤ R.locals) ∧ (mIni y = true → meth.name = "<init>")
/-- the end of a method -/
def zFin (D : va_G) (k : ZK) (E : ME) (p : Program) (l : Launch) (e : Env) (R : Room) (s : State) (m : MethodId) (args : Array Value) (below : List Frame) (meth : Method) (c : Code) (Q : State → Prop) (y : Nat) (r : Option MV) (g' : MG) (μ' : MU) : Prop :=
  ∀ (pc len : Nat) (i : Instr) (mls : MLs) (mst : List MV) (ls : Array Slot) (st : List Value) (H : Heap) (locs : List Loc) (cells slots : Nat), decode (mBytes y) pc = .ok (i, len) → (len = mLen i ∨ mLen i = 0) → mStep E y pc i len mls mst g' μ' = some (.inr (.inr r)) → zs k mst st → zH D k g' μ' H → va_S (zA k) s.heap H locs → cells ≤ R.cells → slots ≤ R.slots → W p l e R s m args below meth c H locs cells slots Q (F0 m pc ls st)
def zI (D : va_G) (k : ZK) (E : ME) (l : Launch) (n : Nat) : Prop := ∀ (y pc : Nat) (mls : MLs) (mst : List MV) (g : MG) (μ : MU) (r : Option MV) (g' : MG) (μ' : MU), y < 154 → mRun E n y pc mls mst g μ = some (r, g', μ') →
  ∀ (p : Program) (e : Env) (R : Room) (s : State) (m : MethodId) (args : Array Value) (below : List Frame) (meth : Method) (c : Code) (Q : State → Prop), zCx D k E p R s m args meth c y mls → zFin D k E p l e R s m args below meth c Q y r g' μ' →
  ∀ (H : Heap) (locs : List Loc) (cells slots : Nat) (ls : Array Slot) (st : List Value), zl k mls ls → zs k mst st → zH D k g μ H → va_S (zA k) s.heap H locs → s.heap.size + cells = k.1 + g.1 → cells + (g'.1 - g.1) ≤ R.cells → slots + (g'.2.1 - g.2.1) ≤ R.slots → W p l e R s m args below meth c H locs cells slots Q (F0 m pc ls st)
theorem mRet_of {E : ME} {y pc len : Nat} {i : Instr} {mls : MLs} {mst : List MV} {g : MG} {μ : MU} {r : Option MV} (hq : mStep E y pc i len mls mst g μ = some (.inr (.inr r))) : (i = .ireturn ∧ s_iret (mRet y) mst = some (.inr (.inr r))) ∨ (i = .areturn ∧ s_aret (mRet y) mst = some (.inr (.inr r))) ∨ (i = .return_ ∧ s_vret (mRet y) mst = some (.inr (.inr r))) := by
  unfold mStep at hq
  split at hq <;> first
    | exact Or.inl ⟨rfl, hq⟩
    | exact Or.inr (Or.inl ⟨rfl, hq⟩)
    | exact Or.inr (Or.inr ⟨rfl, hq⟩)
    | (exfalso; revert hq; (try simp only [s_ldi, s_ldl, s_lda, s_sti, s_stl, s_sta, s_inc, s_bin, s_div, s_lbin, s_lsh, s_lcmp, s_i2l, s_l2i, s_i2c, s_dup, s_dup2, s_pop, s_if, s_icmp, s_tsw, s_lsw, s_alen, s_ald, s_ast, s_aald, s_aast, s_newa, s_anew, s_new, s_get, s_put, s_copy, s_oin, s_call, mNx]); (repeat' split) <;> (intro hq; cases hq))
theorem zFin_met {D : va_G} {k : ZK} {E : ME} {p : Program} {l : Launch} {e : Env} {R : Room} {s : State} {m : MethodId} {args : Array Value} {below : List Frame} {meth : Method} {c : Code} {y : Nat} {r : Option MV} {g' : MG} {μ' : MU} (hx : p.tables.exec = Jvm.exec) (hb : c.code = mBytes y) (hr : meth.sig.returnType = zRet (mRet y)) (hlocks : meth.locks = false) :
    zFin D k E p l e R s m args below meth c (MQ below (zQ D k r g' μ') args s R.cells R.slots (zA k)) y r g' μ' := by
  intro pc len i mls mst ls st H locs cells slots hd hlen hs hst hH hS hcl hsl
  refine W.widen hcl hsl ?_
  rcases mRet_of hs with ⟨rfl, hq⟩ | ⟨rfl, hq⟩ | ⟨rfl, hq⟩
  · have hl1 : len = 1 := by rcases hlen with hz | hz <;> first | exact hz | cases hz
    subst hl1
    unfold s_iret at hq
    split at hq
    · split at hq
      · cases hq
      · rename_i v hno
        cases hq
        obtain ⟨_, st', rfl, ⟨x, rfl, rfl⟩, h3⟩ := hst
        rw [show st' = [] from h3]
        have hcase : (mRet y = 0) ∨ (mRet y = 1) ∨ (mRet y = 2) ∨ (mRet y = 5) := by
          by_cases q0 : mRet y = 0
          · exact Or.inl q0
          · by_cases q1 : mRet y = 1
            · exact Or.inr (Or.inl q1)
            · by_cases q2 : mRet y = 2
              · exact Or.inr (Or.inr (Or.inl q2))
              · by_cases q5 : mRet y = 5
                · exact Or.inr (Or.inr (Or.inr q5))
                · exact absurd (Or.inr (Or.inr (Or.inr ⟨q5, by simp [mOk, q0, q1, q2]⟩))) hno
        have hnar : ∃ ty, zRet (mRet y) = some ty ∧ narrow ty (.int x) = .int x := by
          rcases hcase with q0 | q0 | q0 | q0
          · rw [q0]; exact ⟨.int, rfl, rfl⟩
          · rw [q0] at hno ⊢
            refine ⟨.char, rfl, (z_nar (t := 1) (ty := .char) ?_ (Or.inr (Or.inl ⟨rfl, rfl⟩))).1⟩
            by_cases hok : mOk 1 x.toInt = true
            · exact hok
            · exact absurd (Or.inr (Or.inr (Or.inr ⟨by decide, by simpa using hok⟩))) hno
          · rw [q0] at hno ⊢
            refine ⟨.boolean, rfl, (z_nar (t := 2) (ty := .boolean) ?_ (Or.inr (Or.inr ⟨rfl, rfl⟩))).1⟩
            by_cases hok : mOk 2 x.toInt = true
            · exact hok
            · exact absurd (Or.inr (Or.inr (Or.inr ⟨by decide, by simpa using hok⟩))) hno
          · rw [q0] at hno ⊢
            have hrg : -128 ≤ x.toInt ∧ x.toInt < 128 := by
              by_cases hz : -128 ≤ x.toInt ∧ x.toInt < 128
              · exact hz
              · exact absurd (Or.inr (Or.inr (Or.inl ⟨rfl, hz⟩))) hno
            refine ⟨.byte, rfl, ?_⟩
            have e1 : x.toInt8.toInt32 = x := by
              refine Int32.toInt_inj.mp ?_
              rw [Int8.toInt_toInt32, Int32.toInt_toInt8, Int.bmod_eq_of_le] <;> omega
            show Value.int _ = Value.int x
            first | rw [e1] | exact congrArg Value.int e1
        obtain ⟨ty, hty, hn⟩ := hnar
        exact W.zret hx hb (hr.trans hty) hn (fun t ht _ => ⟨⟨_, rfl, _, rfl, ⟨x, rfl, rfl⟩⟩, by rw [ht]; exact hH, hS.F ht⟩) hS.2.2 hd hlocks
    · cases hq
  · have hl1 : len = 1 := by rcases hlen with hz | hz <;> first | exact hz | cases hz
    subst hl1
    unfold s_aret at hq
    split at hq
    · split at hq
      · rename_i v h3r
        cases hq
        obtain ⟨w, st', rfl, hw, h3⟩ := hst
        rw [show st' = [] from h3]
        exact W.aret hx hb (rt := .object "java/lang/String") (by rw [hr, h3r]; rfl) (Or.inl ⟨_, rfl⟩) (zv_ref hw) (fun t ht _ => ⟨⟨_, rfl, _, rfl, hw⟩, by rw [ht]; exact hH, hS.F ht⟩) hS.2.2 hd hlocks
      · cases hq
    · cases hq
  · have hl1 : len = 1 := by rcases hlen with hz | hz <;> first | exact hz | cases hz
    subst hl1
    unfold s_vret at hq
    split at hq
    · split at hq
      · rename_i h4r
        cases hq
        rw [show st = [] from hst]
        exact W.vret hx hb (by rw [hr, h4r]; rfl) (fun t ht _ => ⟨⟨_, rfl, rfl⟩, by rw [ht]; exact hH, hS.F ht⟩) hS.2.2 hd hlocks
      · cases hq
    · cases hq
theorem zMet_of {D : va_G} {k : ZK} {E : ME} {l : Launch} {n : Nat} (hI : zI D k E l n) {y : Nat} (hy : y < 153) {as : List MV} {vals : List Value} (hv : zs k as vals) (hle : (mEntL as).length ≤ mMax y) {g : MG} {μ : MU} {r : Option MV} {g' : MG} {μ' : MU} (hrun : mRun E n y 0 (mEnt (mMax y) as) [] g μ = some (r, g', μ')) (hg1 : g'.1 = g.1 + mCell y) (hg2 : g'.2.1 = g.2.1 + mSlot y) :
    Met l (mName y) (zWsY y) (zRoom y) (zP D k E vals g μ) (zQ D k r g' μ') (mCell y) (mSlot y) (zA k) := by
  refine va_MetF (cc := mBytes y) (maxL := mMax y) (ret := zRet (mRet y)) (List.all_eq_true.mp zM_m1 y (List.mem_range.mpr hy)) rfl ?_
  intro p e s m args below meth c s₁ B hml hpv
  obtain ⟨rfl, hH, hK, hC, hsz⟩ := hpv
  have hx := B.exec
  have hb := B.bytes
  have hr := B.returns
  have hts := atoms_spec (ws := zWsY y) B.pre
  have hown : s.vm.findClass (mName y).cls = some m.cls := findClass_of_methodNamed B.named
  have hlocks := B.notSynchronized
  rw [(zM_all hy).2.2.2.1] at hown
  rw [lg_entry_eq]
  have hlen := zEnt_len hv
  have hm5 := List.all_eq_true.mp zM_m5 y (List.mem_range.mpr hy)
  simp only [Bool.and_eq_true, decide_eq_true_eq] at hm5
  refine hI y 0 (mEnt (mMax y) as) [] g μ r g' μ' (by omega) hrun p e _ s m _ below meth c _ ⟨hx, hb, fun w hw => hts w (List.mem_cons_of_mem _ hw), hown, hK, hC, ?_, ⟨Nat.le_refl _, Nat.le_refl _⟩, fun hz => ?_⟩ (zFin_met hx hb hr hlocks) s.heap [] 0 0 _ _ (zEnt_ok hv hle) rfl hH va_S.rf (by omega) (by show 0 + _ ≤ mCell y; omega) (by show 0 + _ ≤ mSlot y; omega)
  · rw [hml]
    unfold mEnt
    simp
    omega
  · exact (name_of_methodNamed B.named B.method).1.trans (hm5.1 hz)
