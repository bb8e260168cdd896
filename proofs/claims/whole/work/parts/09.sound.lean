def zRoom (y : Nat) : Room := { frames := mFr y, cells := mCell y, slots := mSlot y, locals := mLo y }
def zWsY (y : Nat) : List Cond := zCode y :: zTbl
def zQ (D : va_G) (k : ZK) (r : Option MV) (g' : MG) (μ' : MU) : Array Value → State → Outcome → State → Prop := fun _ st o t => (∃ v, o = .returned v ∧ zo k r v) ∧ zH D k g' μ' t.heap ∧ va_F (zA k) st t
def zP (D : va_G) (k : ZK) (E : ME) (vals : List Value) (g : MG) (μ : MU) : Array Value → State → Prop := va_Pc vals (fun U => zH D k g μ U.heap ∧ va_K D vwCl (zTys k) U ∧ zC E k U U.heap ∧ U.heap.size = k.1 + g.1)
theorem zP_blind {D : va_G} {k : ZK} {E : ME} {vals : List Value} {g : MG} {μ : MU} : FrameBlind (zP D k E vals g μ) := fun a U gf mk q => by
  obtain ⟨q0, q1, q2, q3, q4⟩ := q
  exact ⟨q0, q1, va_K.moved (u := U) (U := U.calling gf mk a) (Vm.Alike.refl U.vm) q2, zC_same (s := U) (U := U.calling gf mk a) rfl q3, q4⟩
theorem zWsY_good {y : Nat} (h : y < 153) : ∀ w ∈ zWsY y, w ∈ zTbl ∧ ((w.onTables && w.keeps) = true ∨ ∃ ty, w = .arrayClass ty) := by
  intro w hw
  have hin : w ∈ zTbl := by
    rcases List.mem_cons.mp hw with rfl | h1
    · exact zM_code y h
    · exact h1
  exact ⟨hin, good_of_word (zTbl_good w hin)⟩
section ZC
variable {D : va_G} {k : ZK} {E : ME} {p : Program} {l : Launch} {e : Env} {R : Room} {s : State} {m : MethodId} {args : Array Value} {below : List Frame} {meth : Method} {c : Code} {H : Heap} {locs : List Loc} {cells slots : Nat} {Q : State → Prop}
variable {cc : ByteArray} {y y' pc q len : Nat} {mls : MLs} {mst : List MV} {g : MG} {μ : MU} {ls : Array Slot} {st : List Value}
theorem zM_all {y : Nat} (h : y < 153) : Cond.initialized (mName y).cls ∈ zTbl ∧ ((mName y).cls ≠ "java/lang/invoke/MethodHandle" ∧ (mName y).cls ≠ "java/lang/invoke/VarHandle") ∧ (∀ sig, parseMethodDescriptor (mName y).desc = some sig → (zMx y).2.2.2.2.2 = sig.parameters.length) ∧ (mName y).cls = zCN (mCl y) ∧ (if (zMx y).2.2.2.2.1 = 1 then Cond.static (mName y) ∈ zTbl else Cond.instanceMethod (mName y) ∈ zTbl) := by
  have hr := List.mem_range.mpr h
  have h1 := List.all_eq_true.mp zM_ini y hr
  have h2 := List.all_eq_true.mp zM_m3 y hr
  have h3 := List.all_eq_true.mp zM_m4 y hr
  have h4 := List.all_eq_true.mp zM_m2 y hr
  have h5 := List.all_eq_true.mp zM_kind y hr
  simp only [Bool.and_eq_true, decide_eq_true_eq] at h1 h2 h3 h4
  refine ⟨zTbl_of h1.1 h1.2, h2, fun sig hs => ?_, h4, ?_⟩
  · rw [hs] at h3
    exact (Option.some.inj h3).symm
  · split at h5
    · rename_i h6
      simp only [Bool.and_eq_true, decide_eq_true_eq] at h5
      rw [if_pos h6]
      exact zTbl_of h5.1 h5.2
    · rename_i h6
      simp only [Bool.and_eq_true, decide_eq_true_eq] at h5
      rw [if_neg h6]
      exact zTbl_of h5.1 h5.2
/-- behind a call -/
theorem z_back {r : Option MV} {g1 : MG} {μ1 : MU} {a : Array Value} {rest : List Value} {mrest : List MV} {mc ms : Nat} (hr : va_Run p l e R s m args below meth c H locs cells slots mc ms (F0 m pc ls st) rest (zQ D k r g1 μ1 a) (zA k)) (hl : zl k mls ls) (h3 : zs k mrest rest) (hS : va_S (zA k) s.heap H locs) (K : zKt D k p l e R s m args below meth c Q (cells + mc) (slots + ms) (pc + 3, mls, mPush r mrest, g1, μ1)) : W p l e R s m args below meth c H locs cells slots Q (F0 m pc ls st) := by
  intro T hT X
  obtain ⟨v, st₀, t, T', L, h0, X', hL, e1, e2, ⟨⟨v', hv, hz⟩, hH', hF⟩, stp⟩ := hr T hT X
  cases hv
  have hst : zs k (mPush r mrest) (v.toList ++ rest) := by
    cases r with
    | none => rw [show v = none from hz]; exact h3
    | some w => obtain ⟨x, rfl, hx⟩ := hz; exact ⟨x, rest, rfl, hx, h3⟩
  obtain ⟨hF1, hF2⟩ := hF
  rw [h0] at hF1 hF2
  obtain ⟨t2, a1, b1⟩ := K ls _ T'.heap (locs ++ L) hl hst (by rw [e1]; exact hH') ⟨Nat.le_trans hS.1 (by rw [e1]; exact hF1), fun q h1 h2 => by rw [e1, hF2 q (Nat.lt_of_lt_of_le h1 hS.1) h2]; exact hS.2.1 q h1 h2, fun q hq => (List.mem_append.mp hq).elim (hS.2.2 q) (hL q)⟩ T' rfl X'
  exact ⟨t2, stp t2 a1, b1⟩
theorem z_pre {vals : List Value} (hK : va_K D vwCl (zTys k) s) (hC : zC E k s s.heap) (hH : zH D k g μ H) (hS : va_S (zA k) s.heap H locs) (hsz : H.size = k.1 + g.1) : PreS s H (zP D k E vals g μ) vals :=
  ⟨zP_blind, fun U hU hW => ⟨rfl, by rw [hU]; exact hH, va_K.moved hW.alike hK, by rw [hU]; exact zC_moved hW (zC_kept hC hS), by rw [hU]; exact hsz⟩⟩
theorem z_split {n : Nat} {as rest : List MV} (hn : n ≤ mst.length) (h1 : as = (mst.take n).reverse) (h2 : rest = mst.drop n) (hs : zs k mst st) : ∃ vals rest', st = vals.reverse ++ rest' ∧ zs k as vals ∧ zs k rest rest' ∧ vals.length = n ∧ as.length = n := by
  subst h1; subst h2
  rw [← List.take_append_drop n mst] at hs
  obtain ⟨m1, m2, rfl, h3, h4⟩ := zs_app hs
  have hl := zs_len h3
  rw [List.length_take] at hl
  refine ⟨m1.reverse, m2, by rw [List.reverse_reverse], zs_rev h3, h4, by rw [List.length_reverse]; omega, by rw [List.length_reverse, List.length_take]; omega⟩
theorem z_room (h : mRoom y y' = true) : mFr y' + 1 ≤ mFr y ∧ 8 + (mMax y' + 11) + mLo y' ≤ mLo y := by
  simp only [mRoom, Bool.and_eq_true, Nat.ble_eq] at h
  exact h
theorem z_call {r : Option MV} {g1 : MG} {μ1 : MU} {idx n w : Nat} {as rest : List MV} {i : Instr} (hx : p.tables.exec = Jvm.exec) (hb : c.code = cc) (hts : ∀ w ∈ zTbl, w.before args s = true) (hown : s.vm.findClass (zCN (mCl y)) = some m.cls) (hK : va_K D vwCl (zTys k) s) (hC : zC E k s s.heap) (hml : c.maxLocals = mls.length) (hR : mFr y ≤ R.frames ∧ mLo y ≤ R.locals)
    (hm : mMthOf (mCl y) idx = some (y', n, w)) (hy1 : ¬ y' = 1000) (hy2 : ¬ y' = 1001)
    (hi : (i = .invokevirtual idx ∧ w < 10) ∨ (i = .invokespecial idx ∧ 20 ≤ w ∧ w < 30) ∨ (i = .invokestatic idx ∧ w = 100))
    (hd : decode cc pc = .ok (i, 3)) (hw : (w < 10 → mRcv w g as = true) ∧ (20 ≤ w ∧ w < 30 → mRcv (w - 20) g as = true)) (hn : n ≤ mst.length) (ha : as = (mst.take n).reverse) (hrst : rest = mst.drop n) (h4 : rest.length ≤ 4) (hrm : mRoom y y' = true)
    (hM : ∀ vals, zs k as vals → Met l (mName y') (zWsY y') (zRoom y') (zP D k E vals g μ) (zQ D k r g1 μ1) (mCell y') (mSlot y') (zA k))
    (hl : zl k mls ls) (hs : zs k mst st) (hH : zH D k g μ H) (hS : va_S (zA k) s.heap H locs) (hz : s.heap.size + cells = k.1 + g.1) (hrc : cells + mCell y' ≤ R.cells) (hrs : slots + mSlot y' ≤ R.slots)
    (K : zKt D k p l e R s m args below meth c Q (cells + mCell y') (slots + mSlot y') (pc + 3, mls, mPush r rest, g1, μ1)) : W p l e R s m args below meth c H locs cells slots Q (F0 m pc ls st) := by
  obtain ⟨vals, rest', rfl, hv, hr', hvl, hal⟩ := z_split hn ha hrst hs
  refine szd (k.1 + g.1) (zH_lo hH (Nat.le_trans (hC.2.2.2.2.2.2.2.2.2) hS.1)) (by omega) (fun hsz => ?_)
  have hpre := z_pre (vals := vals) hK hC hH hS hsz
  have hcat := zs_cat hr' h4
  have hlk := zLkW hm
  rw [if_neg hy1, if_neg hy2] at hlk
  obtain ⟨ee, hee, e1, e2, e3, e4, e5⟩ := zMthOf hm
  have hkd := List.all_eq_true.mp zLk_kind ee hee
  rw [e1, e2, e3, e4, e5] at hkd
  simp only [Bool.and_eq_true, Bool.or_eq_true, decide_eq_true_eq, beq_iff_eq, hy1, hy2, false_or, Bool.not_eq_true'] at hkd
  obtain ⟨hy, hkd⟩ := hkd
  obtain ⟨m1, m2, m3, m4, m5⟩ := zM_all hy
  have hfr := z_room hrm
  have hpay : ∀ w ∈ zWsY y', ∀ (a' : Array Value) (U : State), s.WarmedH U.vm → w.before a' U = true := pay_in hts (zWsY_good hy)
  have hcode : (zCode y').before args s = true := hts _ (zM_code y' hy)
  have hfr2 : (zRoom y').frames + 1 ≤ R.frames ∧ 8 + (mMax y' + 11) + (zRoom y').locals ≤ R.locals := ⟨by show mFr y' + 1 ≤ _; omega, by show 8 + (mMax y' + 11) + mLo y' ≤ _; omega⟩
  have hfix : CallFix p m c cc mls.length s args zTbl (zCN (mCl y)) := ⟨hx, hb, hml, hown, hts⟩
  refine z_back (a := vals.toArray) (rest := rest') (mrest := rest) ?_ hl hr' hS K
  rcases hi with ⟨rfl, hw10⟩ | ⟨rfl, hw20⟩ | ⟨rfl, hw100⟩
  · rcases hkd with (⟨hq1, -⟩ | ⟨⟨⟨⟨hq1, hq2⟩, hq3⟩, hq5⟩, hq6⟩) | ⟨hq1, -⟩
    · omega
    · have hrcv := hw.1 hw10
      rw [if_neg (by omega)] at m5
      rcases hlk with ⟨-, hlk⟩ | ⟨hlk, -⟩
      · have hsel : (Cond.selects (zCN w) (mName y') (mName y')).before args s = true := hts _ (zTbl_of hq5 hq6)
        cases vals with
        | nil => simp at hvl; omega
        | cons rv As =>
          cases as with
          | nil => simp at hal; omega
          | cons ra as' =>
            obtain ⟨_, _, hh, hv1, hv2⟩ := hv
            cases hh
            have hrec : ∃ b, rv = .ref b ∧ ∃ cellB : Cell, H[b]? = some cellB ∧ cellB.vm.isStatics = false ∧ s.vm.findClass (zCN w) = some cellB.cls := by
              rcases ra with ra | ra | ra | ra
              · cases hrcv
              · cases hrcv
              · have hka : (mKd g ra).1 = w := by simpa [mRcv] using hrcv
                have hw7 : w < 7 := by
                  rcases hH.2.2 ra with q | q <;> omega
                refine ⟨k.1 + ra, hv1, ?_⟩
                have hat := zWs_at (k := k) (μ := μ) (zKd_look hH.2.2 hka (by omega)).1
                rw [zEnt_obj hka hw7] at hat
                exact va_recv hK hH.1 (zCl_ok w hw7) hat
              · have hka : w = 7 ∧ mk_isS ra = true := by simpa [mRcv] using hrcv
                have hcn : 10 ≤ ra ∧ ra < 16 := by simpa [mk_isS] using hka.2
                have e1 : zcv k ra = .ref (k.2.2.2.1 (ra - 10)) := by unfold zcv; rw [if_neg (by omega), if_neg (by omega), if_pos (by omega)]
                refine ⟨k.2.2.2.1 (ra - 10), by rw [← e1]; exact hv1, ?_⟩
                rw [hka.1]
                exact vk_recv hC.2.2.2.2.2.2.2.1 (by omega) hS
            obtain ⟨b, rfl, hcell⟩ := hrec
            refine va_runV (As := As) (rest := rest') (n := As.length) hfix (hM _ ⟨_, _, rfl, hv1, hv2⟩) ⟨⟨rfl, rfl, hfr2.1, hfr2.2, hpay, List.mem_cons_self, hcode, hts _ m1, m2, fun sig h => ?_, hts _ hlk⟩, hts _ m5, hsel⟩ ⟨hpre.1, hcell, hpre.2⟩ rfl rfl hl.1 (by simp) (lv_room hcat) hd ⟨hrc, hrs⟩
            have := m3 sig h
            simp at hvl
            omega
      · rw [hq3] at hlk; cases hlk
    · omega
  · rcases hkd with (⟨hq1, -⟩ | ⟨⟨⟨⟨hq1, -⟩, -⟩, -⟩, -⟩) | ⟨hq1, hq2, hq3, hq5, hq6⟩
    · omega
    · omega
    · rw [if_neg (by omega)] at m5
      have hm5 := List.all_eq_true.mp zM_m5 y' (List.mem_range.mpr hy)
      simp only [Bool.and_eq_true, decide_eq_true_eq] at hm5
      have hret : mRet y' = 4 := hm5.2 hq6
      have hcode' : (Cond.code (mName y') (mBytes y') (mMax y') none).before args s = true := by
        have := hcode
        unfold zCode at this
        rw [hret] at this
        exact this
      have hmem : Cond.code (mName y') (mBytes y') (mMax y') none ∈ zWsY y' := by
        have : zCode y' = Cond.code (mName y') (mBytes y') (mMax y') none := by unfold zCode; rw [hret]; rfl
        rw [← this]
        exact List.mem_cons_self
      cases vals with
      | nil => simp at hvl; omega
      | cons rv As =>
        cases as with
        | nil => simp at hal; omega
        | cons ra as' =>
          obtain ⟨_, _, hh, hv1, hv2⟩ := hv
          cases hh
          have hrcv := hw.2 hw20
          have hrec : ∃ b, rv = .ref b := by
            rcases ra with ra | ra | ra | ra
            · cases hrcv
            · cases hrcv
            · exact ⟨_, hv1⟩
            · have hka : w - 20 = 7 ∧ mk_isS ra = true := by simpa [mRcv] using hrcv
              have hcn : 10 ≤ ra ∧ ra < 16 := by simpa [mk_isS] using hka.2
              have e1 : zcv k ra = .ref (k.2.2.2.1 (ra - 10)) := by unfold zcv; rw [if_neg (by omega), if_neg (by omega), if_pos (by omega)]
              exact ⟨_, by rw [← e1]; exact hv1⟩
          obtain ⟨b, rfl⟩ := hrec
          have hlen : ∀ sig, parseMethodDescriptor (mName y').desc = some sig → As.length = sig.parameters.length := fun sig h => by
            have := m3 sig h
            simp at hvl
            omega
          rcases hlk with ⟨-, hlk⟩ | ⟨-, hlk⟩
          · exact va_runI (As := As) (rest := rest') (n := As.length) hfix (hM _ ⟨_, _, rfl, hv1, hv2⟩) ⟨⟨rfl, rfl, hfr2.1, hfr2.2, hpay, hmem, hcode', hts _ m1, m2, hlen, hts _ hlk⟩, hq6, hts _ m5⟩ hpre rfl rfl hl.1 (by simp) (lv_room hcat) hd ⟨hrc, hrs⟩
          · have hnw := va_Nw.use (A := args) rfl (hC.1 _ hlk)
            exact va_runIN (As := As) (rest := rest') (n := As.length) hfix (hM _ ⟨_, _, rfl, hv1, hv2⟩) ⟨⟨⟨rfl, rfl, hfr2.1, hfr2.2, hpay, hmem⟩, hcode', hts _ m1, m2, hlen, hnw⟩, hq6, hts _ m5⟩ hpre rfl rfl hl.1 (by simp) (lv_room hcat) hd ⟨hrc, hrs⟩
  · rcases hkd with (⟨hq1, hq2⟩ | ⟨⟨⟨⟨hq1, -⟩, -⟩, -⟩, -⟩) | ⟨hq1, -⟩
    · rw [if_pos hq2.1] at m5
      rcases hlk with ⟨-, hlk⟩ | ⟨-, hlk⟩
      · exact va_runS (As := vals) (rest := rest') (n := vals.length) hfix (hM _ hv) ⟨⟨rfl, rfl, hfr2.1, hfr2.2, hpay, List.mem_cons_self, hcode, hts _ m1, m2, fun sig h => by have := m3 sig h; omega, hts _ hlk⟩, hts _ m5⟩ hpre rfl rfl hl.1 rfl (lv_room hcat) hd ⟨hrc, hrs⟩
      · have hnw := va_Nw.use (A := args) rfl (hC.1 _ hlk)
        exact va_runSN (As := vals) (rest := rest') (n := vals.length) hfix (hM _ hv) ⟨⟨⟨rfl, rfl, hfr2.1, hfr2.2, hpay, List.mem_cons_self⟩, hcode, hts _ m1, m2, fun sig h => by have := m3 sig h; omega, hnw⟩, hts _ m5, trivial⟩ hpre rfl rfl hl.1 rfl (lv_room hcat) hd ⟨hrc, hrs⟩
    · omega
    · omega
end ZC
/-! the entry's locals -/
theorem zEnt_loc {k : ZK} : ∀ {as : List MV} {vals : List Value}, zs k as vals → ∀ (off i : Nat) (v : MV), (mEntL as)[i]? = some (some v) → ∃ w, (off + i, w) ∈ lv_args off vals ∧ zv k v w := by
  intro as
  induction as with
  | nil => intro vals h off i v hi; simp [mEntL] at hi
  | cons a as ih =>
    intro vals h off i v hi
    obtain ⟨x, m, rfl, h1, h2⟩ := h
    rcases a with a | a | a
    · have hc : x.category = 1 := (zv_cat h1).1 rfl
      have e : lv_args off (x :: m) = (off, x) :: lv_args (off + 1) m := by simp [lv_args, hc]
      rw [e]
      cases i with
      | zero => simp [mEntL] at hi; subst hi; exact ⟨x, List.mem_cons_self, h1⟩
      | succ i =>
        simp [mEntL] at hi
        obtain ⟨w, q1, q2⟩ := ih h2 (off + 1) i v hi
        exact ⟨w, List.mem_cons_of_mem _ (by rw [show off + (i + 1) = off + 1 + i by omega]; exact q1), q2⟩
    · have hc : x.category = 2 := (zv_cat h1).2 rfl
      have e : lv_args off (x :: m) = (off, x) :: lv_args (off + 2) m := by simp [lv_args, hc]
      rw [e]
      cases i with
      | zero => simp [mEntL] at hi; subst hi; exact ⟨x, List.mem_cons_self, h1⟩
      | succ i =>
        cases i with
        | zero => simp [mEntL] at hi
        | succ i =>
          simp [mEntL] at hi
          obtain ⟨w, q1, q2⟩ := ih h2 (off + 2) i v hi
          exact ⟨w, List.mem_cons_of_mem _ (by rw [show off + (i + 1 + 1) = off + 2 + i by omega]; exact q1), q2⟩
    · have hc : x.category = 1 := (zv_cat h1).1 rfl
      have e : lv_args off (x :: m) = (off, x) :: lv_args (off + 1) m := by simp [lv_args, hc]
      rw [e]
      cases i with
      | zero => simp [mEntL] at hi; subst hi; exact ⟨x, List.mem_cons_self, h1⟩
      | succ i =>
        simp [mEntL] at hi
        obtain ⟨w, q1, q2⟩ := ih h2 (off + 1) i v hi
        exact ⟨w, List.mem_cons_of_mem _ (by rw [show off + (i + 1) = off + 1 + i by omega]; exact q1), q2⟩
theorem zEnt_len {k : ZK} : ∀ {as : List MV} {vals : List Value}, zs k as vals → (lg_sl vals).length = (mEntL as).length := by
  intro as
  induction as with
  | nil => intro vals h; rw [show vals = [] from h]; rfl
  | cons a as ih =>
    intro vals h
    obtain ⟨x, m, rfl, h1, h2⟩ := h
    have e := ih h2
    have e2 : (lg_sl (x :: m)).length = (if x.category = 2 then 2 else 1) + (lg_sl m).length := by
      simp only [lg_sl, List.flatMap_cons, List.length_append]
      split <;> simp
    rw [e2, e]
    rcases a with a | a | a
    · rw [if_neg (by rw [(zv_cat h1).1 rfl]; decide)]; simp [mEntL]; omega
    · rw [if_pos ((zv_cat h1).2 rfl)]; simp [mEntL]; omega
    · rw [if_neg (by rw [(zv_cat h1).1 rfl]; decide)]; simp [mEntL]; omega
theorem zEnt_ok {k : ZK} {as : List MV} {vals : List Value} {n : Nat} (h : zs k as vals) (hn : (mEntL as).length ≤ n) : zl k (mEnt n as) ((lg_sl vals ++ List.replicate (n - (lg_sl vals).length) Slot.unset).toArray) := by
  have hl := zEnt_len h
  have h1 := lv_entry vals (n := n) (by omega)
  refine ⟨by rw [h1.1]; unfold mEnt; simp; omega, h1.2.1, fun i v hi => ?_⟩
  have hi' : (mEntL as)[i]? = some (some v) := by
    unfold mEnt at hi
    by_cases hlt : i < (mEntL as).length
    · rw [List.getElem?_append_left hlt] at hi; exact hi
    · rw [List.getElem?_append_right (by omega)] at hi
      rw [List.getElem?_replicate] at hi
      split at hi <;> cases hi
  obtain ⟨w, q1, q2⟩ := zEnt_loc h 0 i v hi'
  exact ⟨w, h1.2.2 _ (by rw [Nat.zero_add] at q1; exact q1), q2⟩
/-! what a step leaves: as many locals, no fewer cells -/
theorem mStep_mono {E : ME} {y pc len : Nat} {i : Instr} {mls : MLs} {mst : List MV} {g : MG} {μ : MU} {c' : MCfg} (h : mStep E y pc i len mls mst g μ = some (.inl c')) : c'.2.1.length = mls.length ∧ g.1 ≤ c'.2.2.2.1.1 ∧ g.2.1 ≤ c'.2.2.2.1.2.1 := by
  unfold mStep at h
  split at h <;> (try simp only [s_ldi, s_ldl, s_lda, s_sti, s_stl, s_sta, s_inc, s_bin, s_div, s_lbin, s_lsh, s_lcmp, s_i2l, s_l2i, s_i2c, s_dup, s_dup2, s_pop, s_if, s_icmp, s_tsw, s_lsw, s_alen, s_ald, s_ast, s_aald, s_aast, s_newa, s_anew, s_new, s_get, s_put, s_copy, s_oin, s_call, s_iret, s_aret, s_vret, mNx] at h) <;> (repeat' split at h) <;> first | (cases h; done) | (cases h; simp [mSetR, mGrow]; done) | (cases h; simp [mSetR, mGrow]; omega)
