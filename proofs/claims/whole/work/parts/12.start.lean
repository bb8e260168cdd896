/-! THE CLAIM OUT OF ONE WALK OF THE LAW'S BODY. Your part is whole_start (and what it stands on); all else here is the same for every law, but numbers. -/
def R_law : String := "CircuitReelsLaw"
def lw_P (b : Addr) (xs : List Int32) (args : Array Value) (s : State) : Prop := args = #[.ref b] ∧ s.IntsAt b xs ∧ xs.length ≤ 2560 ∧ (Jvm.Cond.and given_1 narrow_1).before args s = true
def lw_Q (_ : Array Value) (s : State) (o : Outcome) (t : State) : Prop := o = .returned (some (.int 1)) ∧ Framed s o t [] 600000 7302250
def lw_Z (below : List Frame) (a : Array Value) (s : State) : State → Prop := fun t => ∃ o, t.status = .running ∧ Ended t below o ∧ lw_Q a s o t
/-- the law's own end, with 1 on the stack, nothing written that was there before, its room as the claim has it -/
theorem lw_ret {p : Program} {l : Launch} {e : Env} {s : State} {m : MethodId} {below : List Frame} {meth : Method} {c : Code} {b : Nat} (hx : p.tables.exec = Jvm.exec) (hb : c.code = code) (hr : meth.sig.returnType = ret) (hlocks : meth.locks = false) {pc : Nat} {H : Heap} {ls : Array Slot} (hdg : decode code pc = .ok (.ireturn, 1)) : W p l e room_1 s m #[Value.ref b] below meth c H [] 600000 7302250 (lw_Z below #[Value.ref b] s) (F0 m pc ls [.int 1]) := by
  intro T hT X
  obtain ⟨fs, hret, hrun, hended, hW, hframe⟩ := X.leave (v := some (.int 1)) (hlocks := hlocks) (fun h => by rw [hr] at h; cases h)
  have hmeth' : T.vm.method? m = some meth := X.method'
  refine ⟨T.setFrames fs, ?_, .returned (some (.int 1)), hrun, hended, rfl, ⟨_, rfl⟩, hW, hframe⟩
  jvm_step X.here [X.here.top, hx, hb, hdg, hmeth', hr, ret, narrow_b1]
  (try refine ⟨rfl, ?_⟩); (try refine ⟨rfl, ?_⟩)
  first | (intro acts; rw [hret _ acts rfl rfl rfl]) | rw [hret _ _ rfl rfl rfl]
  exact Steps.refl _
/-- what holds at the law's entry: the machine, the code, the tables' words (any of lw_tbl by 'hts w (by decide +kernel)'), the script of L ints xs at the cell b, what the Statement gives of the start (any of its parts by flat_of_before) -/
def lw_At (p : Program) (s : State) (m : MethodId) (meth : Method) (c : Code) (b L : Nat) (xs : Nat → Int32) : Prop :=
  p.tables.exec = Jvm.exec ∧ c.code = code ∧ meth.sig.returnType = ret ∧ c.maxLocals = 4 ∧ s.vm.findClass R_law = some m.cls ∧ (∀ w ∈ lw_tbl, w.before #[Value.ref b] s = true) ∧ va_X b L xs s s.heap ∧ b < s.heap.size ∧ meth.locks = false ∧ (Jvm.Cond.and given_1 narrow_1).before #[Value.ref b] s = true
/-! THE START: what the Statement gives of the law's first state, as the constants of the small machine -/
theorem zX_of {args : Array Value} {s : State} {tm : Term} {N : Nat} {f : Nat → Int32} (hN : N < 2 ^ 31) (harr : (Cond.arrayOf tm .int).before args s = true) (hlen : (Term.length tm).eval args s none [] s = some (.int (Int32.ofNat N))) (hel : ∀ j : Nat, j < N → (Term.elem tm (.int (Int32.ofNat j))).eval args s none [] s = some (.int (f j))) : ∃ t : Nat, tm.eval args s none [] s = some (.ref t) ∧ va_X t N f s s.heap ∧ t < s.heap.size := by
  obtain ⟨t, cell, ht, hat, hsz, hv⟩ := Jvm.Lib.length_spec hlen
  obtain ⟨hcell, hkn, -, -⟩ := State.arrayAt?_spec hat
  obtain ⟨hof, -⟩ := Cond.arrayOf_spec harr ht hcell
  have hn : cell.slots.size = N := by
    have hq1 := congrArg Int32.toInt (Value.int.inj hv)
    have hq2 : (Int32.ofNat N).toInt = (N : Int) := nI_toInt hN
    have hq3 : (cell.slots.size.toInt32).toInt = (cell.slots.size : Int) := nI_toInt hsz
    rw [hq2, hq3] at hq1
    omega
  refine ⟨t, ht, ⟨cell, hcell, hof, hkn, hn, fun j hj => ?_⟩, (Array.getElem?_eq_some_iff.mp hcell).1⟩
  obtain ⟨a, i, cell2, h1, h2, h3, h4, hq5⟩ := Term.elem_spec (hel j hj)
  cases ht.symm.trans h1
  cases hat.symm.trans h3
  have hi : i = Int32.ofNat j := by
    have hqe : (Term.int (Int32.ofNat j)).eval args s none [] s = some (.int (Int32.ofNat j)) := rfl
    cases h2.symm.trans hqe
    rfl
  have hc : i.toNatClampNeg = j := by rw [hi]; exact Int32.toNatClampNeg_ofNat_of_lt (Nat.lt_trans hj hN)
  rw [hc] at hq5
  exact hq5
def zTm (i : Nat) : Term := .string "CircuitReels$Pad" (66 + 2 * i)
def zGi : MG := (0, 0, fun _ => (99, 0), fun _ _ => none)
theorem zStat {s : State} {b : Nat} (hgv : ∀ w ∈ flatC (Jvm.Cond.and given_1 narrow_1), w.before #[Value.ref b] s = true) (c : Nat) (h2 : 2 ≤ c) (h5 : c < 5) : ∃ t : Nat, (Term.static "CircuitReels" (zStN c) "[I").eval #[Value.ref b] s none [] s = some (.ref t) ∧ va_X t 5 (fun j => Int32.ofInt (mk_int (0, fun _ => 0) c j)) s s.heap ∧ t < s.heap.size := by
  have key : (∀ c, c < 5 → 2 ≤ c → Cond.arrayOf (.static "CircuitReels" (zStN c) "[I") .int ∈ flatC (Jvm.Cond.and given_1 narrow_1) ∧ Cond.eq (.length (.static "CircuitReels" (zStN c) "[I")) (.int (Int32.ofNat 5)) ∈ flatC (Jvm.Cond.and given_1 narrow_1) ∧ ∀ j, j < 5 → Cond.eq (.elem (.static "CircuitReels" (zStN c) "[I") (.int (Int32.ofNat j))) (.int (Int32.ofInt (mk_int (0, fun _ => 0) c j))) ∈ flatC (Jvm.Cond.and given_1 narrow_1)) := by decide +kernel
  obtain ⟨hq1, hq2, hq3⟩ := key c h5 h2
  exact zX_of (by decide) (hgv _ hq1) (va_eqt (hgv _ hq2)) (fun j hj => va_eqt (hgv _ (hq3 j hj)))
theorem zLk_of {s : State} {b : Nat} (hts : ∀ w ∈ lw_tbl, w.before #[Value.ref b] s = true) {w : Cond} (i : Nat) (hw : lw_tbl[i]? = some w) : w.before #[Value.ref b] s = true := hts w (List.mem_of_getElem? hw)
theorem zLd_start {p : Program} {e : Env} {s : State} {m : MethodId} {below : List Frame} {meth : Method} {c : Code} (l : Launch) {b L : Nat} {xs : Nat → Int32} (hL : L ≤ 2560) (C0 : lw_At p s m meth c b L xs)
    (hW : Wp (L, fun j => (xs j).toInt) 153 0 [some (mK 5), none, none, none] [] zGi (fun _ _ => 0) (fun r g' μ' => r = some (mI 1) ∧ g'.1 ≤ 600000 ∧ g'.2.1 ≤ 7302250)) :
    W p l e room_1 s m #[Value.ref b] below meth c s.heap [] 0 0 (lw_Z below #[Value.ref b] s) (entryFrame m ([Value.ref b] : List Value).toArray 4) := by
  obtain ⟨hx, hb, hr, hml, hown, hts, hX, hbl, hlocks, hgv0⟩ := C0
  have hgv := flat_of_before _ hgv0
  have hA : ∀ a : Nat, a < s.heap.size → ¬ s.heap.size ≤ a := fun a h => Nat.not_le.mpr h
  have hzt : ∀ w ∈ zTbl, w.before #[Value.ref b] s = true := fun w hw => hts w (zTbl_in w hw)
  -- classes
  have hcl : ∀ ci : Nat, ∃ q : ClassId × (Nat → Nat), ci < 7 → u_Kn s (zCN ci) (zT ci) (mNfs ci) q.1 q.2 := by
    intro ci
    by_cases hci : ci < 7
    · have hI := List.all_eq_true.mp zInst_ok ci (List.mem_range.mpr hci)
      simp only [Bool.and_eq_true, decide_eq_true_eq] at hI
      obtain ⟨cC, iS, hk⟩ := u_known (n := mNfs ci) hzt (zU_in hci) (hzt _ (zTbl_of hI.1.1.1 hI.1.1.2))
      exact ⟨(cC, iS), fun _ => hk⟩
    · exact ⟨(0, fun _ => 0), fun h => absurd h hci⟩
  obtain ⟨dd, hdd⟩ := Classical.axiomOfChoice hcl
  -- arrays
  obtain ⟨cI, kI, compI, aI1, aI2, aI3⟩ := Cond.arrayClass_spec (hzt _ zArI)
  obtain ⟨cC, kC, compC, aC1, aC2, aC3⟩ := Cond.arrayClass_spec (hzt _ zArC)
  obtain ⟨cZ, kZ, compZ, aZ1, aZ2, aZ3⟩ := Cond.arrayClass_spec (hzt _ zArZ)
  have hO : (Cond.arrayOver (.object RX0)).before #[Value.ref b] s = true := zLk_of hts 253 (by decide +kernel)
  have hR : (Cond.arrayOver (.object RX4)).before #[Value.ref b] s = true := zLk_of hts 159 (by decide +kernel)
  obtain ⟨compO, cO, kO, aO1, -, aO3, aO4, aO5⟩ := Cond.arrayOver_spec hO
  obtain ⟨compR, cR, kR, aR1, -, aR3, aR4, aR5⟩ := Cond.arrayOver_spec hR
  -- statics, texts
  have hst : ∀ c : Nat, ∃ t : Nat, 2 ≤ c → c < 5 → (Term.static "CircuitReels" (zStN c) "[I").eval #[Value.ref b] s none [] s = some (.ref t) ∧ va_X t 5 (fun j => Int32.ofInt (mk_int (0, fun _ => 0) c j)) s s.heap ∧ t < s.heap.size := by
    intro c
    by_cases hc : 2 ≤ c ∧ c < 5
    · obtain ⟨t, ht⟩ := zStat hgv c hc.1 hc.2
      exact ⟨t, fun _ _ => ht⟩
    · exact ⟨0, fun z1 z2 => absurd ⟨z1, z2⟩ hc⟩
  obtain ⟨ad, had⟩ := Classical.axiomOfChoice hst
  have htx : (∀ i, i < 6 → Cond.exactly (zTm i) "java/lang/String" ∈ flatC (Jvm.Cond.and given_1 narrow_1) ∧ Cond.eq (.field (zTm i) "java/lang/String" "coder" "B") (.int 0) ∈ flatC (Jvm.Cond.and given_1 narrow_1) ∧ Cond.arrayOf (.field (zTm i) "java/lang/String" "value" "[B") .byte ∈ flatC (Jvm.Cond.and given_1 narrow_1) ∧ Cond.eq (.length (.field (zTm i) "java/lang/String" "value" "[B")) (.int (Int32.ofNat (zLen.getD i 0))) ∈ flatC (Jvm.Cond.and given_1 narrow_1)) := by decide +kernel
  have htx2 : (∀ i, i < 6 → ∀ j, j < zLen.getD i 0 → Cond.eq (.elem (.field (zTm i) "java/lang/String" "value" "[B") (.int (Int32.ofNat j))) (.int ((zByt.getD i []).getD j 0)) ∈ flatC (Jvm.Cond.and given_1 narrow_1)) := by decide +kernel
  have htx3 : (∀ i, i < 6 → ∀ j, j < 6 → i ≠ j → Cond.not (.eq (zTm i) (zTm j)) ∈ flatC (Jvm.Cond.and given_1 narrow_1) ∨ Cond.not (.eq (zTm j) (zTm i)) ∈ flatC (Jvm.Cond.and given_1 narrow_1)) := by decide +kernel
  obtain ⟨adK, adV, hvk, hvt⟩ := vk_Sof (N := 6) (tm := zTm) (len := zLen) (byt := zByt) (A := fun q => s.heap.size ≤ q) (by decide) (fun i hi => hgv _ (htx i hi).1) (fun i hi => hgv _ (htx i hi).2.1) (fun i hi => hgv _ (htx i hi).2.2.1) (fun i hi => hgv _ (htx i hi).2.2.2) (fun i hi j hj => hgv _ (htx2 i hi j hj)) (fun i j hi hj hij => (htx3 i hi j hj hij).elim (fun z => Or.inl (hgv _ z)) (fun z => Or.inr (hgv _ z))) hA
  obtain ⟨fo, hfo⟩ : ∃ fo : Option Nat, va_Z "jdk/internal/util/Preconditions" "SIOOBE_FORMATTER" "Ljava/util/function/BiFunction;" (va_rf fo) (fun q => s.heap.size ≤ q) s s.heap := by
    rcases va_Zqof (zLk_of hts 624 (by decide +kernel)) (zLk_of hts 67 (by decide +kernel)) (hgv (Cond.isRef (.static "jdk/internal/util/Preconditions" "SIOOBE_FORMATTER" "Ljava/util/function/BiFunction;")) (by decide +kernel)) hA with hz | ⟨t, hz⟩
    · exact ⟨none, hz⟩
    · exact ⟨some t, hz⟩
  generalize hk : ((s.heap.size, (fun t => if t = 10 then cI else if t = 11 then cC else if t = 12 then cZ else if t = 13 then cO else cR), (fun c => if c = 5 then b else ad c), adK, adV, fo) : ZK) = k
  have hk1 : k.1 = s.heap.size := by rw [← hk]
  have hzA : zA k = fun q => s.heap.size ≤ q := by unfold zA; rw [hk1]
  have hE : ((L, fun j => (xs j).toInt) : ME).1 < 2147483648 ∧ ∀ j, -2147483648 ≤ ((L, fun j => (xs j).toInt) : ME).2 j ∧ ((L, fun j => (xs j).toInt) : ME).2 j < 2147483648 := ⟨by show L < _; omega, fun j => zn_rng (xs j)⟩
  have hK : va_K ((fun ci => (dd ci).1), (fun ci => (dd ci).2)) vwCl (zTys k) s := by
    refine ⟨fun ci q hq => ?_, fun j q hq => ?_⟩
    · have hci : ci < 7 := (List.getElem?_eq_some_iff.mp hq).1
      have hq2 := zCl_ok ci hci
      rw [hq2] at hq
      cases hq
      exact hdd ci hci
    · rw [← hk] at hq
      have hj : j < 5 := (List.getElem?_eq_some_iff.mp hq).1
      match j, hj with
      | 0, _ => cases hq; exact ⟨fun n z => ⟨fun _ h => (by cases h), kI, aI2, compI, aI3⟩, aI1⟩
      | 1, _ => cases hq; exact ⟨fun n z => ⟨fun _ h => (by cases h), kC, aC2, compC, aC3⟩, aC1⟩
      | 2, _ => cases hq; exact ⟨fun n z => ⟨fun _ h => (by cases h), kZ, aZ2, compZ, aZ3⟩, aZ1⟩
      | 3, _ => cases hq; exact ⟨fun n z => ⟨fun _ h => (by cases h), kO, aO3, compO, aO4⟩, kO, compO, aO3, aO4, aO1, aO5⟩
      | 4, _ => cases hq; exact ⟨fun n z => ⟨fun _ h => (by cases h), kR, aR3, compR, aR4⟩, kR, compR, aR3, aR4, aR1, aR5⟩
  have hnm : ∀ q ∈ zNM, lw_tbl.contains (.methodLinkNest q.1 q.2.1 q.2.2 "CircuitReels") = true := by decide +kernel
  have hnf : ∀ q ∈ zNF, lw_tbl.contains (.fieldLinkNest "CircuitReels$Circuit" q.1 "CircuitReels" (zStN q.2) "[I" "CircuitReels") = true := by decide +kernel
  have hC : zC (L, fun j => (xs j).toInt) k s s.heap := by
    refine ⟨fun q hq => va_Nw.of rfl (hts _ (List.contains_iff_mem.mp (hnm q hq))), fun q hq => va_Nw.of rfl (hts _ (List.contains_iff_mem.mp (hnf q hq))), ⟨va_AO.of hO, va_AO.of hR⟩, fun c hq2 hq5 => ?_, fun c hq2 hq6 => ?_, ?_, ?_, ?_, fun i hi => ?_, by rw [hk1]; exact Nat.le_refl _⟩
    · rw [hzA, ← hk]
      show va_Z _ _ _ (.ref (if c = 5 then b else ad c)) _ _ _
      rw [if_neg (by omega)]
      have hls : ∀ c, c < 5 → 2 ≤ c → lw_tbl.contains (.laysStatic "CircuitReels" (zStN c) "[I") = true := by decide +kernel
      exact va_Zof (hts _ (List.contains_iff_mem.mp (hls c hq5 hq2))) (zLk_of hts 54 (by decide +kernel)) (had c hq2 hq5).1 hA
    · rw [hk1, ← hk]
      show va_X (if c = 5 then b else ad c) _ _ _ _ ∧ (if c = 5 then b else ad c) < _ ∧ (if c = 5 then b else ad c) < _
      by_cases hc5 : c = 5
      · subst hc5
        rw [if_pos rfl]
        refine ⟨?_, hbl, hbl⟩
        have he : (fun j => Int32.ofInt (mk_int (L, fun j => (xs j).toInt) 5 j)) = xs := by
          funext j
          show Int32.ofInt (xs j).toInt = xs j
          exact zn_of _
        rw [he]
        exact hX
      · rw [if_neg hc5]
        obtain ⟨hq7, hq8, hq9⟩ := had c hq2 (by omega)
        refine ⟨?_, hq9, hq9⟩
        have he : mk_len (L, fun j => (xs j).toInt) c = 5 := by unfold mk_len; rw [if_neg hc5, if_pos (by omega)]
        have he2 : (fun j => Int32.ofInt (mk_int (L, fun j => (xs j).toInt) c j)) = fun j => Int32.ofInt (mk_int (0, fun _ => 0) c j) := by
          funext j
          have : c = 2 ∨ c = 3 ∨ c = 4 := by omega
          rcases this with rfl | rfl | rfl <;> rfl
        rw [he, he2]
        exact hq8
    · rw [hzA]
      exact va_Zof (zLk_of hts 608 (by decide +kernel)) (zLk_of hts 65 (by decide +kernel)) (va_eqi (hgv _ (by decide +kernel))) hA
    · rw [hzA, ← hk]
      exact hfo
    · rw [hzA, ← hk]
      exact hvk
    · have hsr : ∀ i, i < 6 → lw_tbl.contains (.stringRef "CircuitReels$Pad" (66 + 2 * i) (zTxt.getD i "")) = true := by decide +kernel
      rw [← hk]
      exact vk_R.of (hts _ (List.contains_iff_mem.mp (hsr i hi))) (by
        have := hvt i hi
        rw [Term.string_eval_of_vm (args := #[]) (rfl : s.vm = s.vm)]
        exact this)
  obtain ⟨n, ⟨r, g', μ'⟩, hrun, hrr, hg1, hg2⟩ := hW
  dsimp only at hrr hg1 hg2
  subst hrr
  rw [lg_entry_eq]
  have hH0 : zH ((fun ci => (dd ci).1), (fun ci => (dd ci).2)) k zGi (fun _ _ => 0) s.heap := by
    refine ⟨fun i q hq => ?_, fun _ _ => ⟨by show (-2147483648 : Int) ≤ 0; decide, by show (0 : Int) < 2147483648; decide⟩, fun a => Or.inr ⟨Nat.zero_le _, rfl⟩⟩
    have hnil : zWs k zGi (fun _ _ => 0) = [] := rfl
    rw [hnil] at hq
    cases hq
  have hv5 : zs k [mK 5] [Value.ref b] := ⟨_, _, rfl, by rw [← hk]; rfl, rfl⟩
  refine zMain hE n 153 0 [some (mK 5), none, none, none] [] zGi (fun _ _ => 0) _ g' μ' (by decide) hrun p e room_1 s m _ below meth c _ ⟨hx, hb, hzt, hown, hK, hC, hml, ⟨by decide, by decide⟩, fun hz => by cases hz⟩ ?_ s.heap [] 0 0 _ _ (zEnt_ok (n := 4) (as := [mK 5]) hv5 (by decide)) rfl hH0 va_S.rf (by rw [hk1]; rfl) (by show 0 + (g'.1 - 0) ≤ 600000; omega) (by show 0 + (g'.2.1 - 0) ≤ 7302250; omega)
  intro pc len i mls mst ls st H locs cells slots hd hlen hs hst hH hS hcl' hsl'
  rcases mRet_of hs with ⟨rfl, hq⟩ | ⟨rfl, hq⟩ | ⟨rfl, hq⟩
  · have hl1 : len = 1 := zlen hlen (by decide)
    subst hl1
    unfold s_iret at hq
    split at hq
    · split at hq
      · cases hq
      · rename_i v hno
        cases hq
        obtain ⟨_, st', rfl, ⟨x, rfl, hx1⟩, h3⟩ := hst
        rw [show st' = [] from h3]
        have hx2 : x = 1 := Int32.toInt_inj.mp hx1
        subst hx2
        refine va_forget (fun q hq => ?_) ?_
        · have := hS.2.2 q hq
          rw [hzA] at this
          exact this
        · exact W.widen hcl' hsl' (lw_ret hx hb hr hlocks hd)
    · cases hq
  · unfold s_aret at hq
    (repeat' split at hq) <;> cases hq
  · unfold s_vret at hq
    (repeat' split at hq) <;> cases hq
