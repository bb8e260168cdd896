/-! THE SMALL MACHINE: values are whole numbers, rows of whole numbers, places of objects; the class's own bytes are read by it. -/
abbrev MV : Type := Int ⊕ (Int ⊕ (Nat ⊕ Nat))
abbrev mI (v : Int) : MV := .inl v
abbrev mL (v : Int) : MV := .inr (.inl v)
abbrev mR (a : Nat) : MV := .inr (.inr (.inl a))
abbrev mK (c : Nat) : MV := .inr (.inr (.inr c))
abbrev MLs : Type := List (Option MV)
/-- the frozen part of a heap: how many cells, how many slots, the kind of each cell (class, 0) or (10.. , length), the references in it -/
abbrev MG : Type := Nat × Nat × (Nat → Nat × Nat) × (Nat → Nat → Option Nat)
abbrev MU : Type := Nat → Nat → Int
abbrev ME : Type := Nat × (Nat → Int)
def mKd (g : MG) (a : Nat) : Nat × Nat := g.2.2.1 a
def mRf (g : MG) (a k : Nat) : Option Nat := g.2.2.2 a k
def mWr (z : Int) : Int := z.bmod 4294967296
def mW6 (z : Int) : Int := z.bmod 18446744073709551616
def mL32 (f : Int32 → Int32 → Int32) (a b : Int) : Int := (f (Int32.ofInt a) (Int32.ofInt b)).toInt
def mL64 (f : Int64 → Int64 → Int64) (a b : Int) : Int := (f (Int64.ofInt a) (Int64.ofInt b)).toInt
def mUp (μ : MU) (a i : Nat) (v : Int) : MU := fun x j => if x = a ∧ j = i then v else μ x j
def mCpy (μ : MU) (a0 sp a dp n : Nat) : MU := fun x j => if x = a ∧ dp ≤ j ∧ j < dp + n then μ a0 (sp + (j - dp)) else μ x j
def mCpc (μ : MU) (f : Nat → Int) (a n : Nat) : MU := fun x j => if x = a ∧ j < n then f j else μ x j
def mRv : Option Nat → MV
  | none => mK 0
  | some b => mR b
def mPush : Option MV → List MV → List MV
  | none, st => st
  | some v, st => v :: st
/-- constants: 0 null, 1 a formatter, 2 .. 4 rows of the class's statics, 5 the script, 10 .. 15 texts, 20 .. 25 their bytes -/
def mk_txt (c : Nat) : List Int := ([[100, 64, 100, 37, 110], [100, 64, 100, 58, 110, 42, 110], [100, 100, 61, 110], [100, 47, 100, 58, 110], [110], []] : List (List Int)).getD c []
def mk_len (E : ME) (c : Nat) : Nat := if c = 5 then E.1 else if c < 5 then 5 else (mk_txt (c - 20)).length
def mk_int (E : ME) (c i : Nat) : Int := if c = 2 then ([15, 5, 10, 3, 5] : List Int).getD i 0 else if c = 3 then ([1, 0, 0, 0, 0] : List Int).getD i 0 else if c = 4 then ([60, 60, 60, 9, 99] : List Int).getD i 0 else E.2 i
def mk_isI (c : Nat) : Bool := c == 2 || c == 3 || c == 4 || c == 5
def mk_isB (c : Nat) : Bool := 20 ≤ c && c < 26
def mk_isS (c : Nat) : Bool := 10 ≤ c && c < 16
/-- 0 a whole number, 1 a char, 2 true or false, 3 a reference -/
def mFty (ci k : Nat) : Nat := (([[3, 3, 0, 3, 3, 3, 3, 0, 3, 3, 3, 3], [3, 0, 0], [3, 3, 0, 0, 1, 0], [3, 3, 3, 3, 3, 3, 3, 3, 3, 3, 3], [3, 3, 3, 3, 0, 0, 0, 0, 0], [3, 3, 3, 3, 3, 3, 3, 3, 3], [0, 3, 3, 0, 3, 3, 3, 0, 3, 3, 3, 3, 3, 3, 3, 0, 3, 3, 3, 3, 3, 0, 2, 3, 0]] : List (List Nat)).getD ci []).getD k 9
def mNfs (ci : Nat) : Nat := ([12, 3, 6, 11, 9, 9, 25] : List Nat).getD ci 0
def mOk (t : Nat) (v : Int) : Bool := t == 0 || (t == 1 && decide (0 ≤ v) && decide (v < 65536)) || (t == 2 && (decide (v = 0) || decide (v = 1)))
abbrev MCfg : Type := Nat × MLs × List MV × MG × MU
abbrev MReq : Type := MCfg ⊕ ((Nat × List MV × List MV) ⊕ Option MV)
def mNx (pc : Nat) (ls : MLs) (st : List MV) (g : MG) (μ : MU) : Option MReq := some (.inl (pc, ls, st, g, μ))
def mNl : Option (Option MV) → Bool
  | some (some (.inr (.inl _))) => false
  | _ => true
def mPv (ls : MLs) : Nat → Option (Option MV)
  | 0 => none
  | k + 1 => ls[k]?
def mJmp (pc : Nat) (off : Int) : Nat := ((pc : Int) + off).toNat
def s_ldi (ls : MLs) (k pc : Nat) (st : List MV) (g : MG) (μ : MU) : Option MReq := match ls[k]? with
  | some (some (.inl v)) => mNx pc ls (mI v :: st) g μ
  | _ => none
def s_ldl (ls : MLs) (k pc : Nat) (st : List MV) (g : MG) (μ : MU) : Option MReq := match ls[k]? with
  | some (some (.inr (.inl v))) => mNx pc ls (mL v :: st) g μ
  | _ => none
def s_lda (ls : MLs) (k pc : Nat) (st : List MV) (g : MG) (μ : MU) : Option MReq := match ls[k]? with
  | some (some (.inr (.inr v))) => mNx pc ls (.inr (.inr v) :: st) g μ
  | _ => none
def s_sti (ls : MLs) (k pc : Nat) (st : List MV) (g : MG) (μ : MU) : Option MReq := match st with
  | .inl v :: st => if k < ls.length ∧ mNl (mPv ls k) = true ∧ mNl ls[k]? = true then mNx pc (ls.set k (some (mI v))) st g μ else none
  | _ => none
def s_stl (ls : MLs) (k pc : Nat) (st : List MV) (g : MG) (μ : MU) : Option MReq := match st with
  | .inr (.inl v) :: st => if k + 1 < ls.length ∧ mNl (mPv ls k) = true ∧ mNl ls[k + 1]? = true then mNx pc ((ls.set k (some (mL v))).set (k + 1) none) st g μ else none
  | _ => none
def s_sta (ls : MLs) (k pc : Nat) (st : List MV) (g : MG) (μ : MU) : Option MReq := match st with
  | .inr (.inr v) :: st => if k < ls.length ∧ mNl (mPv ls k) = true ∧ mNl ls[k]? = true then mNx pc (ls.set k (some (.inr (.inr v)))) st g μ else none
  | _ => none
def s_inc (ls : MLs) (k : Nat) (n : Int) (pc : Nat) (st : List MV) (g : MG) (μ : MU) : Option MReq := match ls[k]? with
  | some (some (.inl v)) => if mNl (mPv ls k) = true then mNx pc (ls.set k (some (mI (mWr (v + n))))) st g μ else none
  | _ => none
def s_bin (f : Int → Int → Int) (ls : MLs) (pc : Nat) (st : List MV) (g : MG) (μ : MU) : Option MReq := match st with
  | .inl b :: .inl a :: st => mNx pc ls (mI (f a b) :: st) g μ
  | _ => none
def s_div (f : Int → Int → Int) (ls : MLs) (pc : Nat) (st : List MV) (g : MG) (μ : MU) : Option MReq := match st with
  | .inl b :: .inl a :: st => if b = 0 then none else mNx pc ls (mI (f a b) :: st) g μ
  | _ => none
def s_lbin (f : Int → Int → Int) (ls : MLs) (pc : Nat) (st : List MV) (g : MG) (μ : MU) : Option MReq := match st with
  | .inr (.inl b) :: .inr (.inl a) :: st => mNx pc ls (mL (f a b) :: st) g μ
  | _ => none
def s_lsh (f : Int → Int → Int) (ls : MLs) (pc : Nat) (st : List MV) (g : MG) (μ : MU) : Option MReq := match st with
  | .inl b :: .inr (.inl a) :: st => mNx pc ls (mL (f a b) :: st) g μ
  | _ => none
def s_lcmp (ls : MLs) (pc : Nat) (st : List MV) (g : MG) (μ : MU) : Option MReq := match st with
  | .inr (.inl b) :: .inr (.inl a) :: st => mNx pc ls (mI (if a < b then -1 else if a = b then 0 else 1) :: st) g μ
  | _ => none
def s_i2l (ls : MLs) (pc : Nat) (st : List MV) (g : MG) (μ : MU) : Option MReq := match st with
  | .inl a :: st => mNx pc ls (mL a :: st) g μ
  | _ => none
def s_l2i (ls : MLs) (pc : Nat) (st : List MV) (g : MG) (μ : MU) : Option MReq := match st with
  | .inr (.inl a) :: st => mNx pc ls (mI (mWr a) :: st) g μ
  | _ => none
def s_i2c (ls : MLs) (pc : Nat) (st : List MV) (g : MG) (μ : MU) : Option MReq := match st with
  | .inl a :: st => mNx pc ls (mI (a % 65536) :: st) g μ
  | _ => none
def mC1 : MV → Bool
  | .inr (.inl _) => false
  | _ => true
def s_dup (ls : MLs) (pc : Nat) (st : List MV) (g : MG) (μ : MU) : Option MReq := match st with
  | v :: st => if mC1 v = true then mNx pc ls (v :: v :: st) g μ else none
  | _ => none
def s_dup2 (ls : MLs) (pc : Nat) (st : List MV) (g : MG) (μ : MU) : Option MReq := match st with
  | v :: w :: st => if mC1 v = true ∧ mC1 w = true then mNx pc ls (v :: w :: v :: w :: st) g μ else none
  | _ => none
def s_pop (ls : MLs) (pc : Nat) (st : List MV) (g : MG) (μ : MU) : Option MReq := match st with
  | v :: st => if mC1 v = true then mNx pc ls st g μ else none
  | _ => none
def mHb (c : ClassFile.Cond) (a b : Int) : Bool := match c with
  | .eq => decide (a = b)
  | .ne => !decide (a = b)
  | .lt => decide (a < b)
  | .ge => decide (b ≤ a)
  | .gt => decide (b < a)
  | .le => decide (a ≤ b)
def s_if (c : ClassFile.Cond) (off : Int) (ls : MLs) (pc len : Nat) (st : List MV) (g : MG) (μ : MU) : Option MReq := match st with
  | .inl a :: st => if (pc : Int) + off < 0 then none else if mHb c a 0 = true then mNx (mJmp pc off) ls st g μ else mNx (pc + len) ls st g μ
  | _ => none
def s_icmp (c : ClassFile.Cond) (off : Int) (ls : MLs) (pc len : Nat) (st : List MV) (g : MG) (μ : MU) : Option MReq := match st with
  | .inl b :: .inl a :: st => if (pc : Int) + off < 0 then none else if mHb c a b = true then mNx (mJmp pc off) ls st g μ else mNx (pc + len) ls st g μ
  | _ => none
def s_tsw (dflt lo hi : Int) (offs : Array Int) (ls : MLs) (pc : Nat) (st : List MV) (g : MG) (μ : MU) : Option MReq := match st with
  | .inl a :: st => if a < lo ∨ hi < a then (if (pc : Int) + dflt < 0 then none else mNx (mJmp pc dflt) ls st g μ) else match offs[(a - lo).toNat]? with
    | some off => if (pc : Int) + off < 0 then none else mNx (mJmp pc off) ls st g μ
    | none => none
  | _ => none
def s_lsw (dflt : Int) (ps : Array (Int × Int)) (ls : MLs) (pc : Nat) (st : List MV) (g : MG) (μ : MU) : Option MReq := match st with
  | .inl a :: st => if ((ps.toList.zip (ps.toList.drop 1)).all (fun (a, next) => a.1 < next.1) = true) ∧ ¬ (pc : Int) + Op.lookupswitch.offset ps.toList dflt a < 0 then mNx (mJmp pc (Op.lookupswitch.offset ps.toList dflt a)) ls st g μ else none
  | _ => none
def s_alen (E : ME) (ls : MLs) (pc : Nat) (st : List MV) (g : MG) (μ : MU) : Option MReq := match st with
  | .inr (.inr (.inl a)) :: st => if 10 ≤ (mKd g a).1 ∧ (mKd g a).1 < 15 then mNx pc ls (mI (mKd g a).2 :: st) g μ else none
  | .inr (.inr (.inr c)) :: st => if mk_isI c = true ∨ mk_isB c = true then mNx pc ls (mI (mk_len E c) :: st) g μ else none
  | _ => none
def s_ald (t : Nat) (E : ME) (ls : MLs) (pc : Nat) (st : List MV) (g : MG) (μ : MU) : Option MReq := match st with
  | .inl i :: .inr (.inr (.inl a)) :: st => if (mKd g a).1 = t ∧ 0 ≤ i ∧ i < (mKd g a).2 then mNx pc ls (mI (μ a i.toNat) :: st) g μ else none
  | .inl i :: .inr (.inr (.inr c)) :: st => if 0 ≤ i ∧ i < mk_len E c then (if t = 10 ∧ mk_isI c = true then mNx pc ls (mI (mk_int E c i.toNat) :: st) g μ else if t = 12 ∧ mk_isB c = true then mNx pc ls (mI ((mk_txt (c - 20)).getD i.toNat 0) :: st) g μ else none) else none
  | _ => none
def s_ast (t ty : Nat) (ls : MLs) (pc : Nat) (st : List MV) (g : MG) (μ : MU) : Option MReq := match st with
  | .inl v :: .inl i :: .inr (.inr (.inl a)) :: st => if (mKd g a).1 = t ∧ 0 ≤ i ∧ i < (mKd g a).2 ∧ mOk ty v = true then mNx pc ls st g (mUp μ a i.toNat v) else none
  | _ => none
def s_aald (ls : MLs) (pc : Nat) (st : List MV) (g : MG) (μ : MU) : Option MReq := match st with
  | .inl i :: .inr (.inr (.inl a)) :: st => if ((mKd g a).1 = 13 ∨ (mKd g a).1 = 14) ∧ 0 ≤ i ∧ i < (mKd g a).2 then mNx pc ls (mRv (mRf g a i.toNat) :: st) g μ else none
  | _ => none
def mSetR (g : MG) (a k : Nat) (v : Option Nat) : MG := (g.1, g.2.1, g.2.2.1, fun x j => if x = a ∧ j = k then v else g.2.2.2 x j)
def s_aast (ls : MLs) (pc : Nat) (st : List MV) (g : MG) (μ : MU) : Option MReq := match st with
  | .inr (.inr (.inl b)) :: .inl i :: .inr (.inr (.inl a)) :: st => if (((mKd g a).1 = 13 ∧ (mKd g b).1 = 0) ∨ ((mKd g a).1 = 14 ∧ (mKd g b).1 = 4)) ∧ 0 ≤ i ∧ i < (mKd g a).2 then mNx pc ls st (mSetR g a i.toNat (some b)) μ else none
  | _ => none
/-- a new cell -/
def mGrow (g : MG) (k : Nat × Nat) (sl : Nat) : MG := (g.1 + 1, g.2.1 + sl, (fun x => if x = g.1 then k else g.2.2.1 x), fun x j => if x = g.1 then none else g.2.2.2 x j)
def mZero (μ : MU) (a : Nat) : MU := fun x j => if x = a then 0 else μ x j
def s_newa (t : Nat) (ls : MLs) (pc : Nat) (st : List MV) (g : MG) (μ : MU) : Option MReq := match st with
  | .inl n :: st => if 0 ≤ n ∧ n < 2000 then mNx pc ls (mR g.1 :: st) (mGrow g (t, n.toNat) n.toNat) (mZero μ g.1) else none
  | _ => none
def s_new (ci : Nat) (ls : MLs) (pc : Nat) (st : List MV) (g : MG) (μ : MU) : Option MReq := mNx pc ls (mR g.1 :: st) (mGrow g (ci, 0) (mNfs ci)) (mZero μ g.1)
def s_anew (ci : Nat) (ls : MLs) (pc : Nat) (st : List MV) (g : MG) (μ : MU) : Option MReq := match st with
  | .inl n :: st => if 0 ≤ n ∧ n < 2000 ∧ (ci = 0 ∨ ci = 4) then mNx pc ls (mR g.1 :: st) (mGrow g (if ci = 0 then 13 else 14, n.toNat) n.toNat) (mZero μ g.1) else none
  | _ => none
def s_get (ci k : Nat) (ls : MLs) (pc : Nat) (st : List MV) (g : MG) (μ : MU) : Option MReq := match st with
  | .inr (.inr (.inl a)) :: st => if (mKd g a).1 = ci ∧ k < mNfs ci then (if mFty ci k = 3 then mNx pc ls (mRv (mRf g a k) :: st) g μ else mNx pc ls (mI (μ a k) :: st) g μ) else none
  | .inr (.inr (.inr c)) :: st => if ci = 7 ∧ mk_isS c = true then (if k = 0 then mNx pc ls (mK (c + 10) :: st) g μ else if k = 1 then mNx pc ls (mI 0 :: st) g μ else none) else none
  | _ => none
def s_put (ini : Bool) (ci k : Nat) (ls : MLs) (pc : Nat) (st : List MV) (g : MG) (μ : MU) : Option MReq := match st with
  | .inl v :: .inr (.inr (.inl a)) :: st => if (mKd g a).1 = ci ∧ k < mNfs ci ∧ ¬ mFty ci k = 3 ∧ mOk (mFty ci k) v = true then mNx pc ls st g (mUp μ a k v) else none
  | .inr (.inr (.inl b)) :: .inr (.inr (.inl a)) :: st => if (mKd g a).1 = ci ∧ k < mNfs ci ∧ mFty ci k = 3 ∧ ini = true then mNx pc ls st (mSetR g a k (some b)) μ else none
  | _ => none
def s_copy (ls : MLs) (pc : Nat) (st : List MV) (g : MG) (μ : MU) : Option MReq := match st with
  | .inl n :: .inl dp :: .inr (.inr (.inl a)) :: .inl sp :: .inr (.inr (.inl a0)) :: st => if (mKd g a).1 = 10 ∧ (mKd g a0).1 = 10 ∧ 0 ≤ sp ∧ 0 ≤ dp ∧ 0 ≤ n ∧ sp + n ≤ (mKd g a0).2 ∧ dp + n ≤ (mKd g a).2 ∧ st.length ≤ 4 then mNx pc ls st g (mCpy μ a0 sp.toNat a dp.toNat n.toNat) else none
  | .inl n :: .inl dp :: .inr (.inr (.inl a)) :: .inl sp :: .inr (.inr (.inr c)) :: st => if (mKd g a).1 = 10 ∧ c = 2 ∧ sp = 0 ∧ dp = 0 ∧ 0 ≤ n ∧ n ≤ 5 ∧ n ≤ (mKd g a).2 ∧ st.length ≤ 4 then mNx pc ls st g (mCpc μ (fun i => ([15, 5, 10, 3, 5] : List Int).getD i 0) a n.toNat) else none
  | _ => none
def s_oin (ls : MLs) (pc : Nat) (st : List MV) (g : MG) (μ : MU) : Option MReq := match st with
  | .inr (.inr (.inl _)) :: st => if st.length ≤ 4 then mNx pc ls st g μ else none
  | _ => none
def mEntL : List MV → MLs
  | [] => []
  | .inl v :: l => some (.inl v) :: mEntL l
  | .inr (.inl v) :: l => some (.inr (.inl v)) :: none :: mEntL l
  | .inr (.inr v) :: l => some (.inr (.inr v)) :: mEntL l
def mEnt (n : Nat) (as : List MV) : MLs := mEntL as ++ List.replicate (n - (mEntL as).length) none
/-- a receiver of a class -/
def mRcv (c : Nat) (g : MG) : List MV → Bool
  | .inr (.inr (.inl a)) :: _ => (mKd g a).1 == c
  | .inr (.inr (.inr k)) :: _ => c == 7 && mk_isS k
  | _ => false
/-- a call: n values from the stack; w: the class of the receiver, 100 for none -/
def s_call (y' n w : Nat) (st : List MV) (g : MG) : Option MReq :=
  if n ≤ st.length ∧ (st.drop n).length ≤ 4 ∧ (w = 100 ∨ mRcv w g (st.take n).reverse = true) then some (.inr (.inl (y', (st.take n).reverse, st.drop n))) else none
def s_iret (t : Nat) (st : List MV) : Option MReq := match st with
  | [.inl v] => if t = 3 ∨ t = 4 ∨ (t = 5 ∧ ¬ (-128 ≤ v ∧ v < 128)) ∨ (¬ t = 5 ∧ mOk t v = false) then none else some (.inr (.inr (some (mI v))))
  | _ => none
def s_aret (t : Nat) (st : List MV) : Option MReq := match st with
  | [.inr (.inr v)] => if t = 3 then some (.inr (.inr (some (.inr (.inr v))))) else none
  | _ => none
def s_vret (t : Nat) (st : List MV) : Option MReq := match st with
  | [] => if t = 4 then some (.inr (.inr none)) else none
  | _ => none
def mB : List ByteArray := [cX0_init, cX0_takeOver, cX0_hasFilm, cX0_hasReel, cX0_hasShow, cX0_minutesBetween, cX0_changeSetting, cX0_addFilm, cX0_changeWay, cX0_lengthenWays, cX0_addShow, cX0_removeShow, cX0_tearReel, cX0_glueReel, cX1_init, cX1_prepare, cX1_keepPrepared, cX1_goBack, cX2_init, cX2_append, cX2_findFault, cX2_readOrder, cX2_shapeOf, cX2_readPart, cX2_readNumber, cX2_readSign, cX2_isDigitNext, cX3_init, cX3_goThrough, cX3_putInOrder, cX3_playShow, cX3_reckon, cX3_allMissed, cX3_lastEnd, cX4_init, cX4_begin, cX4_takeOver, cX4_play, cX4_mend, cX5_init, cX5_set, cX5_film, cX5_way, cX5_show, cX5_drop, cX5_tear, cX5_glue, cX5_recorded, cX5_ofFilm, cX5_ofShow, cX5_shown, cX5_where, cX5_count, cX5_ofHouse, cX5_advert, cX5_firstAdvert, cX5_placeOfReel, cX5_showsWith, cX5_sumWith, cX5_sum, cX5_firstFree, cX5_slower, cX5_playShowsUntil, cX5_noneIsWorse, cX5_put, cX5_wipe, cX5_fault, cX5_carryOut, cX5_carryOutOrders, cX5_carryOutOrder, cX5_undo, cX5_save, cX5_restore, cX5_isError, cX5_isWithin, cX5_isHouse, cX6_init, cX6_in, cX6_film0, cX6_show0, cX6_isFilm, cX6_isShow, cX6_isHouse, cX6_isReel, cX6_records, cX6_wayBetween, cX6_placeOf, cX6_goes, cX6_goesThrough, cX6_runs, cX6_ones, cX6_takings, cX6_givenBack, cX6_kept, cX6_rental, cX6_isSetting, cX6_set, cX6_refusesFilm, cX6_laysFilm, cX6_film, cX6_refusesWay, cX6_laysWay, cX6_way, cX6_refusesShow, cX6_laysShow, cX6_show, cX6_dropsShow, cX6_drop, cX6_refusesTear, cX6_tornFrom, cX6_tear, cX6_glue, cX6_sumOver, cX6_ofFilm, cX6_firstAdvert, cX6_ofShow, cX6_shown, cX6_placeIn, cX6_where, cX6_allCarried, cX6_lastEnd, cX6_count, cX6_ofHouse, cX6_advert, cX6_isFree, cX6_firstFree, cX6_slower, cX6_put, cX6_wipe, cX6_sign, cX6_wants, cX6_digit, cX6_number, cX6_readsOrder, cX6_reads, cX6_fault, cX6_refuses, cX6_does, cX6_carryOut, cX6_undo, cX6_save, cX6_restore, cJ6_bitCount_0f7a4, cJ9_max_7cf53, cJ0_length_8abf5, cJ0_isEmpty_aae02, cJ0_charAt_5068e, cJ0_coder_7d493, cJ0_isLatin1_aae02, cJ0_checkIndex_df160, cJ1_charAt_3b067, cJ7_fill_53178, cJ3_checkIndex_8e157, cL_law]
def mClsT : List Nat := [0, 0, 0, 0, 0, 0, 0, 0, 0, 0, 0, 0, 0, 0, 1, 1, 1, 1, 2, 2, 2, 2, 2, 2, 2, 2, 2, 3, 3, 3, 3, 3, 3, 3, 4, 4, 4, 4, 4, 5, 5, 5, 5, 5, 5, 5, 5, 5, 5, 5, 5, 5, 5, 5, 5, 5, 5, 5, 5, 5, 5, 5, 5, 5, 5, 5, 5, 5, 5, 5, 5, 5, 5, 5, 5, 5, 6, 6, 6, 6, 6, 6, 6, 6, 6, 6, 6, 6, 6, 6, 6, 6, 6, 6, 6, 6, 6, 6, 6, 6, 6, 6, 6, 6, 6, 6, 6, 6, 6, 6, 6, 6, 6, 6, 6, 6, 6, 6, 6, 6, 6, 6, 6, 6, 6, 6, 6, 6, 6, 6, 6, 6, 6, 6, 6, 6, 6, 6, 6, 6, 6, 6, 10, 12, 7, 7, 7, 7, 7, 7, 8, 11, 9, 13]
def mMaxT : List Nat := [2, 2, 2, 3, 2, 3, 4, 4, 5, 3, 5, 3, 5, 4, 2, 2, 1, 2, 1, 7, 2, 3, 1, 2, 4, 2, 1, 2, 3, 4, 5, 5, 4, 4, 1, 3, 2, 7, 4, 2, 3, 4, 4, 5, 2, 4, 3, 2, 3, 3, 3, 4, 2, 3, 3, 3, 9, 5, 6, 4, 6, 3, 6, 5, 3, 2, 1, 2, 3, 2, 1, 2, 2, 1, 3, 1, 2, 3, 3, 3, 2, 2, 1, 3, 2, 3, 5, 11, 4, 4, 3, 2, 2, 2, 2, 2, 4, 4, 6, 5, 3, 5, 5, 5, 6, 6, 3, 2, 4, 4, 6, 4, 8, 3, 2, 3, 3, 9, 4, 3, 3, 2, 3, 4, 4, 8, 3, 8, 2, 1, 2, 2, 3, 4, 1, 1, 2, 2, 2, 2, 3, 3, 1, 2, 1, 1, 2, 1, 1, 2, 2, 4, 3, 4]
def mRetT : List Nat := [4, 4, 2, 2, 2, 0, 0, 0, 0, 4, 0, 0, 0, 0, 4, 4, 4, 0, 4, 0, 0, 2, 3, 2, 2, 2, 2, 4, 4, 4, 4, 4, 0, 0, 4, 4, 4, 4, 0, 4, 0, 0, 0, 0, 0, 0, 0, 0, 0, 0, 0, 0, 0, 0, 0, 0, 0, 0, 0, 0, 0, 0, 0, 2, 0, 0, 0, 0, 0, 0, 0, 0, 0, 2, 2, 2, 4, 2, 0, 0, 2, 2, 2, 2, 4, 0, 0, 0, 4, 4, 0, 0, 0, 0, 0, 2, 0, 0, 0, 0, 0, 0, 0, 0, 0, 0, 0, 0, 0, 0, 0, 0, 0, 0, 0, 0, 0, 0, 0, 0, 0, 0, 0, 0, 2, 0, 0, 0, 0, 0, 4, 0, 0, 4, 0, 0, 0, 4, 0, 0, 0, 0, 0, 0, 0, 2, 1, 5, 2, 4, 1, 4, 0, 2]
def mIniT : List Bool := [true, false, false, false, false, false, false, false, false, false, false, false, false, false, true, false, false, false, true, false, false, false, false, false, false, false, false, true, false, false, false, false, false, false, true, false, false, false, false, true, false, false, false, false, false, false, false, false, false, false, false, false, false, false, false, false, false, false, false, false, false, false, false, false, false, false, false, false, false, false, false, false, false, false, false, false, true, false, false, false, false, false, false, false, false, false, false, false, false, false, false, false, false, false, false, false, false, false, false, false, false, false, false, false, false, false, false, false, false, false, false, false, false, false, false, false, false, false, false, false, false, false, false, false, false, false, false, false, false, false, false, false, false, false, false, false, false, false, false, false, false, false, false, false, false, false, false, false, false, false, false, false, false, false]
def mCellT : List Nat := [10, 0, 0, 0, 0, 0, 0, 0, 0, 0, 0, 0, 0, 0, 78, 0, 0, 0, 2, 0, 0, 0, 0, 0, 0, 0, 0, 36, 0, 0, 0, 0, 0, 0, 4, 0, 0, 0, 0, 175, 0, 0, 0, 0, 0, 0, 0, 0, 0, 0, 0, 0, 0, 0, 0, 0, 0, 0, 0, 0, 0, 0, 0, 0, 0, 0, 0, 0, 0, 0, 0, 0, 0, 0, 0, 0, 18, 0, 0, 0, 0, 0, 0, 0, 0, 0, 0, 0, 0, 0, 0, 0, 0, 0, 0, 0, 0, 0, 0, 0, 0, 0, 0, 0, 0, 0, 0, 0, 0, 0, 0, 0, 0, 0, 0, 0, 0, 0, 0, 0, 0, 0, 0, 0, 0, 0, 0, 0, 0, 0, 0, 0, 0, 0, 0, 0, 0, 0, 0, 0, 0, 0, 0, 0, 0, 0, 0, 0, 0, 0, 0, 0, 0, 0]
def mSlotT : List Nat := [146, 0, 0, 0, 0, 0, 0, 0, 0, 0, 0, 0, 0, 0, 1113, 0, 0, 0, 84, 0, 0, 0, 0, 0, 0, 0, 0, 455, 0, 0, 0, 0, 0, 0, 24, 0, 0, 0, 0, 2374, 0, 0, 0, 0, 0, 0, 0, 0, 0, 0, 0, 0, 0, 0, 0, 0, 0, 0, 0, 0, 0, 0, 0, 0, 0, 0, 0, 0, 0, 0, 0, 0, 0, 0, 0, 0, 2131, 0, 0, 0, 0, 0, 0, 0, 0, 0, 0, 0, 0, 0, 0, 0, 0, 0, 0, 0, 0, 0, 0, 0, 0, 0, 0, 0, 0, 0, 0, 0, 0, 0, 0, 0, 0, 0, 0, 0, 0, 0, 0, 0, 0, 0, 0, 0, 0, 0, 0, 0, 0, 0, 0, 0, 0, 0, 0, 0, 0, 0, 0, 0, 0, 0, 0, 0, 0, 0, 0, 0, 0, 0, 0, 0, 0, 0]
def mFrT : List Nat := [2, 1, 2, 3, 2, 1, 2, 3, 3, 1, 3, 3, 4, 4, 3, 2, 1, 2, 1, 1, 6, 5, 1, 3, 2, 1, 1, 2, 4, 1, 3, 2, 2, 2, 1, 2, 1, 2, 1, 4, 3, 4, 4, 4, 4, 5, 5, 2, 5, 5, 5, 5, 5, 5, 2, 1, 3, 1, 1, 1, 5, 5, 3, 3, 2, 1, 7, 7, 6, 5, 3, 2, 3, 1, 1, 2, 1, 1, 1, 1, 2, 2, 2, 3, 1, 1, 2, 2, 3, 4, 1, 2, 3, 4, 5, 2, 3, 3, 1, 4, 3, 1, 4, 3, 1, 4, 1, 3, 4, 2, 5, 4, 6, 7, 3, 6, 5, 2, 5, 1, 1, 7, 7, 2, 2, 5, 7, 2, 1, 1, 2, 2, 3, 4, 5, 6, 5, 2, 6, 1, 2, 2, 1, 1, 2, 1, 4, 1, 1, 2, 3, 1, 1, 8]
def mLoT : List Nat := [83, 60, 82, 103, 82, 60, 82, 102, 102, 60, 103, 103, 125, 125, 104, 81, 60, 81, 60, 60, 167, 145, 60, 103, 80, 60, 60, 80, 133, 60, 109, 81, 80, 81, 60, 83, 60, 83, 60, 125, 105, 125, 126, 127, 125, 149, 148, 80, 155, 155, 155, 155, 155, 155, 82, 60, 109, 60, 60, 60, 155, 155, 109, 109, 86, 60, 188, 192, 170, 149, 102, 82, 102, 60, 60, 82, 60, 60, 60, 60, 82, 82, 82, 103, 60, 60, 82, 82, 112, 135, 60, 82, 103, 124, 145, 82, 103, 102, 60, 125, 102, 60, 124, 103, 60, 127, 60, 103, 125, 82, 148, 125, 166, 193, 106, 166, 158, 82, 158, 60, 60, 193, 193, 82, 82, 158, 193, 82, 60, 60, 80, 82, 103, 125, 148, 168, 148, 85, 169, 60, 82, 82, 60, 60, 80, 60, 124, 60, 60, 82, 103, 60, 60, 215]
def mNameT : List MethodName := [yX0_init, yX0_takeOver, yX0_hasFilm, yX0_hasReel, yX0_hasShow, yX0_minutesBetween, yX0_changeSetting, yX0_addFilm, yX0_changeWay, yX0_lengthenWays, yX0_addShow, yX0_removeShow, yX0_tearReel, yX0_glueReel, yX1_init, yX1_prepare, yX1_keepPrepared, yX1_goBack, yX2_init, yX2_append, yX2_findFault, yX2_readOrder, yX2_shapeOf, yX2_readPart, yX2_readNumber, yX2_readSign, yX2_isDigitNext, yX3_init, yX3_goThrough, yX3_putInOrder, yX3_playShow, yX3_reckon, yX3_allMissed, yX3_lastEnd, yX4_init, yX4_begin, yX4_takeOver, yX4_play, yX4_mend, yX5_init, yX5_set, yX5_film, yX5_way, yX5_show, yX5_drop, yX5_tear, yX5_glue, yX5_recorded, yX5_ofFilm, yX5_ofShow, yX5_shown, yX5_where, yX5_count, yX5_ofHouse, yX5_advert, yX5_firstAdvert, yX5_placeOfReel, yX5_showsWith, yX5_sumWith, yX5_sum, yX5_firstFree, yX5_slower, yX5_playShowsUntil, yX5_noneIsWorse, yX5_put, yX5_wipe, yX5_fault, yX5_carryOut, yX5_carryOutOrders, yX5_carryOutOrder, yX5_undo, yX5_save, yX5_restore, yX5_isError, yX5_isWithin, yX5_isHouse, yX6_init, yX6_in, yX6_film0, yX6_show0, yX6_isFilm, yX6_isShow, yX6_isHouse, yX6_isReel, yX6_records, yX6_wayBetween, yX6_placeOf, yX6_goes, yX6_goesThrough, yX6_runs, yX6_ones, yX6_takings, yX6_givenBack, yX6_kept, yX6_rental, yX6_isSetting, yX6_set, yX6_refusesFilm, yX6_laysFilm, yX6_film, yX6_refusesWay, yX6_laysWay, yX6_way, yX6_refusesShow, yX6_laysShow, yX6_show, yX6_dropsShow, yX6_drop, yX6_refusesTear, yX6_tornFrom, yX6_tear, yX6_glue, yX6_sumOver, yX6_ofFilm, yX6_firstAdvert, yX6_ofShow, yX6_shown, yX6_placeIn, yX6_where, yX6_allCarried, yX6_lastEnd, yX6_count, yX6_ofHouse, yX6_advert, yX6_isFree, yX6_firstFree, yX6_slower, yX6_put, yX6_wipe, yX6_sign, yX6_wants, yX6_digit, yX6_number, yX6_readsOrder, yX6_reads, yX6_fault, yX6_refuses, yX6_does, yX6_carryOut, yX6_undo, yX6_save, yX6_restore, yJ6_bitCount_0f7a4, yJ9_max_7cf53, yJ0_length_8abf5, yJ0_isEmpty_aae02, yJ0_charAt_5068e, yJ0_coder_7d493, yJ0_isLatin1_aae02, yJ0_checkIndex_df160, yJ1_charAt_3b067, yJ7_fill_53178, yJ3_checkIndex_8e157, yL_law]
def mFldL : List (Nat × Nat × Nat × Nat × Nat) := [(0, 9, 0, 0, 91), (0, 15, 0, 1, 95), (0, 18, 0, 2, 96), (0, 22, 0, 3, 99), (0, 25, 0, 4, 103), (0, 28, 0, 5, 106), (0, 31, 0, 6, 109), (0, 34, 0, 7, 111), (0, 37, 0, 8, 114), (0, 40, 0, 9, 117), (0, 43, 0, 10, 120), (0, 46, 0, 11, 123), (1, 13, 1, 0, 255), (1, 17, 1, 1, 256), (1, 21, 1, 2, 257), (2, 9, 2, 0, 272), (2, 15, 2, 1, 273), (2, 19, 2, 2, 275), (2, 23, 2, 3, 277), (2, 26, 2, 4, 279), (2, 30, 2, 5, 281), (3, 9, 3, 0, 202), (3, 15, 3, 1, 204), (3, 18, 3, 2, 206), (3, 21, 3, 3, 208), (3, 24, 3, 4, 210), (3, 27, 3, 5, 212), (3, 30, 3, 6, 214), (3, 33, 3, 7, 216), (3, 36, 3, 8, 218), (3, 39, 3, 9, 220), (3, 44, 3, 10, 222), (3, 49, 0, 2, 97), (3, 63, 0, 7, 112), (3, 72, 0, 10, 121), (3, 75, 0, 8, 115), (3, 78, 0, 9, 118), (3, 85, 4, 5, 174), (3, 87, 4, 6, 176), (3, 89, 4, 7, 179), (3, 91, 4, 8, 182), (3, 93, 4, 3, 171), (3, 100, 0, 3, 101), (3, 109, 0, 11, 124), (3, 112, 0, 0, 93), (3, 121, 0, 5, 107), (4, 9, 4, 0, 165), (4, 15, 4, 1, 167), (4, 18, 4, 2, 169), (4, 21, 4, 3, 170), (4, 24, 4, 4, 172), (4, 28, 4, 5, 173), (4, 31, 4, 6, 175), (4, 34, 4, 7, 178), (4, 37, 4, 8, 181), (4, 40, 0, 3, 100), (4, 45, 0, 4, 104), (4, 54, 0, 6, 110), (4, 65, 0, 0, 92), (5, 10, 5, 0, 298), (5, 19, 5, 1, 299), (5, 26, 5, 2, 300), (5, 33, 5, 3, 301), (5, 37, 5, 4, 302), (5, 41, 5, 5, 303), (5, 45, 5, 6, 304), (5, 51, 5, 7, 305), (5, 55, 5, 8, 306), (5, 103, 0, 3, 102), (5, 107, 0, 4, 105), (5, 110, 0, 5, 108), (5, 113, 0, 8, 116), (5, 120, 3, 9, 221), (5, 123, 3, 8, 219), (5, 133, 0, 9, 119), (5, 136, 0, 10, 122), (5, 139, 0, 11, 125), (5, 142, 3, 1, 205), (5, 145, 3, 2, 207), (5, 148, 3, 3, 209), (5, 151, 3, 4, 211), (5, 154, 3, 6, 215), (5, 157, 3, 7, 217), (5, 167, 3, 5, 213), (5, 177, 0, 2, 98), (5, 181, 0, 7, 113), (5, 194, 0, 0, 94), (5, 197, 2, 2, 276), (5, 200, 1, 2, 258), (5, 210, 3, 0, 203), (5, 213, 4, 0, 166), (5, 216, 4, 1, 168), (5, 233, 4, 6, 177), (5, 235, 4, 7, 180), (5, 262, 2, 3, 278), (5, 276, 2, 1, 274), (5, 279, 2, 4, 280), (6, 7, 6, 1, 701), (6, 13, 6, 2, 702), (6, 16, 6, 4, 704), (6, 19, 6, 5, 705), (6, 23, 6, 6, 706), (6, 26, 6, 8, 708), (6, 29, 6, 9, 709), (6, 32, 6, 10, 710), (6, 35, 6, 11, 711), (6, 38, 6, 12, 712), (6, 41, 6, 13, 713), (6, 44, 6, 14, 714), (6, 47, 6, 16, 716), (6, 50, 6, 17, 717), (6, 53, 6, 18, 718), (6, 56, 6, 19, 719), (6, 59, 6, 20, 720), (6, 62, 6, 23, 723), (6, 65, 6, 0, 700), (6, 81, 6, 3, 703), (6, 84, 6, 15, 715), (6, 183, 6, 7, 707), (6, 192, 6, 21, 721), (6, 195, 6, 22, 722), (6, 205, 6, 24, 724), (7, 9, 7, 0, 1033), (7, 15, 7, 1, 1034)]
def mMthL : List (Nat × Nat × Nat × Nat × Nat × Nat) := [(0, 3, 1001, 1, 99, 82), (0, 52, 1000, 5, 100, 85), (0, 58, 151, 2, 100, 88), (0, 64, 74, 3, 100, 343), (0, 68, 2, 2, 0, 393), (0, 78, 75, 1, 100, 369), (0, 81, 5, 3, 0, 381), (0, 85, 4, 2, 0, 405), (0, 88, 3, 3, 0, 417), (1, 3, 1001, 1, 99, 251), (1, 24, 0, 1, 20, 254), (1, 25, 1, 2, 0, 335), (2, 3, 1001, 1, 99, 271), (2, 39, 21, 1, 2, 582), (2, 43, 25, 2, 2, 659), (2, 47, 22, 1, 100, 586), (2, 51, 145, 1, 7, 595), (2, 56, 144, 1, 7, 599), (2, 59, 146, 2, 7, 609), (2, 63, 23, 2, 2, 647), (2, 78, 24, 2, 2, 651), (2, 82, 26, 1, 2, 655), (3, 3, 1001, 1, 99, 157), (3, 48, 34, 1, 24, 161), (3, 55, 35, 3, 4, 438), (3, 59, 29, 2, 3, 444), (3, 66, 30, 3, 3, 448), (3, 69, 31, 3, 3, 465), (3, 81, 37, 4, 4, 452), (3, 94, 1000, 5, 100, 464), (3, 103, 143, 2, 100, 469), (3, 115, 142, 1, 100, 470), (4, 3, 1001, 1, 99, 164), (4, 48, 151, 2, 100, 442), (4, 55, 1000, 5, 100, 443), (4, 61, 5, 3, 0, 456), (4, 68, 143, 2, 100, 457), (4, 73, 38, 4, 4, 460), (5, 1, 1001, 1, 99, 74), (5, 9, 0, 1, 20, 79), (5, 18, 27, 1, 23, 154), (5, 25, 14, 1, 21, 248), (5, 32, 18, 1, 22, 268), (5, 50, 34, 1, 24, 297), (5, 58, 15, 2, 1, 331), (5, 62, 6, 3, 0, 339), (5, 66, 47, 2, 5, 350), (5, 70, 7, 4, 0, 365), (5, 74, 8, 4, 0, 377), (5, 77, 10, 5, 0, 389), (5, 81, 11, 2, 0, 401), (5, 84, 12, 4, 0, 413), (5, 87, 13, 3, 0, 425), (5, 90, 73, 1, 100, 354), (5, 94, 16, 1, 1, 357), (5, 97, 2, 2, 0, 433), (5, 100, 28, 2, 3, 434), (5, 116, 57, 3, 5, 476), (5, 126, 58, 4, 5, 480), (5, 130, 4, 2, 0, 488), (5, 160, 55, 2, 5, 489), (5, 163, 3, 3, 0, 497), (5, 170, 74, 3, 100, 372), (5, 174, 56, 4, 5, 502), (5, 184, 59, 2, 100, 513), (5, 187, 32, 2, 3, 516), (5, 191, 33, 2, 3, 520), (5, 203, 75, 1, 100, 528), (5, 206, 35, 3, 4, 506), (5, 219, 37, 4, 4, 507), (5, 223, 5, 3, 0, 508), (5, 226, 62, 4, 5, 537), (5, 229, 36, 2, 4, 541), (5, 237, 63, 3, 5, 545), (5, 240, 1, 2, 0, 554), (5, 242, 9, 2, 0, 555), (5, 246, 142, 1, 100, 549), (5, 251, 19, 2, 2, 563), (5, 255, 20, 1, 2, 578), (5, 259, 68, 1, 5, 668), (5, 265, 21, 1, 2, 672), (5, 269, 69, 1, 5, 673), (5, 272, 25, 2, 2, 677), (5, 283, 17, 2, 1, 682), (6, 1, 1001, 1, 99, 699), (6, 69, 77, 3, 100, 783), (6, 73, 80, 2, 6, 824), (6, 77, 78, 3, 6, 856), (6, 87, 79, 3, 6, 880), (6, 90, 85, 3, 6, 892), (6, 93, 87, 4, 6, 888), (6, 97, 86, 2, 6, 876), (6, 101, 88, 2, 6, 884), (6, 105, 91, 2, 6, 904), (6, 108, 90, 1, 100, 912), (6, 111, 92, 2, 6, 908), (6, 114, 93, 2, 6, 900), (6, 117, 95, 2, 100, 780), (6, 121, 84, 1, 6, 786), (6, 124, 82, 1, 100, 798), (6, 127, 97, 4, 6, 794), (6, 130, 98, 4, 6, 801), (6, 133, 100, 3, 100, 809), (6, 136, 101, 4, 6, 812), (6, 139, 103, 5, 6, 820), (6, 143, 104, 5, 6, 828), (6, 146, 81, 2, 6, 836), (6, 149, 106, 2, 6, 840), (6, 152, 83, 3, 6, 852), (6, 155, 108, 4, 6, 848), (6, 158, 109, 3, 6, 860), (6, 161, 94, 2, 6, 915), (6, 164, 89, 2, 6, 872), (6, 167, 112, 4, 6, 896), (6, 170, 114, 2, 6, 923), (6, 173, 117, 4, 6, 935), (6, 176, 119, 1, 6, 943), (6, 180, 120, 1, 6, 947), (6, 186, 124, 1, 6, 963), (6, 199, 129, 1, 6, 992), (6, 202, 131, 1, 6, 1000), (6, 208, 132, 1, 6, 996), (6, 211, 130, 2, 6, 1004), (6, 214, 133, 1, 6, 988), (6, 217, 134, 1, 6, 984), (6, 220, 136, 2, 6, 1012), (6, 223, 137, 2, 6, 1016), (7, 335, 147, 1, 7, 603), (7, 492, 148, 1, 7, 613), (7, 495, 150, 2, 100, 617), (7, 1059, 152, 3, 100, 625), (8, 9, 149, 2, 100, 620), (13, 9, 39, 1, 25, 71), (13, 12, 76, 1, 26, 696), (13, 13, 40, 3, 5, 327), (13, 17, 96, 3, 6, 776), (13, 18, 41, 4, 5, 361), (13, 22, 99, 4, 6, 790), (13, 23, 42, 4, 5, 373), (13, 26, 102, 4, 6, 805), (13, 27, 43, 5, 5, 385), (13, 31, 105, 5, 6, 816), (13, 32, 44, 2, 5, 397), (13, 36, 107, 2, 6, 832), (13, 37, 45, 4, 5, 409), (13, 40, 110, 4, 6, 844), (13, 41, 46, 3, 5, 421), (13, 44, 111, 3, 6, 864), (13, 45, 48, 3, 5, 429), (13, 48, 113, 3, 6, 868), (13, 49, 49, 3, 5, 484), (13, 52, 115, 3, 6, 919), (13, 53, 50, 3, 5, 493), (13, 56, 116, 3, 6, 927), (13, 57, 51, 4, 5, 498), (13, 60, 118, 4, 6, 931), (13, 61, 52, 2, 5, 509), (13, 64, 121, 2, 6, 939), (13, 65, 53, 3, 5, 524), (13, 68, 122, 3, 6, 951), (13, 69, 54, 2, 5, 529), (13, 72, 123, 2, 6, 955), (13, 73, 60, 4, 5, 533), (13, 76, 125, 4, 6, 959), (13, 77, 61, 2, 5, 550), (13, 80, 126, 2, 6, 967), (13, 83, 64, 2, 5, 559), (13, 87, 127, 2, 6, 971), (13, 88, 65, 1, 5, 570), (13, 92, 128, 1, 6, 976), (13, 93, 66, 1, 5, 574), (13, 96, 135, 1, 6, 980), (13, 97, 67, 1, 5, 664), (13, 100, 138, 1, 6, 1008), (13, 101, 70, 1, 5, 678), (13, 104, 139, 1, 6, 1020), (13, 105, 71, 2, 5, 686), (13, 108, 140, 2, 6, 1024), (13, 109, 72, 2, 5, 690), (13, 112, 141, 2, 6, 1028)]
def mClsL : List (Nat × Nat × Nat × Nat) := [(1, 11, 0, 252), (3, 42, 4, 158), (5, 7, 0, 77), (5, 16, 3, 152), (5, 23, 1, 246), (5, 30, 2, 266), (5, 48, 4, 296), (13, 7, 5, 69), (13, 10, 6, 694)]
def mLdcL : List (Nat × Nat × MV × Nat) := [(2, 33, mL (255), 567), (2, 35, mL (33), 568), (2, 37, mL (126), 569), (2, 66, mK 10, 589), (2, 68, mK 11, 590), (2, 70, mK 12, 591), (2, 72, mK 13, 592), (2, 74, mK 14, 593), (2, 76, mK 15, 594), (6, 190, mL (255), 975), (10, 265, mI (1431655765), 473), (10, 266, mI (858993459), 474), (10, 267, mI (252645135), 475), (13, 81, mL (4294967295), 1032)]
def mGstL : List (Nat × Nat × MV × Nat) := [(0, 49, mK 2, 83), (0, 72, mK 3, 346), (0, 75, mK 4, 348), (7, 38, mI 1, 607), (7, 1053, mK 1, 623)]
def mFldOf (o i : Nat) : Option (Nat × Nat) := (mFldL.find? (fun e => e.1 == o && e.2.1 == i)).map (fun e => (e.2.2.1, e.2.2.2.1))
def mMthOf (o i : Nat) : Option (Nat × Nat × Nat) := (mMthL.find? (fun e => e.1 == o && e.2.1 == i)).map (fun e => (e.2.2.1, e.2.2.2.1, e.2.2.2.2.1))
def mClsOf (o i : Nat) : Option Nat := (mClsL.find? (fun e => e.1 == o && e.2.1 == i)).map (fun e => e.2.2.1)
def mLdcOf (o i : Nat) : Option MV := (mLdcL.find? (fun e => e.1 == o && e.2.1 == i)).map (fun e => e.2.2.1)
def mGstOf (o i : Nat) : Option MV := (mGstL.find? (fun e => e.1 == o && e.2.1 == i)).map (fun e => e.2.2.1)
def mLd1 : Option MV → Option MV
  | some (.inl v) => some (.inl v)
  | some (.inr (.inr (.inr c))) => some (.inr (.inr (.inr c)))
  | _ => none
def mLd2 : Option MV → Option MV
  | some (.inl v) => some (.inl v)
  | _ => none
def mLd3 : Option MV → Option MV
  | some (.inr (.inl v)) => some (.inr (.inl v))
  | _ => none
def mBytes (y : Nat) : ByteArray := mB.getD y ⟨#[]⟩
def mCl (y : Nat) : Nat := mClsT.getD y 99
def mMax (y : Nat) : Nat := mMaxT.getD y 0
def mRet (y : Nat) : Nat := mRetT.getD y 9
def mIni (y : Nat) : Bool := mIniT.getD y false
def mCell (y : Nat) : Nat := mCellT.getD y 0
def mSlot (y : Nat) : Nat := mSlotT.getD y 0
def mFr (y : Nat) : Nat := mFrT.getD y 0
def mLo (y : Nat) : Nat := mLoT.getD y 0
/-- the callee's frames and locals fit the caller's -/
def mRoom (y y' : Nat) : Bool := Nat.ble (mFr y' + 1) (mFr y) && Nat.ble (8 + (mMax y' + 11) + mLo y') (mLo y)
/-- how long an instruction is; 0: as it is read -/
def mLen : Instr → Nat
  | .bipush _ => 2
  | .ldc _ => 2
  | .iload _ => 2
  | .lload _ => 2
  | .aload _ => 2
  | .istore _ => 2
  | .lstore _ => 2
  | .astore _ => 2
  | .newarray _ => 2
  | .sipush _ => 3
  | .ldc_w _ => 3
  | .ldc2_w _ => 3
  | .iinc _ _ => 3
  | .goto _ => 3
  | .ifCond _ _ => 3
  | .if_icmp _ _ => 3
  | .getfield _ => 3
  | .putfield _ => 3
  | .getstatic _ => 3
  | .invokevirtual _ => 3
  | .invokespecial _ => 3
  | .invokestatic _ => 3
  | .new _ => 3
  | .anewarray _ => 3
  | .tableswitch _ _ _ _ => 0
  | .lookupswitch _ _ => 0
  | _ => 1
def mCode (y pc : Nat) : Option (Instr × Nat) := match decode (mBytes y) pc with
  | .ok r => if r.2 = mLen r.1 ∨ mLen r.1 = 0 then some r else none
  | .error _ => none
def mIshl (a b : Int) : Int := mL32 (fun x y => x <<< (y &&& 31)) a b
def mIshr (a b : Int) : Int := mL32 (fun x y => x >>> (y &&& 31)) a b
def mIushr (a b : Int) : Int := mL32 (fun x y => (x.toUInt32 >>> (y.toUInt32 &&& Int32.toUInt32 31)).toInt32) a b
def mIand (a b : Int) : Int := mL32 (fun x y => x &&& y) a b
def mIor (a b : Int) : Int := mL32 (fun x y => x ||| y) a b
def mLand (a b : Int) : Int := mL64 (fun x y => x &&& y) a b
def mLor (a b : Int) : Int := mL64 (fun x y => x ||| y) a b
def mLushr (a b : Int) : Int := ((Int64.ofInt a).toUInt64 >>> ((Int32.ofInt b).toInt64.toUInt64 &&& Int64.toUInt64 63)).toInt64.toInt
def mLshl (a b : Int) : Int := (Int64.ofInt a <<< ((Int32.ofInt b).toInt64 &&& 63)).toInt
def mIadd (a b : Int) : Int := mWr (a + b)
def mIsub (a b : Int) : Int := mWr (a - b)
def mImul (a b : Int) : Int := mWr (a * b)
def mIdiv (a b : Int) : Int := mWr (a.tdiv b)
def mIrem (a b : Int) : Int := a.tmod b
def mStep (E : ME) (y pc : Nat) (i : Instr) (len : Nat) (ls : MLs) (st : List MV) (g : MG) (μ : MU) : Option MReq := match i with
  | .iconst n => mNx (pc + len) ls (mI (n.bmod 4294967296) :: st) g μ
  | .bipush n => mNx (pc + len) ls (mI (n.bmod 256) :: st) g μ
  | .sipush n => mNx (pc + len) ls (mI (n.bmod 65536) :: st) g μ
  | .lconst n => mNx (pc + len) ls (mL (n.val : Int) :: st) g μ
  | .ldc k => match mLd1 (mLdcOf (mCl y) k) with
    | some v => mNx (pc + len) ls (v :: st) g μ
    | none => none
  | .ldc_w k => match mLd2 (mLdcOf (mCl y) k) with
    | some v => mNx (pc + len) ls (v :: st) g μ
    | none => none
  | .ldc2_w k => match mLd3 (mLdcOf (mCl y) k) with
    | some v => mNx (pc + len) ls (v :: st) g μ
    | none => none
  | .iload k => s_ldi ls k (pc + len) st g μ
  | .iload_n k => s_ldi ls k.val (pc + len) st g μ
  | .lload k => s_ldl ls k (pc + len) st g μ
  | .lload_n k => s_ldl ls k.val (pc + len) st g μ
  | .aload k => s_lda ls k (pc + len) st g μ
  | .aload_n k => s_lda ls k.val (pc + len) st g μ
  | .istore k => s_sti ls k (pc + len) st g μ
  | .istore_n k => s_sti ls k.val (pc + len) st g μ
  | .lstore k => s_stl ls k (pc + len) st g μ
  | .lstore_n k => s_stl ls k.val (pc + len) st g μ
  | .astore k => s_sta ls k (pc + len) st g μ
  | .astore_n k => s_sta ls k.val (pc + len) st g μ
  | .iinc k n => s_inc ls k n (pc + len) st g μ
  | .iadd => s_bin mIadd ls (pc + len) st g μ
  | .isub => s_bin mIsub ls (pc + len) st g μ
  | .imul => s_bin mImul ls (pc + len) st g μ
  | .idiv => s_div mIdiv ls (pc + len) st g μ
  | .irem => s_div mIrem ls (pc + len) st g μ
  | .ishl => s_bin mIshl ls (pc + len) st g μ
  | .ishr => s_bin mIshr ls (pc + len) st g μ
  | .iushr => s_bin mIushr ls (pc + len) st g μ
  | .iand => s_bin mIand ls (pc + len) st g μ
  | .ior => s_bin mIor ls (pc + len) st g μ
  | .land => s_lbin mLand ls (pc + len) st g μ
  | .lor => s_lbin mLor ls (pc + len) st g μ
  | .lushr => s_lsh mLushr ls (pc + len) st g μ
  | .lshl => s_lsh mLshl ls (pc + len) st g μ
  | .lcmp => s_lcmp ls (pc + len) st g μ
  | .i2l => s_i2l ls (pc + len) st g μ
  | .l2i => s_l2i ls (pc + len) st g μ
  | .i2c => s_i2c ls (pc + len) st g μ
  | .dup => s_dup ls (pc + len) st g μ
  | .dup2 => s_dup2 ls (pc + len) st g μ
  | .pop => s_pop ls (pc + len) st g μ
  | .goto off => if (pc : Int) + off < 0 then none else mNx (mJmp pc off) ls st g μ
  | .ifCond c off => s_if c off ls pc len st g μ
  | .if_icmp c off => s_icmp c off ls pc len st g μ
  | .tableswitch d lo hi offs => s_tsw d lo hi offs ls pc st g μ
  | .lookupswitch d ps => s_lsw d ps ls pc st g μ
  | .arraylength => s_alen E ls (pc + len) st g μ
  | .iaload => s_ald 10 E ls (pc + len) st g μ
  | .caload => s_ald 11 E ls (pc + len) st g μ
  | .baload => s_ald 12 E ls (pc + len) st g μ
  | .iastore => s_ast 10 0 ls (pc + len) st g μ
  | .castore => s_ast 11 1 ls (pc + len) st g μ
  | .bastore => s_ast 12 2 ls (pc + len) st g μ
  | .aaload => s_aald ls (pc + len) st g μ
  | .aastore => s_aast ls (pc + len) st g μ
  | .newarray .int => s_newa 10 ls (pc + len) st g μ
  | .newarray .char => s_newa 11 ls (pc + len) st g μ
  | .newarray .boolean => s_newa 12 ls (pc + len) st g μ
  | .anewarray k => match mClsOf (mCl y) k with
    | some ci => s_anew ci ls (pc + len) st g μ
    | none => none
  | .new k => match mClsOf (mCl y) k with
    | some ci => s_new ci ls (pc + len) st g μ
    | none => none
  | .getfield k => match mFldOf (mCl y) k with
    | some (ci, f) => s_get ci f ls (pc + len) st g μ
    | none => none
  | .putfield k => match mFldOf (mCl y) k with
    | some (ci, f) => s_put (mIni y && mCl y == ci) ci f ls (pc + len) st g μ
    | none => none
  | .getstatic k => match mGstOf (mCl y) k with
    | some v => mNx (pc + len) ls (v :: st) g μ
    | none => none
  | .invokevirtual k => match mMthOf (mCl y) k with
    | some (y', n, w) => if w < 10 then s_call y' n w st g else none
    | none => none
  | .invokespecial k => match mMthOf (mCl y) k with
    | some (y', n, w) => if y' = 1001 then s_oin ls (pc + len) st g μ else if 20 ≤ w ∧ w < 30 then s_call y' n (w - 20) st g else none
    | none => none
  | .invokestatic k => match mMthOf (mCl y) k with
    | some (y', n, w) => if y' = 1000 then s_copy ls (pc + len) st g μ else if w = 100 then s_call y' n w st g else none
    | none => none
  | .ireturn => s_iret (mRet y) st
  | .areturn => s_aret (mRet y) st
  | .return_ => s_vret (mRet y) st
  | _ => none
abbrev MOut : Type := Option MV × MG × MU
def mRun (E : ME) : Nat → Nat → Nat → MLs → List MV → MG → MU → Option MOut
  | 0, _, _, _, _, _, _ => none
  | n + 1, y, pc, ls, st, g, μ => match mCode y pc with
    | none => none
    | some (i, len) => match mStep E y pc i len ls st g μ with
      | none => none
      | some (.inl (pc', ls', st', g', μ')) => mRun E n y pc' ls' st' g' μ'
      | some (.inr (.inr r)) => some (r, g, μ)
      | some (.inr (.inl (y', as, rest))) => if (mEntL as).length ≤ mMax y' ∧ mRoom y y' = true then (match mRun E n y' 0 (mEnt (mMax y') as) [] g μ with
        | none => none
        | some (r, g', μ') => if g'.1 = g.1 + mCell y' ∧ g'.2.1 = g.2.1 + mSlot y' then mRun E n y (pc + 3) ls (mPush r rest) g' μ' else none) else none
def Wp (E : ME) (y pc : Nat) (ls : MLs) (st : List MV) (g : MG) (μ : MU) (Q : Option MV → MG → MU → Prop) : Prop := ∃ n r, mRun E n y pc ls st g μ = some r ∧ Q r.1 r.2.1 r.2.2
theorem mRun_succ (E : ME) : ∀ (n y pc : Nat) (ls : MLs) (st : List MV) (g : MG) (μ : MU) (r : MOut), mRun E n y pc ls st g μ = some r → mRun E (n + 1) y pc ls st g μ = some r := by
  intro n
  induction n with
  | zero => intro y pc ls st g μ r h; cases h
  | succ n ih =>
    intro y pc ls st g μ r h
    rw [mRun] at h
    rw [mRun]
    cases hc : mCode y pc with
    | none => rw [hc] at h; cases h
    | some il =>
      obtain ⟨i, len⟩ := il
      rw [hc] at h
      dsimp only at h ⊢
      cases hs : mStep E y pc i len ls st g μ with
      | none => rw [hs] at h; cases h
      | some q =>
        rw [hs] at h
        rcases q with ⟨pc', ls', st', g', μ'⟩ | ⟨y', as, rest⟩ | rr
        · exact ih _ _ _ _ _ _ _ h
        · dsimp only at h ⊢
          by_cases hl : (mEntL as).length ≤ mMax y' ∧ mRoom y y' = true
          · rw [if_pos hl] at h ⊢
            cases h1 : mRun E n y' 0 (mEnt (mMax y') as) [] g μ with
            | none => rw [h1] at h; cases h
            | some q1 =>
              rw [h1] at h
              rw [ih _ _ _ _ _ _ _ h1]
              obtain ⟨r1, g1, μ1⟩ := q1
              dsimp only at h ⊢
              by_cases hz : g1.1 = g.1 + mCell y' ∧ g1.2.1 = g.2.1 + mSlot y'
              · rw [if_pos hz] at h ⊢
                exact ih _ _ _ _ _ _ _ h
              · rw [if_neg hz] at h; cases h
          · rw [if_neg hl] at h; cases h
        · exact h
theorem mRun_mono {E : ME} {n k y pc : Nat} {ls : MLs} {st : List MV} {g : MG} {μ : MU} {r : MOut} (hk : n ≤ k) (h : mRun E n y pc ls st g μ = some r) : mRun E k y pc ls st g μ = some r := by
  obtain ⟨d, rfl⟩ := Nat.le.dest hk
  induction d with
  | zero => exact h
  | succ d ih => exact mRun_succ _ _ _ _ _ _ _ _ _ (ih (Nat.le_add_right _ _))
theorem mRun_det {E : ME} {n k y pc : Nat} {ls : MLs} {st : List MV} {g : MG} {μ : MU} {r q : MOut} (h1 : mRun E n y pc ls st g μ = some r) (h2 : mRun E k y pc ls st g μ = some q) : r = q := by
  rcases Nat.le_total n k with h | h
  · exact Option.some.inj ((mRun_mono h h1).symm.trans h2)
  · exact Option.some.inj (h1.symm.trans (mRun_mono h h2))
section WPR
variable {E : ME} {y pc : Nat} {i : Instr} {len : Nat} {ls : MLs} {st : List MV} {g : MG} {μ : MU} {Q : Option MV → MG → MU → Prop}
theorem Wp_nx (hc : mCode y pc = some (i, len)) {pc' : Nat} {ls' : MLs} {st' : List MV} {g' : MG} {μ' : MU} (hs : mStep E y pc i len ls st g μ = some (.inl (pc', ls', st', g', μ'))) : Wp E y pc ls st g μ Q = Wp E y pc' ls' st' g' μ' Q := by
  refine propext ⟨fun ⟨n, r, h, q⟩ => ?_, fun ⟨n, r, h, q⟩ => ⟨n + 1, r, ?_, q⟩⟩
  · cases n with
    | zero => cases h
    | succ n => rw [mRun, hc] at h; dsimp only at h; rw [hs] at h; exact ⟨n, r, h, q⟩
  · rw [mRun, hc]; dsimp only; rw [hs]; exact h
theorem Wp_no (hc : mCode y pc = some (i, len)) (hs : mStep E y pc i len ls st g μ = none) : Wp E y pc ls st g μ Q = False := by
  refine propext ⟨fun ⟨n, r, h, q⟩ => ?_, False.elim⟩
  cases n with
  | zero => cases h
  | succ n => rw [mRun, hc] at h; dsimp only at h; rw [hs] at h; cases h
theorem Wp_ret (hc : mCode y pc = some (i, len)) {r : Option MV} (hs : mStep E y pc i len ls st g μ = some (.inr (.inr r))) : Wp E y pc ls st g μ Q = Q r g μ := by
  refine propext ⟨fun ⟨n, r', h, q⟩ => ?_, fun h => ⟨1, (r, g, μ), ?_, h⟩⟩
  · cases n with
    | zero => cases h
    | succ n => rw [mRun, hc] at h; dsimp only at h; rw [hs] at h; cases h; exact q
  · rw [mRun, hc]; dsimp only; rw [hs]
theorem Wp_callG (hc : mCode y pc = some (i, len)) {y' : Nat} {as rest : List MV} (hs : mStep E y pc i len ls st g μ = some (.inr (.inl (y', as, rest)))) (hl : (mEntL as).length ≤ mMax y' ∧ mRoom y y' = true) : Wp E y pc ls st g μ Q = Wp E y' 0 (mEnt (mMax y') as) [] g μ (fun r g' μ' => (g'.1 = g.1 + mCell y' ∧ g'.2.1 = g.2.1 + mSlot y') ∧ Wp E y (pc + 3) ls (mPush r rest) g' μ' Q) := by
  refine propext ⟨fun ⟨n, r', h, q⟩ => ?_, fun ⟨n, ⟨r, g', μ'⟩, h, hz, m, r2, h2, q⟩ => ⟨max n m + 1, r2, ?_, q⟩⟩
  · cases n with
    | zero => cases h
    | succ n =>
      rw [mRun, hc] at h; dsimp only at h; rw [hs] at h; dsimp only at h
      rw [if_pos hl] at h
      cases h1 : mRun E n y' 0 (mEnt (mMax y') as) [] g μ with
      | none => rw [h1] at h; cases h
      | some q1 =>
        rw [h1] at h
        obtain ⟨r1, g1, μ1⟩ := q1
        dsimp only at h
        by_cases hz : g1.1 = g.1 + mCell y' ∧ g1.2.1 = g.2.1 + mSlot y'
        · rw [if_pos hz] at h
          exact ⟨n, _, h1, hz, n, r', h, q⟩
        · rw [if_neg hz] at h; cases h
  · rw [mRun, hc]; dsimp only; rw [hs]; dsimp only
    rw [if_pos hl, mRun_mono (Nat.le_max_left n m) h]
    dsimp only at hz h2 ⊢
    rw [if_pos hz]
    exact mRun_mono (Nat.le_max_right n m) h2
theorem Wp_mono {Q' : Option MV → MG → MU → Prop} (h : Wp E y pc ls st g μ Q) (hq : ∀ r g' μ', Q r g' μ' → Q' r g' μ') : Wp E y pc ls st g μ Q' := by
  obtain ⟨n, r, h1, h2⟩ := h
  exact ⟨n, r, h1, hq _ _ _ h2⟩
end WPR
section WPI
variable {E : ME} {y pc : Nat} {len : Nat} {ls : MLs} {st : List MV} {g : MG} {μ : MU} {Q : Option MV → MG → MU → Prop}
theorem pr_and {c : Prop} {A B C : Prop} (h1 : c → A = B) (h2 : ¬ c → A = C) : A = ((c → B) ∧ (¬ c → C)) := by
  by_cases h : c
  · rw [h1 h]; exact propext ⟨fun b => ⟨fun _ => b, fun n => absurd h n⟩, fun k => k.1 h⟩
  · rw [h2 h]; exact propext ⟨fun b => ⟨fun n => absurd n h, fun _ => b⟩, fun k => k.2 h⟩
theorem pr_c {c : Prop} {A B : Prop} (h1 : c → A = B) (h2 : ¬ c → A = False) : A = (c ∧ B) := by
  by_cases h : c
  · rw [h1 h]; exact propext ⟨fun b => ⟨h, b⟩, fun k => k.2⟩
  · rw [h2 h]; exact propext ⟨False.elim, fun k => absurd k.1 h⟩
theorem Wp_goto {off : Int} {t : Nat} (hc : mCode y pc = some (.goto off, len)) (ht : (pc : Int) + off = (t : Int)) : Wp E y pc ls st g μ Q = Wp E y t ls st g μ Q :=
  Wp_nx hc (by show (if _ then _ else _) = _; rw [if_neg (by omega), mJmp, ht]; rfl)
theorem Wp_ifB {c : ClassFile.Cond} {off : Int} {t : Nat} {a : Int} (hc : mCode y pc = some (.ifCond c off, len)) (ht : (pc : Int) + off = (t : Int)) : Wp E y pc ls (.inl a :: st) g μ Q = if mHb c a 0 = true then Wp E y t ls st g μ Q else Wp E y (pc + len) ls st g μ Q := by
  by_cases h : mHb c a 0 = true
  · rw [if_pos h]
    exact Wp_nx hc (by show (if _ then _ else if _ then _ else _) = _; rw [if_neg (by omega), if_pos h, mJmp, ht]; rfl)
  · rw [if_neg h]
    exact Wp_nx hc (by show (if _ then _ else if _ then _ else _) = _; rw [if_neg (by omega), if_neg h]; rfl)
theorem Wp_cmpB {c : ClassFile.Cond} {off : Int} {t : Nat} {a b : Int} (hc : mCode y pc = some (.if_icmp c off, len)) (ht : (pc : Int) + off = (t : Int)) : Wp E y pc ls (.inl b :: .inl a :: st) g μ Q = if mHb c a b = true then Wp E y t ls st g μ Q else Wp E y (pc + len) ls st g μ Q := by
  by_cases h : mHb c a b = true
  · rw [if_pos h]
    exact Wp_nx hc (by show (if _ then _ else if _ then _ else _) = _; rw [if_neg (by omega), if_pos h, mJmp, ht]; rfl)
  · rw [if_neg h]
    exact Wp_nx hc (by show (if _ then _ else if _ then _ else _) = _; rw [if_neg (by omega), if_neg h]; rfl)
theorem ite_and {c d : Prop} {b : Bool} {A B : Prop} (h1 : b = true ↔ c) (h2 : ¬ c ↔ d) : (if b = true then A else B) = ((c → A) ∧ (d → B)) := by
  by_cases h : b = true
  · rw [if_pos h]
    exact propext ⟨fun x => ⟨fun _ => x, fun y => absurd (h1.mp h) (h2.mpr y)⟩, fun x => x.1 (h1.mp h)⟩
  · rw [if_neg h]
    have hn : ¬ c := fun x => h (h1.mpr x)
    exact propext ⟨fun x => ⟨fun y => absurd y hn, fun _ => x⟩, fun x => x.2 (h2.mp hn)⟩
theorem hb_eq {a b : Int} : mHb .eq a b = true ↔ a = b := by simp [mHb]
theorem hb_ne {a b : Int} : mHb .ne a b = true ↔ ¬ a = b := by simp [mHb]
theorem hb_lt {a b : Int} : mHb .lt a b = true ↔ a < b := by simp [mHb]
theorem hb_ge {a b : Int} : mHb .ge a b = true ↔ b ≤ a := by simp [mHb]
theorem hb_gt {a b : Int} : mHb .gt a b = true ↔ b < a := by simp [mHb]
theorem hb_le {a b : Int} : mHb .le a b = true ↔ a ≤ b := by simp [mHb]
theorem Wp_if_eq {off : Int} {t : Nat} {a : Int} (hc : mCode y pc = some (.ifCond .eq off, len)) (ht : (pc : Int) + off = (t : Int)) : Wp E y pc ls (.inl a :: st) g μ Q = ((a = 0 → Wp E y t ls st g μ Q) ∧ (¬ a = 0 → Wp E y (pc + len) ls st g μ Q)) := (Wp_ifB hc ht).trans (ite_and hb_eq Iff.rfl)
theorem Wp_if_ne {off : Int} {t : Nat} {a : Int} (hc : mCode y pc = some (.ifCond .ne off, len)) (ht : (pc : Int) + off = (t : Int)) : Wp E y pc ls (.inl a :: st) g μ Q = ((¬ a = 0 → Wp E y t ls st g μ Q) ∧ (a = 0 → Wp E y (pc + len) ls st g μ Q)) := (Wp_ifB hc ht).trans (ite_and hb_ne (by omega))
theorem Wp_if_lt {off : Int} {t : Nat} {a : Int} (hc : mCode y pc = some (.ifCond .lt off, len)) (ht : (pc : Int) + off = (t : Int)) : Wp E y pc ls (.inl a :: st) g μ Q = ((a < 0 → Wp E y t ls st g μ Q) ∧ (0 ≤ a → Wp E y (pc + len) ls st g μ Q)) := (Wp_ifB hc ht).trans (ite_and hb_lt (by omega))
theorem Wp_if_ge {off : Int} {t : Nat} {a : Int} (hc : mCode y pc = some (.ifCond .ge off, len)) (ht : (pc : Int) + off = (t : Int)) : Wp E y pc ls (.inl a :: st) g μ Q = ((0 ≤ a → Wp E y t ls st g μ Q) ∧ (a < 0 → Wp E y (pc + len) ls st g μ Q)) := (Wp_ifB hc ht).trans (ite_and hb_ge (by omega))
theorem Wp_if_gt {off : Int} {t : Nat} {a : Int} (hc : mCode y pc = some (.ifCond .gt off, len)) (ht : (pc : Int) + off = (t : Int)) : Wp E y pc ls (.inl a :: st) g μ Q = ((0 < a → Wp E y t ls st g μ Q) ∧ (a ≤ 0 → Wp E y (pc + len) ls st g μ Q)) := (Wp_ifB hc ht).trans (ite_and hb_gt (by omega))
theorem Wp_if_le {off : Int} {t : Nat} {a : Int} (hc : mCode y pc = some (.ifCond .le off, len)) (ht : (pc : Int) + off = (t : Int)) : Wp E y pc ls (.inl a :: st) g μ Q = ((a ≤ 0 → Wp E y t ls st g μ Q) ∧ (0 < a → Wp E y (pc + len) ls st g μ Q)) := (Wp_ifB hc ht).trans (ite_and hb_le (by omega))
theorem Wp_cmp_eq {off : Int} {t : Nat} {a b : Int} (hc : mCode y pc = some (.if_icmp .eq off, len)) (ht : (pc : Int) + off = (t : Int)) : Wp E y pc ls (.inl b :: .inl a :: st) g μ Q = ((a = b → Wp E y t ls st g μ Q) ∧ (¬ a = b → Wp E y (pc + len) ls st g μ Q)) := (Wp_cmpB hc ht).trans (ite_and hb_eq Iff.rfl)
theorem Wp_cmp_ne {off : Int} {t : Nat} {a b : Int} (hc : mCode y pc = some (.if_icmp .ne off, len)) (ht : (pc : Int) + off = (t : Int)) : Wp E y pc ls (.inl b :: .inl a :: st) g μ Q = ((¬ a = b → Wp E y t ls st g μ Q) ∧ (a = b → Wp E y (pc + len) ls st g μ Q)) := (Wp_cmpB hc ht).trans (ite_and hb_ne (by omega))
theorem Wp_cmp_lt {off : Int} {t : Nat} {a b : Int} (hc : mCode y pc = some (.if_icmp .lt off, len)) (ht : (pc : Int) + off = (t : Int)) : Wp E y pc ls (.inl b :: .inl a :: st) g μ Q = ((a < b → Wp E y t ls st g μ Q) ∧ (b ≤ a → Wp E y (pc + len) ls st g μ Q)) := (Wp_cmpB hc ht).trans (ite_and hb_lt (by omega))
theorem Wp_cmp_ge {off : Int} {t : Nat} {a b : Int} (hc : mCode y pc = some (.if_icmp .ge off, len)) (ht : (pc : Int) + off = (t : Int)) : Wp E y pc ls (.inl b :: .inl a :: st) g μ Q = ((b ≤ a → Wp E y t ls st g μ Q) ∧ (a < b → Wp E y (pc + len) ls st g μ Q)) := (Wp_cmpB hc ht).trans (ite_and hb_ge (by omega))
theorem Wp_cmp_gt {off : Int} {t : Nat} {a b : Int} (hc : mCode y pc = some (.if_icmp .gt off, len)) (ht : (pc : Int) + off = (t : Int)) : Wp E y pc ls (.inl b :: .inl a :: st) g μ Q = ((b < a → Wp E y t ls st g μ Q) ∧ (a ≤ b → Wp E y (pc + len) ls st g μ Q)) := (Wp_cmpB hc ht).trans (ite_and hb_gt (by omega))
theorem Wp_cmp_le {off : Int} {t : Nat} {a b : Int} (hc : mCode y pc = some (.if_icmp .le off, len)) (ht : (pc : Int) + off = (t : Int)) : Wp E y pc ls (.inl b :: .inl a :: st) g μ Q = ((a ≤ b → Wp E y t ls st g μ Q) ∧ (b < a → Wp E y (pc + len) ls st g μ Q)) := (Wp_cmpB hc ht).trans (ite_and hb_le (by omega))
theorem Wp_sti {i : Instr} {k : Nat} {v : Int} {lk : Option MV} {lp : Option (Option MV)} {ls' : MLs} (hc : mCode y pc = some (i, len)) (hi : ∀ st, mStep E y pc i len ls st g μ = s_sti ls k (pc + len) st g μ) (h0 : ls[k]? = some lk) (h1 : mPv ls k = lp) (h2 : ls.set k (some (mI v)) = ls') :
    Wp E y pc ls (.inl v :: st) g μ Q = ((mNl lp = true ∧ mNl (some lk) = true) ∧ Wp E y (pc + len) ls' st g μ Q) := by
  have hk : k < ls.length := (List.getElem?_eq_some_iff.mp h0).1
  refine pr_c (fun h => Wp_nx hc ?_) (fun h => Wp_no hc ?_)
  · rw [hi]; show (if _ then _ else _) = _; rw [if_pos ⟨hk, by rw [h1]; exact h.1, by rw [h0]; exact h.2⟩, h2]; rfl
  · rw [hi]; show (if _ then _ else _) = _; rw [if_neg (fun z => h ⟨by rw [← h1]; exact z.2.1, by rw [← h0]; exact z.2.2⟩)]
theorem Wp_sta {i : Instr} {k : Nat} {v : Nat ⊕ Nat} {lk : Option MV} {lp : Option (Option MV)} {ls' : MLs} (hc : mCode y pc = some (i, len)) (hi : ∀ st, mStep E y pc i len ls st g μ = s_sta ls k (pc + len) st g μ) (h0 : ls[k]? = some lk) (h1 : mPv ls k = lp) (h2 : ls.set k (some (.inr (.inr v))) = ls') :
    Wp E y pc ls (.inr (.inr v) :: st) g μ Q = ((mNl lp = true ∧ mNl (some lk) = true) ∧ Wp E y (pc + len) ls' st g μ Q) := by
  have hk : k < ls.length := (List.getElem?_eq_some_iff.mp h0).1
  refine pr_c (fun h => Wp_nx hc ?_) (fun h => Wp_no hc ?_)
  · rw [hi]; show (if _ then _ else _) = _; rw [if_pos ⟨hk, by rw [h1]; exact h.1, by rw [h0]; exact h.2⟩, h2]; rfl
  · rw [hi]; show (if _ then _ else _) = _; rw [if_neg (fun z => h ⟨by rw [← h1]; exact z.2.1, by rw [← h0]; exact z.2.2⟩)]
theorem Wp_stl {i : Instr} {k : Nat} {v : Int} {lk : Option MV} {lp : Option (Option MV)} {ls' : MLs} (hc : mCode y pc = some (i, len)) (hi : ∀ st, mStep E y pc i len ls st g μ = s_stl ls k (pc + len) st g μ) (h0 : ls[k + 1]? = some lk) (h1 : mPv ls k = lp) (h2 : (ls.set k (some (mL v))).set (k + 1) none = ls') :
    Wp E y pc ls (.inr (.inl v) :: st) g μ Q = ((mNl lp = true ∧ mNl (some lk) = true) ∧ Wp E y (pc + len) ls' st g μ Q) := by
  have hk : k + 1 < ls.length := (List.getElem?_eq_some_iff.mp h0).1
  refine pr_c (fun h => Wp_nx hc ?_) (fun h => Wp_no hc ?_)
  · rw [hi]; show (if _ then _ else _) = _; rw [if_pos ⟨hk, by rw [h1]; exact h.1, by rw [h0]; exact h.2⟩, h2]; rfl
  · rw [hi]; show (if _ then _ else _) = _; rw [if_neg (fun z => h ⟨by rw [← h1]; exact z.2.1, by rw [← h0]; exact z.2.2⟩)]
theorem Wp_inc {k : Nat} {n v : Int} {lp : Option (Option MV)} {ls' : MLs} (hc : mCode y pc = some (.iinc k n, len)) (h0 : ls[k]? = some (some (.inl v))) (h1 : mPv ls k = lp) (h2 : ls.set k (some (mI (mWr (v + n)))) = ls') :
    Wp E y pc ls st g μ Q = (mNl lp = true ∧ Wp E y (pc + len) ls' st g μ Q) := by
  refine pr_c (fun h => Wp_nx hc ?_) (fun h => Wp_no hc ?_)
  · show s_inc _ _ _ _ _ _ _ = _; rw [s_inc, h0]; dsimp only; rw [if_pos (by rw [h1]; exact h), h2]; rfl
  · show s_inc _ _ _ _ _ _ _ = _; rw [s_inc, h0]; dsimp only; rw [if_neg (by rw [h1]; exact h)]
theorem Wp_div {i : Instr} {f : Int → Int → Int} {a b : Int} (hc : mCode y pc = some (i, len)) (hi : ∀ st, mStep E y pc i len ls st g μ = s_div f ls (pc + len) st g μ) : Wp E y pc ls (.inl b :: .inl a :: st) g μ Q = (¬ b = 0 ∧ Wp E y (pc + len) ls (.inl (f a b) :: st) g μ Q) := by
  refine pr_c (fun h => Wp_nx hc ?_) (fun h => Wp_no hc ?_)
  · rw [hi]; show (if _ then _ else _) = _; rw [if_neg h]; rfl
  · rw [hi]; show (if _ then _ else _) = _; rw [if_pos (Classical.not_not.mp h)]
theorem Wp_dup {v : MV} (hc : mCode y pc = some (.dup, len)) : Wp E y pc ls (v :: st) g μ Q = (mC1 v = true ∧ Wp E y (pc + len) ls (v :: v :: st) g μ Q) := by
  refine pr_c (fun h => Wp_nx hc ?_) (fun h => Wp_no hc ?_)
  · show (if _ then _ else _) = _; rw [if_pos h]; rfl
  · show (if _ then _ else _) = _; rw [if_neg h]
theorem Wp_dup2 {v w : MV} (hc : mCode y pc = some (.dup2, len)) : Wp E y pc ls (v :: w :: st) g μ Q = ((mC1 v = true ∧ mC1 w = true) ∧ Wp E y (pc + len) ls (v :: w :: v :: w :: st) g μ Q) := by
  refine pr_c (fun h => Wp_nx hc ?_) (fun h => Wp_no hc ?_)
  · show (if _ then _ else _) = _; rw [if_pos h]; rfl
  · show (if _ then _ else _) = _; rw [if_neg h]
theorem Wp_pop {v : MV} (hc : mCode y pc = some (.pop, len)) : Wp E y pc ls (v :: st) g μ Q = (mC1 v = true ∧ Wp E y (pc + len) ls st g μ Q) := by
  refine pr_c (fun h => Wp_nx hc ?_) (fun h => Wp_no hc ?_)
  · show (if _ then _ else _) = _; rw [if_pos h]; rfl
  · show (if _ then _ else _) = _; rw [if_neg h]
theorem Wp_getI {k ci f a : Nat} (hc : mCode y pc = some (.getfield k, len)) (hf : mFldOf (mCl y) k = some (ci, f)) (ht : ¬ mFty ci f = 3) (hn : f < mNfs ci) : Wp E y pc ls (.inr (.inr (.inl a)) :: st) g μ Q = ((mKd g a).1 = ci ∧ Wp E y (pc + len) ls (.inl (μ a f) :: st) g μ Q) := by
  refine pr_c (fun h => Wp_nx hc ?_) (fun h => Wp_no hc ?_)
  · show (match mFldOf (mCl y) k with | some (ci, f) => s_get ci f ls (pc + len) _ g μ | none => none) = _; rw [hf]; show (if _ then if _ then _ else _ else _) = _; rw [if_pos ⟨h, hn⟩, if_neg ht]; rfl
  · show (match mFldOf (mCl y) k with | some (ci, f) => s_get ci f ls (pc + len) _ g μ | none => none) = _; rw [hf]; show (if _ then if _ then _ else _ else _) = _; rw [if_neg (fun z => h z.1)]
theorem Wp_getR {k ci f a : Nat} (hc : mCode y pc = some (.getfield k, len)) (hf : mFldOf (mCl y) k = some (ci, f)) (ht : mFty ci f = 3) (hn : f < mNfs ci) : Wp E y pc ls (.inr (.inr (.inl a)) :: st) g μ Q = ((mKd g a).1 = ci ∧ Wp E y (pc + len) ls (mRv (mRf g a f) :: st) g μ Q) := by
  refine pr_c (fun h => Wp_nx hc ?_) (fun h => Wp_no hc ?_)
  · show (match mFldOf (mCl y) k with | some (ci, f) => s_get ci f ls (pc + len) _ g μ | none => none) = _; rw [hf]; show (if _ then if _ then _ else _ else _) = _; rw [if_pos ⟨h, hn⟩, if_pos ht]; rfl
  · show (match mFldOf (mCl y) k with | some (ci, f) => s_get ci f ls (pc + len) _ g μ | none => none) = _; rw [hf]; show (if _ then if _ then _ else _ else _) = _; rw [if_neg (fun z => h z.1)]
theorem Wp_putI {k ci f a : Nat} {v : Int} (hc : mCode y pc = some (.putfield k, len)) (hf : mFldOf (mCl y) k = some (ci, f)) (ht : ¬ mFty ci f = 3) (hn : f < mNfs ci) : Wp E y pc ls (.inl v :: .inr (.inr (.inl a)) :: st) g μ Q = (((mKd g a).1 = ci ∧ mOk (mFty ci f) v = true) ∧ Wp E y (pc + len) ls st g (mUp μ a f v) Q) := by
  refine pr_c (fun h => Wp_nx hc ?_) (fun h => Wp_no hc ?_)
  · show (match mFldOf (mCl y) k with | some (ci, f) => s_put (mIni y && mCl y == ci) ci f ls (pc + len) _ g μ | none => none) = _; rw [hf]; show (if _ then _ else _) = _; rw [if_pos ⟨h.1, hn, ht, h.2⟩]; rfl
  · show (match mFldOf (mCl y) k with | some (ci, f) => s_put (mIni y && mCl y == ci) ci f ls (pc + len) _ g μ | none => none) = _; rw [hf]; show (if _ then _ else _) = _; rw [if_neg (fun z => h ⟨z.1, z.2.2.2⟩)]
theorem Wp_putI0 {k ci f a : Nat} {v : Int} (hc : mCode y pc = some (.putfield k, len)) (hf : mFldOf (mCl y) k = some (ci, f)) (ht : mFty ci f = 0) (hn : f < mNfs ci) : Wp E y pc ls (.inl v :: .inr (.inr (.inl a)) :: st) g μ Q = ((mKd g a).1 = ci ∧ Wp E y (pc + len) ls st g (mUp μ a f v) Q) := by
  rw [Wp_putI hc hf (by omega) hn, ht]
  exact propext ⟨fun h => ⟨h.1.1, h.2⟩, fun h => ⟨⟨h.1, rfl⟩, h.2⟩⟩
theorem Wp_putR {k ci f a b : Nat} (hc : mCode y pc = some (.putfield k, len)) (hf : mFldOf (mCl y) k = some (ci, f)) (ht : mFty ci f = 3) (hn : f < mNfs ci) (hi : (mIni y && mCl y == ci) = true) : Wp E y pc ls (.inr (.inr (.inl b)) :: .inr (.inr (.inl a)) :: st) g μ Q = ((mKd g a).1 = ci ∧ Wp E y (pc + len) ls st (mSetR g a f (some b)) μ Q) := by
  refine pr_c (fun h => Wp_nx hc ?_) (fun h => Wp_no hc ?_)
  · show (match mFldOf (mCl y) k with | some (ci, f) => s_put (mIni y && mCl y == ci) ci f ls (pc + len) _ g μ | none => none) = _; rw [hf]; show (if _ then _ else _) = _; rw [if_pos ⟨h, hn, ht, hi⟩]; rfl
  · show (match mFldOf (mCl y) k with | some (ci, f) => s_put (mIni y && mCl y == ci) ci f ls (pc + len) _ g μ | none => none) = _; rw [hf]; show (if _ then _ else _) = _; rw [if_neg (fun z => h z.1)]
theorem Wp_ald {i : Instr} {t a : Nat} {j : Int} (hc : mCode y pc = some (i, len)) (hi : ∀ st, mStep E y pc i len ls st g μ = s_ald t E ls (pc + len) st g μ) : Wp E y pc ls (.inl j :: .inr (.inr (.inl a)) :: st) g μ Q = (((mKd g a).1 = t ∧ 0 ≤ j ∧ j < (mKd g a).2) ∧ Wp E y (pc + len) ls (.inl (μ a j.toNat) :: st) g μ Q) := by
  refine pr_c (fun h => Wp_nx hc ?_) (fun h => Wp_no hc ?_)
  · rw [hi]; show (if _ then _ else _) = _; rw [if_pos h]; rfl
  · rw [hi]; show (if _ then _ else _) = _; rw [if_neg h]
theorem Wp_aldK {c : Nat} {j : Int} (hc : mCode y pc = some (.iaload, len)) (hk : mk_isI c = true) : Wp E y pc ls (.inl j :: .inr (.inr (.inr c)) :: st) g μ Q = ((0 ≤ j ∧ j < mk_len E c) ∧ Wp E y (pc + len) ls (.inl (mk_int E c j.toNat) :: st) g μ Q) := by
  refine pr_c (fun h => Wp_nx hc ?_) (fun h => Wp_no hc ?_)
  · show (if _ then if _ then _ else _ else _) = _; rw [if_pos h, if_pos ⟨rfl, hk⟩]; rfl
  · show (if _ then if _ then _ else _ else _) = _; rw [if_neg h]
theorem Wp_aldB {c : Nat} {j : Int} (hc : mCode y pc = some (.baload, len)) : Wp E y pc ls (.inl j :: .inr (.inr (.inr c)) :: st) g μ Q = ((mk_isB c = true ∧ 0 ≤ j ∧ j < mk_len E c) ∧ Wp E y (pc + len) ls (.inl ((mk_txt (c - 20)).getD j.toNat 0) :: st) g μ Q) := by
  refine pr_c (fun h => Wp_nx hc ?_) (fun h => Wp_no hc ?_)
  · show (if _ then if _ then _ else if _ then _ else _ else _) = _; rw [if_pos h.2, if_neg (fun z => by cases z.1), if_pos ⟨rfl, h.1⟩]; rfl
  · show (if _ then if _ then _ else if _ then _ else _ else _) = _
    by_cases z : 0 ≤ j ∧ j < mk_len E c
    · rw [if_pos z, if_neg (fun z => by cases z.1), if_neg (fun w => h ⟨w.2, z⟩)]
    · rw [if_neg z]
theorem Wp_ast {i : Instr} {t ty a : Nat} {j v : Int} (hc : mCode y pc = some (i, len)) (hi : ∀ st, mStep E y pc i len ls st g μ = s_ast t ty ls (pc + len) st g μ) : Wp E y pc ls (.inl v :: .inl j :: .inr (.inr (.inl a)) :: st) g μ Q = (((mKd g a).1 = t ∧ 0 ≤ j ∧ j < (mKd g a).2 ∧ mOk ty v = true) ∧ Wp E y (pc + len) ls st g (mUp μ a j.toNat v) Q) := by
  refine pr_c (fun h => Wp_nx hc ?_) (fun h => Wp_no hc ?_)
  · rw [hi]; show (if _ then _ else _) = _; rw [if_pos h]; rfl
  · rw [hi]; show (if _ then _ else _) = _; rw [if_neg h]
theorem Wp_iast {a : Nat} {j v : Int} (hc : mCode y pc = some (.iastore, len)) : Wp E y pc ls (.inl v :: .inl j :: .inr (.inr (.inl a)) :: st) g μ Q = (((mKd g a).1 = 10 ∧ 0 ≤ j ∧ j < (mKd g a).2) ∧ Wp E y (pc + len) ls st g (mUp μ a j.toNat v) Q) := by
  rw [Wp_ast hc (fun _ => rfl)]
  exact propext ⟨fun h => ⟨⟨h.1.1, h.1.2.1, h.1.2.2.1⟩, h.2⟩, fun h => ⟨⟨h.1.1, h.1.2.1, h.1.2.2, rfl⟩, h.2⟩⟩
theorem Wp_alen {a : Nat} (hc : mCode y pc = some (.arraylength, len)) : Wp E y pc ls (.inr (.inr (.inl a)) :: st) g μ Q = ((10 ≤ (mKd g a).1 ∧ (mKd g a).1 < 15) ∧ Wp E y (pc + len) ls (.inl (mKd g a).2 :: st) g μ Q) := by
  refine pr_c (fun h => Wp_nx hc ?_) (fun h => Wp_no hc ?_)
  · show (if _ then _ else _) = _; rw [if_pos h]; rfl
  · show (if _ then _ else _) = _; rw [if_neg h]
theorem Wp_alenK {c : Nat} (hc : mCode y pc = some (.arraylength, len)) : Wp E y pc ls (.inr (.inr (.inr c)) :: st) g μ Q = ((mk_isI c = true ∨ mk_isB c = true) ∧ Wp E y (pc + len) ls (.inl (mk_len E c) :: st) g μ Q) := by
  refine pr_c (fun h => Wp_nx hc ?_) (fun h => Wp_no hc ?_)
  · show (if _ then _ else _) = _; rw [if_pos h]; rfl
  · show (if _ then _ else _) = _; rw [if_neg h]
theorem Wp_aald {a : Nat} {j : Int} (hc : mCode y pc = some (.aaload, len)) : Wp E y pc ls (.inl j :: .inr (.inr (.inl a)) :: st) g μ Q = ((((mKd g a).1 = 13 ∨ (mKd g a).1 = 14) ∧ 0 ≤ j ∧ j < (mKd g a).2) ∧ Wp E y (pc + len) ls (mRv (mRf g a j.toNat) :: st) g μ Q) := by
  refine pr_c (fun h => Wp_nx hc ?_) (fun h => Wp_no hc ?_)
  · show (if _ then _ else _) = _; rw [if_pos h]; rfl
  · show (if _ then _ else _) = _; rw [if_neg h]
theorem Wp_aast {a b : Nat} {j : Int} (hc : mCode y pc = some (.aastore, len)) : Wp E y pc ls (.inr (.inr (.inl b)) :: .inl j :: .inr (.inr (.inl a)) :: st) g μ Q = (((((mKd g a).1 = 13 ∧ (mKd g b).1 = 0) ∨ ((mKd g a).1 = 14 ∧ (mKd g b).1 = 4)) ∧ 0 ≤ j ∧ j < (mKd g a).2) ∧ Wp E y (pc + len) ls st (mSetR g a j.toNat (some b)) μ Q) := by
  refine pr_c (fun h => Wp_nx hc ?_) (fun h => Wp_no hc ?_)
  · show (if _ then _ else _) = _; rw [if_pos h]; rfl
  · show (if _ then _ else _) = _; rw [if_neg h]
theorem Wp_newa {i : Instr} {t : Nat} {n : Int} (hc : mCode y pc = some (i, len)) (hi : ∀ st, mStep E y pc i len ls st g μ = s_newa t ls (pc + len) st g μ) : Wp E y pc ls (.inl n :: st) g μ Q = ((0 ≤ n ∧ n < 2000) ∧ Wp E y (pc + len) ls (mR g.1 :: st) (mGrow g (t, n.toNat) n.toNat) (mZero μ g.1) Q) := by
  refine pr_c (fun h => Wp_nx hc ?_) (fun h => Wp_no hc ?_)
  · rw [hi]; show (if _ then _ else _) = _; rw [if_pos h]; rfl
  · rw [hi]; show (if _ then _ else _) = _; rw [if_neg h]
theorem Wp_anew {k ci : Nat} {n : Int} (hc : mCode y pc = some (.anewarray k, len)) (hf : mClsOf (mCl y) k = some ci) (h0 : ci = 0 ∨ ci = 4) : Wp E y pc ls (.inl n :: st) g μ Q = ((0 ≤ n ∧ n < 2000) ∧ Wp E y (pc + len) ls (mR g.1 :: st) (mGrow g (if ci = 0 then 13 else 14, n.toNat) n.toNat) (mZero μ g.1) Q) := by
  refine pr_c (fun h => Wp_nx hc ?_) (fun h => Wp_no hc ?_)
  · show (match mClsOf (mCl y) k with | some ci => s_anew ci ls (pc + len) _ g μ | none => none) = _; rw [hf]; show (if _ then _ else _) = _; rw [if_pos ⟨h.1, h.2, h0⟩]; rfl
  · show (match mClsOf (mCl y) k with | some ci => s_anew ci ls (pc + len) _ g μ | none => none) = _; rw [hf]; show (if _ then _ else _) = _; rw [if_neg (fun z => h ⟨z.1, z.2.1⟩)]
theorem Wp_new {k ci : Nat} (hc : mCode y pc = some (.new k, len)) (hf : mClsOf (mCl y) k = some ci) : Wp E y pc ls st g μ Q = Wp E y (pc + len) ls (mR g.1 :: st) (mGrow g (ci, 0) (mNfs ci)) (mZero μ g.1) Q :=
  Wp_nx hc (by show (match mClsOf (mCl y) k with | some ci => s_new ci ls (pc + len) _ g μ | none => none) = _; rw [hf]; rfl)
theorem Wp_gst {k : Nat} {v : MV} (hc : mCode y pc = some (.getstatic k, len)) (hf : mGstOf (mCl y) k = some v) : Wp E y pc ls st g μ Q = Wp E y (pc + len) ls (v :: st) g μ Q :=
  Wp_nx hc (by show (match mGstOf (mCl y) k with | some v => mNx (pc + len) ls (v :: st) g μ | none => none) = _; rw [hf]; rfl)
theorem Wp_ldc {k : Nat} {v : MV} (hc : mCode y pc = some (.ldc k, len)) (hf : mLd1 (mLdcOf (mCl y) k) = some v) : Wp E y pc ls st g μ Q = Wp E y (pc + len) ls (v :: st) g μ Q :=
  Wp_nx hc (by show (match mLd1 (mLdcOf (mCl y) k) with | some v => mNx (pc + len) ls (v :: st) g μ | none => none) = _; rw [hf]; rfl)
theorem Wp_ldc_w {k : Nat} {v : MV} (hc : mCode y pc = some (.ldc_w k, len)) (hf : mLd2 (mLdcOf (mCl y) k) = some v) : Wp E y pc ls st g μ Q = Wp E y (pc + len) ls (v :: st) g μ Q :=
  Wp_nx hc (by show (match mLd2 (mLdcOf (mCl y) k) with | some v => mNx (pc + len) ls (v :: st) g μ | none => none) = _; rw [hf]; rfl)
theorem Wp_ldc2_w {k : Nat} {v : MV} (hc : mCode y pc = some (.ldc2_w k, len)) (hf : mLd3 (mLdcOf (mCl y) k) = some v) : Wp E y pc ls st g μ Q = Wp E y (pc + len) ls (v :: st) g μ Q :=
  Wp_nx hc (by show (match mLd3 (mLdcOf (mCl y) k) with | some v => mNx (pc + len) ls (v :: st) g μ | none => none) = _; rw [hf]; rfl)
theorem Wp_lsw {d : Int} {ps : Array (Int × Int)} {a off : Int} {t : Nat} (hc : mCode y pc = some (.lookupswitch d ps, len)) (hs : ((ps.toList.zip (ps.toList.drop 1)).all (fun (a, next) => a.1 < next.1)) = true) (ho : Op.lookupswitch.offset ps.toList d a = off) (ht : (pc : Int) + off = (t : Int)) : Wp E y pc ls (.inl a :: st) g μ Q = Wp E y t ls st g μ Q :=
  Wp_nx hc (by show (if _ then _ else _) = _; rw [if_pos ⟨hs, by rw [ho]; omega⟩, ho, mJmp, ht]; rfl)
theorem Wp_tswD {d lo hi : Int} {offs : Array Int} {a : Int} {t : Nat} (hc : mCode y pc = some (.tableswitch d lo hi offs, len)) (h : a < lo ∨ hi < a) (ht : (pc : Int) + d = (t : Int)) : Wp E y pc ls (.inl a :: st) g μ Q = Wp E y t ls st g μ Q :=
  Wp_nx hc (by show (if _ then (if _ then _ else _) else _) = _; rw [if_pos h, if_neg (by omega), mJmp, ht]; rfl)
theorem Wp_getS0 {k c : Nat} (hc : mCode y pc = some (.getfield k, len)) (hf : mFldOf (mCl y) k = some (7, 0)) : Wp E y pc ls (.inr (.inr (.inr c)) :: st) g μ Q = (mk_isS c = true ∧ Wp E y (pc + len) ls (mK (c + 10) :: st) g μ Q) := by
  refine pr_c (fun h => Wp_nx hc ?_) (fun h => Wp_no hc ?_)
  · show (match mFldOf (mCl y) k with | some (ci, f) => s_get ci f ls (pc + len) _ g μ | none => none) = _; rw [hf]; show (if _ then if _ then _ else _ else _) = _; rw [if_pos ⟨rfl, h⟩, if_pos rfl]; rfl
  · show (match mFldOf (mCl y) k with | some (ci, f) => s_get ci f ls (pc + len) _ g μ | none => none) = _; rw [hf]; show (if _ then if _ then _ else _ else _) = _; rw [if_neg (fun z => h z.2)]
theorem Wp_getS1 {k c : Nat} (hc : mCode y pc = some (.getfield k, len)) (hf : mFldOf (mCl y) k = some (7, 1)) : Wp E y pc ls (.inr (.inr (.inr c)) :: st) g μ Q = (mk_isS c = true ∧ Wp E y (pc + len) ls (mI 0 :: st) g μ Q) := by
  refine pr_c (fun h => Wp_nx hc ?_) (fun h => Wp_no hc ?_)
  · show (match mFldOf (mCl y) k with | some (ci, f) => s_get ci f ls (pc + len) _ g μ | none => none) = _; rw [hf]; show (if _ then if _ then _ else if _ then _ else _ else _) = _; rw [if_pos ⟨rfl, h⟩, if_neg (by decide), if_pos rfl]; rfl
  · show (match mFldOf (mCl y) k with | some (ci, f) => s_get ci f ls (pc + len) _ g μ | none => none) = _; rw [hf]; show (if _ then if _ then _ else if _ then _ else _ else _) = _; rw [if_neg (fun z => h z.2)]
theorem Wp_copy {k a a0 : Nat} {n dp sp : Int} {n9 w9 : Nat} (hc : mCode y pc = some (.invokestatic k, len)) (hm : mMthOf (mCl y) k = some (1000, n9, w9)) : Wp E y pc ls (.inl n :: .inl dp :: .inr (.inr (.inl a)) :: .inl sp :: .inr (.inr (.inl a0)) :: st) g μ Q = (((mKd g a).1 = 10 ∧ (mKd g a0).1 = 10 ∧ 0 ≤ sp ∧ 0 ≤ dp ∧ 0 ≤ n ∧ sp + n ≤ (mKd g a0).2 ∧ dp + n ≤ (mKd g a).2 ∧ st.length ≤ 4) ∧ Wp E y (pc + len) ls st g (mCpy μ a0 sp.toNat a dp.toNat n.toNat) Q) := by
  have e : ∀ st, mStep E y pc (.invokestatic k) len ls st g μ = s_copy ls (pc + len) st g μ := fun st => by
    show (match mMthOf (mCl y) k with | some (y', n, w) => if y' = 1000 then s_copy ls (pc + len) st g μ else if w = 100 then s_call y' n w st g else none | none => none) = _
    rw [hm]; rfl
  refine pr_c (fun h => Wp_nx hc ?_) (fun h => Wp_no hc ?_)
  · rw [e]; show (if _ then _ else _) = _; rw [if_pos h]; rfl
  · rw [e]; show (if _ then _ else _) = _; rw [if_neg h]
theorem Wp_copyK {k a : Nat} {n dp sp : Int} {n9 w9 : Nat} (hc : mCode y pc = some (.invokestatic k, len)) (hm : mMthOf (mCl y) k = some (1000, n9, w9)) : Wp E y pc ls (.inl n :: .inl dp :: .inr (.inr (.inl a)) :: .inl sp :: .inr (.inr (.inr 2)) :: st) g μ Q = (((mKd g a).1 = 10 ∧ (2 : Nat) = 2 ∧ sp = 0 ∧ dp = 0 ∧ 0 ≤ n ∧ n ≤ 5 ∧ n ≤ (mKd g a).2 ∧ st.length ≤ 4) ∧ Wp E y (pc + len) ls st g (mCpc μ (fun i => ([15, 5, 10, 3, 5] : List Int).getD i 0) a n.toNat) Q) := by
  have e : ∀ st, mStep E y pc (.invokestatic k) len ls st g μ = s_copy ls (pc + len) st g μ := fun st => by
    show (match mMthOf (mCl y) k with | some (y', n, w) => if y' = 1000 then s_copy ls (pc + len) st g μ else if w = 100 then s_call y' n w st g else none | none => none) = _
    rw [hm]; rfl
  refine pr_c (fun h => Wp_nx hc ?_) (fun h => Wp_no hc ?_)
  · rw [e]; show (if _ then _ else _) = _; rw [if_pos h]; rfl
  · rw [e]; show (if _ then _ else _) = _; rw [if_neg h]
theorem Wp_oin {k a : Nat} {n9 w9 : Nat} (hc : mCode y pc = some (.invokespecial k, len)) (hm : mMthOf (mCl y) k = some (1001, n9, w9)) : Wp E y pc ls (.inr (.inr (.inl a)) :: st) g μ Q = (st.length ≤ 4 ∧ Wp E y (pc + len) ls st g μ Q) := by
  have e : ∀ st, mStep E y pc (.invokespecial k) len ls st g μ = s_oin ls (pc + len) st g μ := fun st => by
    show (match mMthOf (mCl y) k with | some (y', n, w) => if y' = 1001 then s_oin ls (pc + len) st g μ else if 20 ≤ w ∧ w < 30 then s_call y' n (w - 20) st g else none | none => none) = _
    rw [hm]; rfl
  refine pr_c (fun h => Wp_nx hc ?_) (fun h => Wp_no hc ?_)
  · rw [e]; show (if _ then _ else _) = _; rw [if_pos h]; rfl
  · rw [e]; show (if _ then _ else _) = _; rw [if_neg h]
theorem Wp_cG {i : Instr} {y' n w : Nat} {as rest : List MV} {ls' : MLs} (hc : mCode y pc = some (i, len)) (hi : mStep E y pc i len ls st g μ = s_call y' n w st g) (hst : st = as.reverse ++ rest) (hn : as.length = n) (he : mEnt (mMax y') as = ls') (hl : (mEntL as).length ≤ mMax y' ∧ mRoom y y' = true) :
    Wp E y pc ls st g μ Q = ((rest.length ≤ 4 ∧ (w = 100 ∨ mRcv w g as = true)) ∧ Wp E y' 0 ls' [] g μ (fun r g' μ' => (g'.1 = g.1 + mCell y' ∧ g'.2.1 = g.2.1 + mSlot y') ∧ Wp E y (pc + 3) ls (mPush r rest) g' μ' Q)) := by
  subst hst
  subst hn
  have e1 : (as.reverse ++ rest).take as.length = as.reverse := by rw [← List.length_reverse, List.take_left]
  have e2 : (as.reverse ++ rest).drop as.length = rest := by rw [← List.length_reverse, List.drop_left]
  have e3 : as.length ≤ (as.reverse ++ rest).length := by simp
  refine pr_c (fun h => ?_) (fun h => Wp_no hc ?_)
  · rw [← he]
    refine Wp_callG hc ?_ hl
    rw [hi, s_call, e1, e2, List.reverse_reverse, if_pos ⟨e3, h.1, h.2⟩]
  · rw [hi, s_call, e1, e2, List.reverse_reverse, if_neg (fun z => h z.2)]
theorem Wp_cV {k y' n w : Nat} {as rest : List MV} {ls' : MLs} (hc : mCode y pc = some (.invokevirtual k, len)) (hm : mMthOf (mCl y) k = some (y', n, w)) (hw : w < 10) (hst : st = as.reverse ++ rest) (hn : as.length = n) (he : mEnt (mMax y') as = ls') (hl : (mEntL as).length ≤ mMax y' ∧ mRoom y y' = true) :
    Wp E y pc ls st g μ Q = ((rest.length ≤ 4 ∧ mRcv w g as = true) ∧ Wp E y' 0 ls' [] g μ (fun r g' μ' => (g'.1 = g.1 + mCell y' ∧ g'.2.1 = g.2.1 + mSlot y') ∧ Wp E y (pc + 3) ls (mPush r rest) g' μ' Q)) := by
  have e : (w = 100 ∨ mRcv w g as = true) = (mRcv w g as = true) := propext ⟨fun h => h.elim (fun h => absurd h (by omega)) id, Or.inr⟩
  rw [Wp_cG (y' := y') (n := n) (w := w) hc (by show (match mMthOf (mCl y) k with | some (y', n, w) => if w < 10 then s_call y' n w st g else none | none => none) = _; rw [hm]; exact if_pos hw) hst hn he hl, e]
theorem Wp_cI {k y' n w : Nat} {as rest : List MV} {ls' : MLs} (hc : mCode y pc = some (.invokespecial k, len)) (hm : mMthOf (mCl y) k = some (y', n, w + 20)) (hy : ¬ y' = 1001) (hw : w < 10) (hst : st = as.reverse ++ rest) (hn : as.length = n) (he : mEnt (mMax y') as = ls') (hl : (mEntL as).length ≤ mMax y' ∧ mRoom y y' = true) :
    Wp E y pc ls st g μ Q = ((rest.length ≤ 4 ∧ mRcv w g as = true) ∧ Wp E y' 0 ls' [] g μ (fun r g' μ' => (g'.1 = g.1 + mCell y' ∧ g'.2.1 = g.2.1 + mSlot y') ∧ Wp E y (pc + 3) ls (mPush r rest) g' μ' Q)) := by
  have e : (w = 100 ∨ mRcv w g as = true) = (mRcv w g as = true) := propext ⟨fun h => h.elim (fun h => absurd h (by omega)) id, Or.inr⟩
  rw [Wp_cG (y' := y') (n := n) (w := w) hc (by show (match mMthOf (mCl y) k with | some (y', n, w) => if y' = 1001 then s_oin ls (pc + len) st g μ else if 20 ≤ w ∧ w < 30 then s_call y' n (w - 20) st g else none | none => none) = _; rw [hm]; dsimp only; rw [if_neg hy, if_pos (by omega), Nat.add_sub_cancel]) hst hn he hl, e]
theorem Wp_cS {k y' n : Nat} {as rest : List MV} {ls' : MLs} (hc : mCode y pc = some (.invokestatic k, len)) (hm : mMthOf (mCl y) k = some (y', n, 100)) (hy : ¬ y' = 1000) (hst : st = as.reverse ++ rest) (hn : as.length = n) (he : mEnt (mMax y') as = ls') (hl : (mEntL as).length ≤ mMax y' ∧ mRoom y y' = true) :
    Wp E y pc ls st g μ Q = (rest.length ≤ 4 ∧ Wp E y' 0 ls' [] g μ (fun r g' μ' => (g'.1 = g.1 + mCell y' ∧ g'.2.1 = g.2.1 + mSlot y') ∧ Wp E y (pc + 3) ls (mPush r rest) g' μ' Q)) := by
  have e : (rest.length ≤ 4 ∧ (100 = 100 ∨ mRcv 100 g as = true)) = (rest.length ≤ 4) := propext ⟨fun h => h.1, fun h => ⟨h, Or.inl rfl⟩⟩
  rw [Wp_cG (y' := y') (n := n) (w := 100) hc (by show (match mMthOf (mCl y) k with | some (y', n, w) => if y' = 1000 then s_copy ls (pc + len) st g μ else if w = 100 then s_call y' n w st g else none | none => none) = _; rw [hm]; dsimp only; rw [if_neg hy, if_pos rfl]) hst hn he hl, e]
theorem st_iret {st : List MV} : mStep E y pc .ireturn len ls st g μ = s_iret (mRet y) st := by unfold mStep; rfl
theorem st_aret {st : List MV} : mStep E y pc .areturn len ls st g μ = s_aret (mRet y) st := by unfold mStep; rfl
theorem st_vret {st : List MV} : mStep E y pc .return_ len ls st g μ = s_vret (mRet y) st := by unfold mStep; rfl
theorem Wp_retI {v : Int} (hc : mCode y pc = some (.ireturn, len)) (hr : mRet y = 0) : Wp E y pc ls [.inl v] g μ Q = Q (some (.inl v)) g μ :=
  Wp_ret hc (by rw [st_iret, hr, s_iret]; exact if_neg (by simp [mOk]))
theorem Wp_retZ {v : Int} (hc : mCode y pc = some (.ireturn, len)) (hr : mRet y = 2) : Wp E y pc ls [.inl v] g μ Q = ((v = 0 ∨ v = 1) ∧ Q (some (.inl v)) g μ) := by
  refine pr_c (fun h => Wp_ret hc ?_) (fun h => Wp_no hc ?_)
  · rw [st_iret, hr, s_iret]; exact if_neg (by rcases h with rfl | rfl <;> simp [mOk])
  · rw [st_iret, hr, s_iret]; exact if_pos (by simp only [mOk]; simp; omega)
theorem Wp_retC {v : Int} (hc : mCode y pc = some (.ireturn, len)) (hr : mRet y = 1) : Wp E y pc ls [.inl v] g μ Q = ((0 ≤ v ∧ v < 65536) ∧ Q (some (.inl v)) g μ) := by
  refine pr_c (fun h => Wp_ret hc ?_) (fun h => Wp_no hc ?_)
  · rw [st_iret, hr, s_iret]; exact if_neg (by simp [mOk]; omega)
  · rw [st_iret, hr, s_iret]; exact if_pos (by simp only [mOk]; simp; omega)
theorem Wp_retB {v : Int} (hc : mCode y pc = some (.ireturn, len)) (hr : mRet y = 5) : Wp E y pc ls [.inl v] g μ Q = ((-128 ≤ v ∧ v < 128) ∧ Q (some (.inl v)) g μ) := by
  refine pr_c (fun h => Wp_ret hc ?_) (fun h => Wp_no hc ?_)
  · rw [st_iret, hr, s_iret]; exact if_neg (by simp; omega)
  · rw [st_iret, hr, s_iret]; exact if_pos (Or.inr (Or.inr (Or.inl ⟨rfl, h⟩)))
theorem Wp_retA {v : Nat ⊕ Nat} (hc : mCode y pc = some (.areturn, len)) (hr : mRet y = 3) : Wp E y pc ls [.inr (.inr v)] g μ Q = Q (some (.inr (.inr v))) g μ :=
  Wp_ret hc (by rw [st_aret, hr]; rfl)
theorem Wp_retV (hc : mCode y pc = some (.return_, len)) (hr : mRet y = 4) : Wp E y pc ls [] g μ Q = Q none g μ :=
  Wp_ret hc (by rw [st_vret, hr]; rfl)
theorem nl_i {v : Int} : mNl (some (some (.inl v))) = true := rfl
theorem nl_n : mNl none = true := rfl
theorem nl_o : mNl (some none) = true := rfl
theorem nl_r {v : Nat ⊕ Nat} : mNl (some (some (.inr (.inr v)))) = true := rfl
theorem c1_i {v : Int} : mC1 (.inl v) = true := rfl
theorem c1_r {v : Nat ⊕ Nat} : mC1 (.inr (.inr v)) = true := rfl
end WPI
