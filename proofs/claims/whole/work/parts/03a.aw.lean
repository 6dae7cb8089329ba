/-! The abstract walk: numbers are Int, cells are numbered by a layout, the memory is a function of cell and place; every cell has its least and greatest value. -/
section AWa
abbrev AV : Type := Int ⊕ (Int ⊕ Option Nat)
abbrev aI (x : Int) : AV := Sum.inl x
abbrev aL (x : Int) : AV := Sum.inr (Sum.inl x)
abbrev aR (k : Nat) : AV := Sum.inr (Sum.inr (some k))
abbrev aN : AV := Sum.inr (Sum.inr none)
abbrev Mem : Type := Nat → Nat → Int
/-- a field: (0, lo, hi) a number; (1, k, _) the cell k; (2, lo, hi) a cell's number, below 0 null -/
abbrev FD : Type := Nat × Int × Int
/-- a cell: an object (its class, its fields), or an array (its kind: 0 int, 1 boolean, 2 long, 3 sheets; length; lo; hi) -/
abbrev CD : Type := (Nat × List FD) ⊕ (Nat × Nat × Int × Int)
def i32 (x : Int) : Int32 := Int32.ofInt x
def i64 (x : Int) : Int64 := Int64.ofInt x
def wr (x : Int) : Int := (x + 2147483648) % 4294967296 - 2147483648
def wl (x : Int) : Int := (x + 9223372036854775808) % 18446744073709551616 - 9223372036854775808
theorem wr_id {x : Int} (h : -2147483648 ≤ x ∧ x < 2147483648) : wr x = x := by unfold wr; omega
theorem wl_id {x : Int} (h : -9223372036854775808 ≤ x ∧ x < 9223372036854775808) : wl x = x := by unfold wl; omega
theorem wr_in (x : Int) : -2147483648 ≤ wr x ∧ wr x < 2147483648 := by unfold wr; omega
theorem wl_in (x : Int) : -9223372036854775808 ≤ wl x ∧ wl x < 9223372036854775808 := by unfold wl; omega
theorem i32_toInt (x : Int) : (i32 x).toInt = wr x := by
  unfold i32 wr
  rw [Int32.toInt_ofInt, Int.bmod_def]
  simp only [Int32.size]
  split <;> omega
theorem i64_toInt (x : Int) : (i64 x).toInt = wl x := by
  unfold i64 wl
  rw [Int64.toInt_ofInt, Int.bmod_def]
  simp only [Int64.size]
  split <;> omega
theorem i32_id {x : Int} (h : -2147483648 ≤ x ∧ x < 2147483648) : (i32 x).toInt = x := by rw [i32_toInt, wr_id h]
theorem i64_id {x : Int} (h : -9223372036854775808 ≤ x ∧ x < 9223372036854775808) : (i64 x).toInt = x := by rw [i64_toInt, wl_id h]
theorem i32_of (a : Int32) : i32 a.toInt = a := Int32.ofInt_toInt a
theorem i64_of (a : Int64) : i64 a.toInt = a := Int64.ofInt_toInt a
theorem i32_wr (x : Int) : i32 (wr x) = i32 x := Int32.toInt_inj.mp (by rw [i32_toInt, i32_toInt, wr_id (wr_in x)])
theorem i64_wl (x : Int) : i64 (wl x) = i64 x := Int64.toInt_inj.mp (by rw [i64_toInt, i64_toInt, wl_id (wl_in x)])
theorem i32_add (x y : Int) : i32 x + i32 y = i32 (x + y) := (Int32.ofInt_add x y).symm
theorem i32_sub (x y : Int) : i32 x - i32 y = i32 (x - y) := (Int32.ofInt_sub x y).symm
theorem i32_mul (x y : Int) : i32 x * i32 y = i32 (x * y) := (Int32.ofInt_mul x y).symm
theorem i64_add (x y : Int) : i64 x + i64 y = i64 (x + y) := (Int64.ofInt_add x y).symm
theorem i64_sub (x y : Int) : i64 x - i64 y = i64 (x - y) := (Int64.ofInt_sub x y).symm
theorem i64_mul (x y : Int) : i64 x * i64 y = i64 (x * y) := (Int64.ofInt_mul x y).symm
theorem i32_eq {x y : Int} (hx : -2147483648 ≤ x ∧ x < 2147483648) (hy : -2147483648 ≤ y ∧ y < 2147483648) : i32 x = i32 y ↔ x = y := by
  rw [← Int32.toInt_inj, i32_id hx, i32_id hy]
theorem i32_lt {x y : Int} (hx : -2147483648 ≤ x ∧ x < 2147483648) (hy : -2147483648 ≤ y ∧ y < 2147483648) : i32 x < i32 y ↔ x < y := by
  rw [Int32.lt_iff_toInt_lt, i32_id hx, i32_id hy]
theorem i32_le {x y : Int} (hx : -2147483648 ≤ x ∧ x < 2147483648) (hy : -2147483648 ≤ y ∧ y < 2147483648) : i32 x ≤ i32 y ↔ x ≤ y := by
  rw [Int32.le_iff_toInt_le, i32_id hx, i32_id hy]
theorem i64_eq {x y : Int} (hx : -9223372036854775808 ≤ x ∧ x < 9223372036854775808) (hy : -9223372036854775808 ≤ y ∧ y < 9223372036854775808) : i64 x = i64 y ↔ x = y := by
  rw [← Int64.toInt_inj, i64_id hx, i64_id hy]
theorem i64_lt {x y : Int} (hx : -9223372036854775808 ≤ x ∧ x < 9223372036854775808) (hy : -9223372036854775808 ≤ y ∧ y < 9223372036854775808) : i64 x < i64 y ↔ x < y := by
  rw [Int64.lt_iff_toInt_lt, i64_id hx, i64_id hy]
theorem b8_32 {n : Int} (h : -128 ≤ n ∧ n < 128) : (Int8.ofInt n).toInt32 = i32 n := by
  rw [← Int32.toInt_inj, Int8.toInt_toInt32, Int8.toInt_ofInt, i32_id (by omega), Int.bmod_def]
  simp only [Int8.size]
  split <;> omega
theorem b16_32 {n : Int} (h : -32768 ≤ n ∧ n < 32768) : (Int16.ofInt n).toInt32 = i32 n := by
  rw [← Int32.toInt_inj, Int16.toInt_toInt32, Int16.toInt_ofInt, i32_id (by omega), Int.bmod_def]
  simp only [Int16.size]
  split <;> omega
theorem i32_0 : i32 0 = 0 := by decide +kernel
theorem i64_0 : i64 0 = 0 := by decide +kernel
theorem i32_clamp {x : Int} (h : -2147483648 ≤ x ∧ x < 2147483648) : (i32 x).toNatClampNeg = x.toNat := by
  show (i32 x).toInt.toNat = x.toNat
  rw [i32_id h]
theorem i32_in {x : Int} {n : Nat} (h : -2147483648 ≤ x ∧ x < 2147483648) (hn : 0 ≤ x ∧ x < n) : vp_in (i32 x) n := by
  rw [vp_in_iff, i32_id h]
  exact hn
def bAnd (x y : Int) : Int := (i32 x &&& i32 y).toInt
def bOr (x y : Int) : Int := (i32 x ||| i32 y).toInt
def bXor (x y : Int) : Int := (i32 x ^^^ i32 y).toInt
def bShl (x y : Int) : Int := (i32 x <<< (i32 y &&& 31)).toInt
def bShr (x y : Int) : Int := (i32 x >>> (i32 y &&& 31)).toInt
def bUsh (x y : Int) : Int := ((i32 x).toUInt32 >>> ((i32 y).toUInt32 &&& Int32.toUInt32 31)).toInt32.toInt
def lAnd (x y : Int) : Int := (i64 x &&& i64 y).toInt
def lShl (x y : Int) : Int := (i64 x <<< ((i32 y).toInt64 &&& 63)).toInt
def lShr (x y : Int) : Int := (i64 x >>> ((i32 y).toInt64 &&& 63)).toInt
def toB (x : Int) : Int := (i32 x).toInt8.toInt32.toInt
def toS (x : Int) : Int := (i32 x).toInt16.toInt32.toInt
theorem i32_rng (a : Int32) : -2147483648 ≤ a.toInt ∧ a.toInt < 2147483648 := by
  have h := wr_in a.toInt
  rwa [← i32_toInt, i32_of] at h
theorem i64_rng (a : Int64) : -9223372036854775808 ≤ a.toInt ∧ a.toInt < 9223372036854775808 := by
  have h := wl_in a.toInt
  rwa [← i64_toInt, i64_of] at h
def cv (ad : Nat → Nat) : AV → Value
  | .inl x => .int (i32 x)
  | .inr (.inl x) => .long (i64 x)
  | .inr (.inr (some k)) => .ref (ad k)
  | .inr (.inr none) => .null
def okV : AV → Prop
  | .inl x => -2147483648 ≤ x ∧ x < 2147483648
  | .inr (.inl x) => -9223372036854775808 ≤ x ∧ x < 9223372036854775808
  | .inr (.inr _) => True
def ctV : AV → Nat
  | .inr (.inl _) => 2
  | _ => 1
theorem ctV_cv (ad : Nat → Nat) (v : AV) : (cv ad v).category = ctV v := by
  rcases v with x | x | _ | k <;> rfl
def cfd (ad : Nat → Nat) (fd : FD) (x : Int) : Value := if fd.1 = 0 then .int (i32 x) else if fd.1 = 1 then .ref (ad fd.2.1.toNat) else if x < 0 then .null else .ref (ad x.toNat)
def carr (ad : Nat → Nat) (t : Nat) (f : Nat → Int) : (Nat → Int32) ⊕ (Nat → Int64) ⊕ (Nat → UInt32) ⊕ (Nat → UInt64) ⊕ (Nat → Option Nat) :=
  if t = 2 then .inr (.inl (fun j => i64 (f j))) else if t = 3 then .inr (.inr (.inr (.inr (fun j => if f j < 0 then none else some (ad (f j).toNat))))) else .inl (fun j => i32 (f j))
def ccell (ca : Nat → ClassId) (ad : Nat → Nat) (d : CD) (f : Nat → Int) : va_E := match d with
  | .inl (ci, fds) => .inr (ci, fds.mapIdx (fun j fd => cfd ad fd (f j)))
  | .inr (t, n, _, _) => .inl (ca t, n, carr ad t f)
def conc (ca : Nat → ClassId) (ad : Nat → Nat) (L : List CD) (M : Mem) : va_W := L.mapIdx (fun k d => (ad k, ccell ca ad d (M k)))
theorem conc_get {ca : Nat → ClassId} {ad : Nat → Nat} {L : List CD} {M : Mem} {k : Nat} {d : CD} (h : L[k]? = some d) : (conc ca ad L M)[k]? = some (ad k, ccell ca ad d (M k)) := by
  unfold conc
  rw [List.getElem?_mapIdx, h]
  rfl
def up (M : Mem) (k j : Nat) (v : Int) : Mem := fun a b => if a = k ∧ b = j then v else M a b
def up1 (f : Nat → Int) (j : Nat) (v : Int) : Nat → Int := fun b => if b = j then v else f b
theorem up_row (M : Mem) (k j : Nat) (v : Int) : up M k j v k = up1 (M k) j v := by
  funext b
  simp [up, up1]
theorem up_off {M : Mem} {k j a : Nat} {v : Int} (h : a ≠ k) : up M k j v a = M a := by
  funext b
  simp [up, h]
theorem up_at (M : Mem) (k j : Nat) (v : Int) : up M k j v k j = v := by simp [up]
theorem up_nj {M : Mem} {k j a b : Nat} {v : Int} (h : b ≠ j) : up M k j v a b = M a b := by simp [up, h]
theorem conc_up {ca : Nat → ClassId} {ad : Nat → Nat} {L : List CD} {M : Mem} {k j : Nat} {d : CD} {v : Int} (h : L[k]? = some d) : (conc ca ad L M).set k (ad k, ccell ca ad d (up1 (M k) j v)) = conc ca ad L (up M k j v) := by
  apply List.ext_getElem?
  intro i
  unfold conc
  rw [List.getElem?_set, List.getElem?_mapIdx, List.getElem?_mapIdx]
  have hk : k < L.length := (List.getElem?_eq_some_iff.mp h).1
  by_cases hi : k = i
  · subst hi
    rw [if_pos rfl, if_pos (by rw [List.length_mapIdx]; exact hk), h, up_row]
    rfl
  · rw [if_neg hi]
    cases hL : L[i]? with
    | none => rfl
    | some d' =>
      show some _ = some _
      rw [up_off (fun q => hi q.symm)]
def okC (d : CD) (f : Nat → Int) : Prop := match d with
  | .inl (_, fds) => ∀ (j : Nat) (fd : FD), fds[j]? = some fd → fd.1 ≠ 1 → fd.2.1 ≤ f j ∧ f j ≤ fd.2.2
  | .inr (_, _, lo, hi) => ∀ j : Nat, lo ≤ f j ∧ f j ≤ hi
/-- a layout's own bounds fit the machine's numbers; an object has as many fields as its class -/
def okD (d : CD) : Prop := match d with
  | .inl (ci, fds) => (∀ fd ∈ fds, fd.1 = 0 → -2147483648 ≤ fd.2.1 ∧ fd.2.2 < 2147483648) ∧ ∃ r, vwCl[ci]? = some r ∧ r.2.2 = fds.length
  | .inr (t, n, lo, hi) => (if t = 2 then -9223372036854775808 ≤ lo ∧ hi < 9223372036854775808 else -2147483648 ≤ lo ∧ hi < 2147483648) ∧ t < 4 ∧ n < 2147483648
def okM (L : List CD) (M : Mem) : Prop := ∀ (k : Nat) (d : CD), L[k]? = some d → okD d ∧ okC d (M k)
theorem okM_upA {L : List CD} {M : Mem} {k j t n : Nat} {lo hi v : Int} (h : L[k]? = some (.inr (t, n, lo, hi))) (om : okM L M) (hv : lo ≤ v ∧ v ≤ hi) : okM L (up M k j v) := by
  intro a d ha
  by_cases hk : a = k
  · subst hk
    rw [h] at ha
    cases ha
    refine ⟨(om a _ h).1, ?_⟩
    intro b
    have hb := (om a _ h).2 b
    rw [up_row]
    show lo ≤ up1 (M a) j v b ∧ up1 (M a) j v b ≤ hi
    unfold up1
    split
    · exact hv
    · exact hb
  · rw [up_off hk]
    exact om a d ha
theorem okM_upF {L : List CD} {M : Mem} {k j ci : Nat} {fds : List FD} {fd : FD} {v : Int} (h : L[k]? = some (.inl (ci, fds))) (hf : fds[j]? = some fd) (om : okM L M) (hv : fd.2.1 ≤ v ∧ v ≤ fd.2.2) : okM L (up M k j v) := by
  intro a d ha
  by_cases hk : a = k
  · subst hk
    rw [h] at ha
    cases ha
    refine ⟨(om a _ h).1, ?_⟩
    intro b fb hb h1
    have hb2 := (om a _ h).2 b fb hb h1
    rw [up_row]
    unfold up1
    split
    · rename_i e
      subst e
      rw [hf] at hb
      cases hb
      exact hv
    · exact hb2
  · rw [up_off hk]
    exact om a d ha
theorem os1 {a : AV} {stk : List AV} (h : ∀ v ∈ a :: stk, okV v) : ∀ v ∈ stk, okV v := (List.forall_mem_cons.mp h).2
theorem os0 {a : AV} {stk : List AV} (h : ∀ v ∈ a :: stk, okV v) : okV a := (List.forall_mem_cons.mp h).1
theorem osc {a : AV} {stk : List AV} (h0 : okV a) (h : ∀ v ∈ stk, okV v) : ∀ v ∈ a :: stk, okV v := List.forall_mem_cons.mpr ⟨h0, h⟩
def TY (ca : Nat → ClassId) : List (ClassId × FieldType) := [(ca 0, .int), (ca 1, .boolean), (ca 2, .long), (ca 3, .object "SwornElsewhere$Sheet")]
abbrev CTX : Type := Program × Launch × Env × Room × State × MethodId × Array Value × List Frame × Method × Code × Nat × Nat × (State → Prop) × va_G × (Nat → ClassId) × (Nat → Nat) × (Nat → Prop)
def cvl (ad : Nat → Nat) (loc : List (Nat × AV)) : List (Nat × Value) := loc.map (fun q => (q.1, cv ad q.2))
def AW (X : CTX) (L : List CD) (nL pc : Nat) (loc : List (Nat × AV)) (stk : List AV) (M : Mem) : Prop := match X with
  | (p, l, e, R, s, m, args, below, meth, c, cells, slots, Q, D, ca, ad, A) => ∀ (H : Heap) (locs : List Loc) (ls : Array Slot), va_P D vwCl (conc ca ad L M) H → va_D A (conc ca ad L M) → va_S A s.heap H locs → lv_has ls nL (cvl ad loc) → (∀ q ∈ loc, okV q.2) → (∀ v ∈ stk, okV v) → okM L M → W p l e R s m args below meth c H locs cells slots Q (F0 m pc ls (stk.map (cv ad)))
def NK (U : State) : Prop := ∀ w ∈ NWS, va_Nw w U
theorem NK.warm {s U : State} (hW : s.WarmedH U.vm) (h : NK s) : NK U := by
  intro w hw
  obtain ⟨a, i, x, h', rfl⟩ := NWS_form w hw
  exact va_Nw.warmM hW (h _ hw)
theorem NK.calling {U : State} {g : JFrame} {mk : MethodId} {a : Array Value} (h : NK U) : NK (U.calling g mk a) := by
  intro w hw
  obtain ⟨b, i, x, h', rfl⟩ := NWS_form w hw
  exact va_Nw.same rfl rfl (h _ hw)
def Cx (X : CTX) (cc : ByteArray) (own : String) (nL dd : Nat) : Prop := match X with
  | (p, _, _, R, s, m, args, _, _, c, cells, slots, _, D, ca, _, A) => p.tables.exec = Jvm.exec ∧ c.code = cc ∧ c.maxLocals = nL ∧ s.vm.findClass own = some m.cls ∧ (∀ w ∈ WS, w.before args s = true) ∧ va_K D vwCl (TY ca) s ∧ NK s ∧ (∀ q, s.heap.size ≤ q → A q) ∧ dd ≤ R.frames ∧ 40 * dd ≤ R.locals ∧ cells ≤ R.cells ∧ slots ≤ R.slots
end AWa
section AWr
variable {X : CTX} {L : List CD} {nL pc dd : Nat} {loc : List (Nat × AV)} {stk : List AV} {M : Mem} {cc : ByteArray} {own : String}
theorem aw_eq {pc2 : Nat} {loc2 : List (Nat × AV)} {stk2 : List AV} {M2 : Mem} (k : AW X L nL pc2 loc2 stk2 M2) (h1 : pc = pc2) (h2 : loc = loc2) (h3 : stk = stk2) (h4 : M = M2) : AW X L nL pc loc stk M := by
  subst h1; subst h2; subst h3; subst h4; exact k
/-- a value of the list of locals, the stack, may be used for its range -/
theorem aw_rngL {x : Int} (k : Nat) {i : Nat} (hk : loc[k]? = some (i, aI x)) (kk : -2147483648 ≤ x → x < 2147483648 → AW X L nL pc loc stk M) : AW X L nL pc loc stk M := by
  obtain ⟨p, l, e, R, s, m, args, below, meth, c, cells, slots, Q, D, ca, ad, A⟩ := X
  intro H locs ls hP hD hS hl ol os om
  have h : okV (aI x) := ol _ (List.mem_of_getElem? hk)
  exact kk h.1 h.2 H locs ls hP hD hS hl ol os om
theorem aw_rngS {x : Int} (kk : -2147483648 ≤ x → x < 2147483648 → AW X L nL pc loc (aI x :: stk) M) : AW X L nL pc loc (aI x :: stk) M := by
  obtain ⟨p, l, e, R, s, m, args, below, meth, c, cells, slots, Q, D, ca, ad, A⟩ := X
  intro H locs ls hP hD hS hl ol os om
  have h : okV (aI x) := os0 os
  exact kk h.1 h.2 H locs ls hP hD hS hl ol os om
theorem aw_ok (kk : okM L M → AW X L nL pc loc stk M) : AW X L nL pc loc stk M := by
  obtain ⟨p, l, e, R, s, m, args, below, meth, c, cells, slots, Q, D, ca, ad, A⟩ := X
  intro H locs ls hP hD hS hl ol os om
  exact kk om H locs ls hP hD hS hl ol os om
theorem aw_top {x : Int} (kk : ∀ z, z = x → AW X L nL pc loc (aI z :: stk) M) : AW X L nL pc loc (aI x :: stk) M := kk x rfl
theorem aw_topL {x : Int} (kk : ∀ z, z = x → AW X L nL pc loc (aL z :: stk) M) : AW X L nL pc loc (aL x :: stk) M := kk x rfl
/-- fewer locals -/
theorem aw_sub {loc2 : List (Nat × AV)} (ks : List Nat) (h : ks.filterMap (fun k => loc[k]?) = loc2) (kk : AW X L nL pc loc2 stk M) : AW X L nL pc loc stk M := by
  obtain ⟨p, l, e, R, s, m, args, below, meth, c, cells, slots, Q, D, ca, ad, A⟩ := X
  intro H locs ls hP hD hS hl ol os om
  have hm : ∀ q ∈ loc2, q ∈ loc := by
    intro q hq
    rw [← h] at hq
    obtain ⟨k, -, hk⟩ := List.mem_filterMap.mp hq
    exact List.mem_of_getElem? hk
  refine kk H locs ls hP hD hS ⟨hl.1, hl.2.1, fun q hq => ?_⟩ (fun q hq => ol q (hm q hq)) os om
  obtain ⟨q0, h0, rfl⟩ := List.mem_map.mp hq
  exact hl.2.2 _ (List.mem_map.mpr ⟨q0, hm q0 h0, rfl⟩)
theorem lv_pick_cvl {ls : Array Slot} {ad : Nat → Nat} {v : AV} {i : Nat} (hl : lv_has ls nL (cvl ad loc)) (k : Nat) (hk : loc[k]? = some (i, v)) : ls[i]? = some (.val (cv ad v)) :=
  hl.2.2 (i, cv ad v) (List.mem_map.mpr ⟨(i, v), List.mem_of_getElem? hk, rfl⟩)
def lgV : AV → Bool
  | .inr (.inl _) => true
  | _ => false
def stI (loc : List (Nat × AV)) (i : Nat) (v : AV) : List (Nat × AV) := (i, v) :: loc.filter (fun q => !(q.1 == i) && !(q.1 + 1 == i && lgV q.2))
def stL (loc : List (Nat × AV)) (i : Nat) (v : AV) : List (Nat × AV) := (i, v) :: loc.filter (fun q => !(q.1 == i) && (!(q.1 == i + 1) && !(q.1 + 1 == i && lgV q.2)))
theorem lgV_cv (ad : Nat → Nat) (v : AV) : ((cv ad v).category == 2) = lgV v := by
  rcases v with x | x | _ | k <;> rfl
theorem cvl_stI (ad : Nat → Nat) (loc : List (Nat × AV)) (i : Nat) (v : AV) : (i, cv ad v) :: (cvl ad loc).filter (fun q => !(q.1 == i) && !(q.1 + 1 == i && q.2.category == 2)) = cvl ad (stI loc i v) := by
  unfold cvl stI
  rw [List.map_cons, List.filter_map]
  congr 2
  apply List.filter_congr
  intro q _
  simp only [Function.comp, lgV_cv]
theorem cvl_stL (ad : Nat → Nat) (loc : List (Nat × AV)) (i : Nat) (v : AV) : (i, cv ad v) :: (cvl ad loc).filter (fun q => !(q.1 == i) && (!(q.1 == i + 1) && !(q.1 + 1 == i && q.2.category == 2))) = cvl ad (stL loc i v) := by
  unfold cvl stL
  rw [List.map_cons, List.filter_map]
  congr 2
  apply List.filter_congr
  intro q _
  simp only [Function.comp, lgV_cv]
theorem ok_stI {i : Nat} {v : AV} (ol : ∀ q ∈ loc, okV q.2) (hv : okV v) : ∀ q ∈ stI loc i v, okV q.2 := List.forall_mem_cons.mpr ⟨hv, fun q hq => ol q (List.mem_filter.mp hq).1⟩
theorem ok_stL {i : Nat} {v : AV} (ol : ∀ q ∈ loc, okV q.2) (hv : okV v) : ∀ q ∈ stL loc i v, okV q.2 := List.forall_mem_cons.mpr ⟨hv, fun q hq => ol q (List.mem_filter.mp hq).1⟩

theorem aw_iconst {n : Int} (cx : Cx X cc own nL dd) (d : decode cc pc = .ok (.iconst n, 1)) (hn : -2147483648 ≤ n ∧ n < 2147483648) (kk : AW X L nL (pc + 1) loc (aI n :: stk) M) : AW X L nL pc loc stk M := by
  obtain ⟨p, l, e, R, s, m, args, below, meth, c, cells, slots, Q, D, ca, ad, A⟩ := X
  obtain ⟨hx, hb, hml, hown, hts, hK, hN, hA, hfr, hlo, hce, hsl⟩ := cx
  intro H locs ls hP hD hS hl ol os om
  exact lv_iconst (v := i32 n) hx hb d rfl (kk H locs ls hP hD hS hl ol (osc hn os) om)
theorem aw_bipush {n : Int} (cx : Cx X cc own nL dd) (d : decode cc pc = .ok (.bipush n, 2)) (hn : -128 ≤ n ∧ n < 128) (kk : AW X L nL (pc + 2) loc (aI n :: stk) M) : AW X L nL pc loc stk M := by
  obtain ⟨p, l, e, R, s, m, args, below, meth, c, cells, slots, Q, D, ca, ad, A⟩ := X
  obtain ⟨hx, hb, hml, hown, hts, hK, hN, hA, hfr, hlo, hce, hsl⟩ := cx
  intro H locs ls hP hD hS hl ol os om
  have h8 := b8_32 hn
  have hn : -2147483648 ≤ n ∧ n < 2147483648 := by omega
  exact lv_bipush (v := i32 n) hx hb d h8 (kk H locs ls hP hD hS hl ol (osc hn os) om)
theorem aw_sipush {n : Int} (cx : Cx X cc own nL dd) (d : decode cc pc = .ok (.sipush n, 3)) (hn : -32768 ≤ n ∧ n < 32768) (kk : AW X L nL (pc + 3) loc (aI n :: stk) M) : AW X L nL pc loc stk M := by
  obtain ⟨p, l, e, R, s, m, args, below, meth, c, cells, slots, Q, D, ca, ad, A⟩ := X
  obtain ⟨hx, hb, hml, hown, hts, hK, hN, hA, hfr, hlo, hce, hsl⟩ := cx
  intro H locs ls hP hD hS hl ol os om
  have h8 := b16_32 hn
  have hn : -2147483648 ≤ n ∧ n < 2147483648 := by omega
  exact lv_sipush (v := i32 n) hx hb d h8 (kk H locs ls hP hD hS hl ol (osc hn os) om)
theorem aw_lconst {n : Fin 2} {v : Int} (cx : Cx X cc own nL dd) (d : decode cc pc = .ok (.lconst n, 1)) (hv : v = (n.val : Int)) (kk : AW X L nL (pc + 1) loc (aL v :: stk) M) : AW X L nL pc loc stk M := by
  obtain ⟨p, l, e, R, s, m, args, below, meth, c, cells, slots, Q, D, ca, ad, A⟩ := X
  obtain ⟨hx, hb, hml, hown, hts, hK, hN, hA, hfr, hlo, hce, hsl⟩ := cx
  intro H locs ls hP hD hS hl ol os om
  have hn : n.val < 2 := n.isLt
  refine lv_lconst (v := i64 v) hx hb d ?_ (kk H locs ls hP hD hS hl ol (osc (show _ ∧ _ from ⟨by omega, by omega⟩) os) om)
  subst hv
  first | rfl | (rcases n with ⟨n, hn⟩; match n, hn with | 0, _ => rfl | 1, _ => rfl)
theorem aw_ldc {index : Nat} {v : Int32} {x : Int} (cx : Cx X cc own nL dd) (d : decode cc pc = .ok (.ldc index, 2)) (hw : Cond.constant own index v ∈ WS) (hv : v.toInt = x) (kk : AW X L nL (pc + 2) loc (aI x :: stk) M) : AW X L nL pc loc stk M := by
  obtain ⟨p, l, e, R, s, m, args, below, meth, c, cells, slots, Q, D, ca, ad, A⟩ := X
  obtain ⟨hx, hb, hml, hown, hts, hK, hN, hA, hfr, hlo, hce, hsl⟩ := cx
  intro H locs ls hP hD hS hl ol os om
  refine lv_ldc hx hb hown (hts _ hw) d ?_
  subst hv
  have h := kk H locs ls hP hD hS hl ol (osc (i32_rng v) os) om
  rw [List.map_cons, show cv ad (aI v.toInt) = .int v by show Value.int (i32 v.toInt) = _; rw [i32_of]] at h
  exact h
theorem aw_ldc_w {index : Nat} {v : Int32} {x : Int} (cx : Cx X cc own nL dd) (d : decode cc pc = .ok (.ldc_w index, 3)) (hw : Cond.constant own index v ∈ WS) (hv : v.toInt = x) (kk : AW X L nL (pc + 3) loc (aI x :: stk) M) : AW X L nL pc loc stk M := by
  obtain ⟨p, l, e, R, s, m, args, below, meth, c, cells, slots, Q, D, ca, ad, A⟩ := X
  obtain ⟨hx, hb, hml, hown, hts, hK, hN, hA, hfr, hlo, hce, hsl⟩ := cx
  intro H locs ls hP hD hS hl ol os om
  refine lv_ldcw hx hb hown (hts _ hw) d ?_
  subst hv
  have h := kk H locs ls hP hD hS hl ol (osc (i32_rng v) os) om
  rw [List.map_cons, show cv ad (aI v.toInt) = .int v by show Value.int (i32 v.toInt) = _; rw [i32_of]] at h
  exact h
theorem aw_ldc2 {index : Nat} {v : Int64} {x : Int} (cx : Cx X cc own nL dd) (d : decode cc pc = .ok (.ldc2_w index, 3)) (hw : Cond.constantLong own index v ∈ WS) (hv : v.toInt = x) (kk : AW X L nL (pc + 3) loc (aL x :: stk) M) : AW X L nL pc loc stk M := by
  obtain ⟨p, l, e, R, s, m, args, below, meth, c, cells, slots, Q, D, ca, ad, A⟩ := X
  obtain ⟨hx, hb, hml, hown, hts, hK, hN, hA, hfr, hlo, hce, hsl⟩ := cx
  intro H locs ls hP hD hS hl ol os om
  refine lv_ldc2 hx hb hown (hts _ hw) d ?_
  subst hv
  have h := kk H locs ls hP hD hS hl ol (osc (i64_rng v) os) om
  rw [List.map_cons, show cv ad (aL v.toInt) = .long v by show Value.long (i64 v.toInt) = _; rw [i64_of]] at h
  exact h
theorem aw_iload_n {k4 : Fin 4} {i : Nat} {x : Int} (cx : Cx X cc own nL dd) (d : decode cc pc = .ok (.iload_n k4, 1)) (hi : (k4 : Nat) = i) (k : Nat) (hk : loc[k]? = some (i, aI x)) (kk : AW X L nL (pc + 1) loc (aI x :: stk) M) : AW X L nL pc loc stk M := by
  obtain ⟨p, l, e, R, s, m, args, below, meth, c, cells, slots, Q, D, ca, ad, A⟩ := X
  obtain ⟨hx, hb, hml, hown, hts, hK, hN, hA, hfr, hlo, hce, hsl⟩ := cx
  intro H locs ls hP hD hS hl ol os om
  exact lv_iload_n hx hb d hi (lv_pick_cvl hl k hk) (kk H locs ls hP hD hS hl ol (osc (ol _ (List.mem_of_getElem? hk)) os) om)
theorem aw_iload {i : Nat} {x : Int} (cx : Cx X cc own nL dd) (d : decode cc pc = .ok (.iload i, 2)) (k : Nat) (hk : loc[k]? = some (i, aI x)) (kk : AW X L nL (pc + 2) loc (aI x :: stk) M) : AW X L nL pc loc stk M := by
  obtain ⟨p, l, e, R, s, m, args, below, meth, c, cells, slots, Q, D, ca, ad, A⟩ := X
  obtain ⟨hx, hb, hml, hown, hts, hK, hN, hA, hfr, hlo, hce, hsl⟩ := cx
  intro H locs ls hP hD hS hl ol os om
  exact lv_iload hx hb d (lv_pick_cvl hl k hk) (kk H locs ls hP hD hS hl ol (osc (ol _ (List.mem_of_getElem? hk)) os) om)
theorem aw_lload_n {k4 : Fin 4} {i : Nat} {x : Int} (cx : Cx X cc own nL dd) (d : decode cc pc = .ok (.lload_n k4, 1)) (hi : (k4 : Nat) = i) (k : Nat) (hk : loc[k]? = some (i, aL x)) (kk : AW X L nL (pc + 1) loc (aL x :: stk) M) : AW X L nL pc loc stk M := by
  obtain ⟨p, l, e, R, s, m, args, below, meth, c, cells, slots, Q, D, ca, ad, A⟩ := X
  obtain ⟨hx, hb, hml, hown, hts, hK, hN, hA, hfr, hlo, hce, hsl⟩ := cx
  intro H locs ls hP hD hS hl ol os om
  exact lv_lload_n hx hb d hi (lv_pick_cvl hl k hk) (kk H locs ls hP hD hS hl ol (osc (ol _ (List.mem_of_getElem? hk)) os) om)
theorem aw_lload {i : Nat} {x : Int} (cx : Cx X cc own nL dd) (d : decode cc pc = .ok (.lload i, 2)) (k : Nat) (hk : loc[k]? = some (i, aL x)) (kk : AW X L nL (pc + 2) loc (aL x :: stk) M) : AW X L nL pc loc stk M := by
  obtain ⟨p, l, e, R, s, m, args, below, meth, c, cells, slots, Q, D, ca, ad, A⟩ := X
  obtain ⟨hx, hb, hml, hown, hts, hK, hN, hA, hfr, hlo, hce, hsl⟩ := cx
  intro H locs ls hP hD hS hl ol os om
  exact lv_lload hx hb d (lv_pick_cvl hl k hk) (kk H locs ls hP hD hS hl ol (osc (ol _ (List.mem_of_getElem? hk)) os) om)
theorem aw_aload_n {k4 : Fin 4} {i : Nat} {x : Nat} (cx : Cx X cc own nL dd) (d : decode cc pc = .ok (.aload_n k4, 1)) (hi : (k4 : Nat) = i) (k : Nat) (hk : loc[k]? = some (i, aR x)) (kk : AW X L nL (pc + 1) loc (aR x :: stk) M) : AW X L nL pc loc stk M := by
  obtain ⟨p, l, e, R, s, m, args, below, meth, c, cells, slots, Q, D, ca, ad, A⟩ := X
  obtain ⟨hx, hb, hml, hown, hts, hK, hN, hA, hfr, hlo, hce, hsl⟩ := cx
  intro H locs ls hP hD hS hl ol os om
  exact lv_aload_n hx hb d hi (lv_pick_cvl hl k hk) (kk H locs ls hP hD hS hl ol (osc (ol _ (List.mem_of_getElem? hk)) os) om)
theorem aw_aload {i : Nat} {x : Nat} (cx : Cx X cc own nL dd) (d : decode cc pc = .ok (.aload i, 2)) (k : Nat) (hk : loc[k]? = some (i, aR x)) (kk : AW X L nL (pc + 2) loc (aR x :: stk) M) : AW X L nL pc loc stk M := by
  obtain ⟨p, l, e, R, s, m, args, below, meth, c, cells, slots, Q, D, ca, ad, A⟩ := X
  obtain ⟨hx, hb, hml, hown, hts, hK, hN, hA, hfr, hlo, hce, hsl⟩ := cx
  intro H locs ls hP hD hS hl ol os om
  exact lv_aload hx hb d (lv_pick_cvl hl k hk) (kk H locs ls hP hD hS hl ol (osc (ol _ (List.mem_of_getElem? hk)) os) om)
theorem aw_istore_n {k4 : Fin 4} {i : Nat} {x : Int} {loc2 : List (Nat × AV)} (cx : Cx X cc own nL dd) (d : decode cc pc = .ok (.istore_n k4, 1)) (hi : (k4 : Nat) = i) (hn : i < nL) (hl2 : stI loc i (aI x) = loc2) (kk : AW X L nL (pc + 1) loc2 stk M) : AW X L nL pc loc (aI x :: stk) M := by
  obtain ⟨p, l, e, R, s, m, args, below, meth, c, cells, slots, Q, D, ca, ad, A⟩ := X
  obtain ⟨hx, hb, hml, hown, hts, hK, hN, hA, hfr, hlo, hce, hsl⟩ := cx
  intro H locs ls hP hD hS hl ol os om
  subst hl2
  exact lv_istore_n hx hb d hi hl hn (cvl_stI ad loc i (aI x)) (fun ls hl => kk H locs ls hP hD hS hl (ok_stI ol (os0 os)) (os1 os) om)
theorem aw_istore {i : Nat} {x : Int} {loc2 : List (Nat × AV)} (cx : Cx X cc own nL dd) (d : decode cc pc = .ok (.istore i, 2)) (hn : i < nL) (hl2 : stI loc i (aI x) = loc2) (kk : AW X L nL (pc + 2) loc2 stk M) : AW X L nL pc loc (aI x :: stk) M := by
  obtain ⟨p, l, e, R, s, m, args, below, meth, c, cells, slots, Q, D, ca, ad, A⟩ := X
  obtain ⟨hx, hb, hml, hown, hts, hK, hN, hA, hfr, hlo, hce, hsl⟩ := cx
  intro H locs ls hP hD hS hl ol os om
  subst hl2
  exact lv_istore hx hb d hl hn (cvl_stI ad loc i (aI x)) (fun ls hl => kk H locs ls hP hD hS hl (ok_stI ol (os0 os)) (os1 os) om)
theorem aw_lstore_n {k4 : Fin 4} {i : Nat} {x : Int} {loc2 : List (Nat × AV)} (cx : Cx X cc own nL dd) (d : decode cc pc = .ok (.lstore_n k4, 1)) (hi : (k4 : Nat) = i) (hn : i + 1 < nL) (hl2 : stL loc i (aL x) = loc2) (kk : AW X L nL (pc + 1) loc2 stk M) : AW X L nL pc loc (aL x :: stk) M := by
  obtain ⟨p, l, e, R, s, m, args, below, meth, c, cells, slots, Q, D, ca, ad, A⟩ := X
  obtain ⟨hx, hb, hml, hown, hts, hK, hN, hA, hfr, hlo, hce, hsl⟩ := cx
  intro H locs ls hP hD hS hl ol os om
  subst hl2
  exact lv_lstore_n hx hb d hi hl hn (cvl_stL ad loc i (aL x)) (fun ls hl => kk H locs ls hP hD hS hl (ok_stL ol (os0 os)) (os1 os) om)
theorem aw_lstore {i : Nat} {x : Int} {loc2 : List (Nat × AV)} (cx : Cx X cc own nL dd) (d : decode cc pc = .ok (.lstore i, 2)) (hn : i + 1 < nL) (hl2 : stL loc i (aL x) = loc2) (kk : AW X L nL (pc + 2) loc2 stk M) : AW X L nL pc loc (aL x :: stk) M := by
  obtain ⟨p, l, e, R, s, m, args, below, meth, c, cells, slots, Q, D, ca, ad, A⟩ := X
  obtain ⟨hx, hb, hml, hown, hts, hK, hN, hA, hfr, hlo, hce, hsl⟩ := cx
  intro H locs ls hP hD hS hl ol os om
  subst hl2
  exact lv_lstore hx hb d hl hn (cvl_stL ad loc i (aL x)) (fun ls hl => kk H locs ls hP hD hS hl (ok_stL ol (os0 os)) (os1 os) om)
theorem aw_astore_n {k4 : Fin 4} {i : Nat} {x : Nat} {loc2 : List (Nat × AV)} (cx : Cx X cc own nL dd) (d : decode cc pc = .ok (.astore_n k4, 1)) (hi : (k4 : Nat) = i) (hn : i < nL) (hl2 : stI loc i (aR x) = loc2) (kk : AW X L nL (pc + 1) loc2 stk M) : AW X L nL pc loc (aR x :: stk) M := by
  obtain ⟨p, l, e, R, s, m, args, below, meth, c, cells, slots, Q, D, ca, ad, A⟩ := X
  obtain ⟨hx, hb, hml, hown, hts, hK, hN, hA, hfr, hlo, hce, hsl⟩ := cx
  intro H locs ls hP hD hS hl ol os om
  subst hl2
  exact lv_astore_n hx hb d hi hl hn (cvl_stI ad loc i (aR x)) (fun ls hl => kk H locs ls hP hD hS hl (ok_stI ol (os0 os)) (os1 os) om)
theorem aw_astore {i : Nat} {x : Nat} {loc2 : List (Nat × AV)} (cx : Cx X cc own nL dd) (d : decode cc pc = .ok (.astore i, 2)) (hn : i < nL) (hl2 : stI loc i (aR x) = loc2) (kk : AW X L nL (pc + 2) loc2 stk M) : AW X L nL pc loc (aR x :: stk) M := by
  obtain ⟨p, l, e, R, s, m, args, below, meth, c, cells, slots, Q, D, ca, ad, A⟩ := X
  obtain ⟨hx, hb, hml, hown, hts, hK, hN, hA, hfr, hlo, hce, hsl⟩ := cx
  intro H locs ls hP hD hS hl ol os om
  subst hl2
  exact lv_astore hx hb d hl hn (cvl_stI ad loc i (aR x)) (fun ls hl => kk H locs ls hP hD hS hl (ok_stI ol (os0 os)) (os1 os) om)
theorem aw_iinc {i : Nat} {n x : Int} (cx : Cx X cc own nL dd) (d : decode cc pc = .ok (.iinc i n, 3)) (k : Nat) (hk : loc[k]? = some (i, aI x)) (hn : i < nL) (hr : -2147483648 ≤ x + n ∧ x + n < 2147483648) (kk : ∀ z, z = x + n → AW X L nL (pc + 3) (stI loc i (aI z)) stk M) : AW X L nL pc loc stk M := by
  obtain ⟨p, l, e, R, s, m, args, below, meth, c, cells, slots, Q, D, ca, ad, A⟩ := X
  obtain ⟨hx, hb, hml, hown, hts, hK, hN, hA, hfr, hlo, hce, hsl⟩ := cx
  intro H locs ls hP hD hS hl ol os om
  have hk2 : (cvl ad loc)[k]? = some (i, .int (i32 x)) := by unfold cvl; rw [List.getElem?_map, hk]; rfl
  refine lv_iinc hx hb d hl (k := k) hk2 (v := i32 (x + n)) (i32_add x n) hn (cvl_stI ad loc i (aI (x + n))) (fun ls hl => kk _ rfl H locs ls hP hD hS hl (ok_stI ol hr) os om)
theorem aw_loc {loc2 : List (Nat × AV)} (h : loc = loc2) (kk : AW X L nL pc loc2 stk M) : AW X L nL pc loc stk M := h ▸ kk
theorem aw_iadd {x y : Int} (cx : Cx X cc own nL dd) (d : decode cc pc = .ok (.iadd, 1)) (hr : -2147483648 ≤ x + y ∧ x + y < 2147483648) (kk : ∀ z, z = x + y → AW X L nL (pc + 1) loc (aI z :: stk) M) : AW X L nL pc loc (aI y :: aI x :: stk) M := by
  obtain ⟨p, l, e, R, s, m, args, below, meth, c, cells, slots, Q, D, ca, ad, A⟩ := X
  obtain ⟨hx, hb, hml, hown, hts, hK, hN, hA, hfr, hlo, hce, hsl⟩ := cx
  intro H locs ls hP hD hS hl ol os om
  refine lv_iadd hx hb d ?_
  rw [i32_add]
  exact kk _ rfl H locs ls hP hD hS hl ol (osc hr (os1 (os1 os))) om
theorem aw_iaddW {x y : Int} (cx : Cx X cc own nL dd) (d : decode cc pc = .ok (.iadd, 1)) (kk : ∀ z, z = wr (x + y) → AW X L nL (pc + 1) loc (aI z :: stk) M) : AW X L nL pc loc (aI y :: aI x :: stk) M := by
  obtain ⟨p, l, e, R, s, m, args, below, meth, c, cells, slots, Q, D, ca, ad, A⟩ := X
  obtain ⟨hx, hb, hml, hown, hts, hK, hN, hA, hfr, hlo, hce, hsl⟩ := cx
  intro H locs ls hP hD hS hl ol os om
  refine lv_iadd hx hb d ?_
  rw [i32_add, ← i32_wr]
  exact kk _ rfl H locs ls hP hD hS hl ol (osc (wr_in _) (os1 (os1 os))) om
theorem aw_isub {x y : Int} (cx : Cx X cc own nL dd) (d : decode cc pc = .ok (.isub, 1)) (hr : -2147483648 ≤ x - y ∧ x - y < 2147483648) (kk : ∀ z, z = x - y → AW X L nL (pc + 1) loc (aI z :: stk) M) : AW X L nL pc loc (aI y :: aI x :: stk) M := by
  obtain ⟨p, l, e, R, s, m, args, below, meth, c, cells, slots, Q, D, ca, ad, A⟩ := X
  obtain ⟨hx, hb, hml, hown, hts, hK, hN, hA, hfr, hlo, hce, hsl⟩ := cx
  intro H locs ls hP hD hS hl ol os om
  refine lv_isub hx hb d ?_
  rw [i32_sub]
  exact kk _ rfl H locs ls hP hD hS hl ol (osc hr (os1 (os1 os))) om
theorem aw_isubW {x y : Int} (cx : Cx X cc own nL dd) (d : decode cc pc = .ok (.isub, 1)) (kk : ∀ z, z = wr (x - y) → AW X L nL (pc + 1) loc (aI z :: stk) M) : AW X L nL pc loc (aI y :: aI x :: stk) M := by
  obtain ⟨p, l, e, R, s, m, args, below, meth, c, cells, slots, Q, D, ca, ad, A⟩ := X
  obtain ⟨hx, hb, hml, hown, hts, hK, hN, hA, hfr, hlo, hce, hsl⟩ := cx
  intro H locs ls hP hD hS hl ol os om
  refine lv_isub hx hb d ?_
  rw [i32_sub, ← i32_wr]
  exact kk _ rfl H locs ls hP hD hS hl ol (osc (wr_in _) (os1 (os1 os))) om
theorem aw_imul {x y : Int} (cx : Cx X cc own nL dd) (d : decode cc pc = .ok (.imul, 1)) (hr : -2147483648 ≤ x * y ∧ x * y < 2147483648) (kk : ∀ z, z = x * y → AW X L nL (pc + 1) loc (aI z :: stk) M) : AW X L nL pc loc (aI y :: aI x :: stk) M := by
  obtain ⟨p, l, e, R, s, m, args, below, meth, c, cells, slots, Q, D, ca, ad, A⟩ := X
  obtain ⟨hx, hb, hml, hown, hts, hK, hN, hA, hfr, hlo, hce, hsl⟩ := cx
  intro H locs ls hP hD hS hl ol os om
  refine lv_imul hx hb d ?_
  rw [i32_mul]
  exact kk _ rfl H locs ls hP hD hS hl ol (osc hr (os1 (os1 os))) om
theorem aw_imulW {x y : Int} (cx : Cx X cc own nL dd) (d : decode cc pc = .ok (.imul, 1)) (kk : ∀ z, z = wr (x * y) → AW X L nL (pc + 1) loc (aI z :: stk) M) : AW X L nL pc loc (aI y :: aI x :: stk) M := by
  obtain ⟨p, l, e, R, s, m, args, below, meth, c, cells, slots, Q, D, ca, ad, A⟩ := X
  obtain ⟨hx, hb, hml, hown, hts, hK, hN, hA, hfr, hlo, hce, hsl⟩ := cx
  intro H locs ls hP hD hS hl ol os om
  refine lv_imul hx hb d ?_
  rw [i32_mul, ← i32_wr]
  exact kk _ rfl H locs ls hP hD hS hl ol (osc (wr_in _) (os1 (os1 os))) om
theorem aw_ladd {x y : Int} (cx : Cx X cc own nL dd) (d : decode cc pc = .ok (.ladd, 1)) (hr : -9223372036854775808 ≤ x + y ∧ x + y < 9223372036854775808) (kk : ∀ z, z = x + y → AW X L nL (pc + 1) loc (aL z :: stk) M) : AW X L nL pc loc (aL y :: aL x :: stk) M := by
  obtain ⟨p, l, e, R, s, m, args, below, meth, c, cells, slots, Q, D, ca, ad, A⟩ := X
  obtain ⟨hx, hb, hml, hown, hts, hK, hN, hA, hfr, hlo, hce, hsl⟩ := cx
  intro H locs ls hP hD hS hl ol os om
  refine lv_ladd hx hb d ?_
  rw [i64_add]
  exact kk _ rfl H locs ls hP hD hS hl ol (osc hr (os1 (os1 os))) om
theorem aw_laddW {x y : Int} (cx : Cx X cc own nL dd) (d : decode cc pc = .ok (.ladd, 1)) (kk : ∀ z, z = wl (x + y) → AW X L nL (pc + 1) loc (aL z :: stk) M) : AW X L nL pc loc (aL y :: aL x :: stk) M := by
  obtain ⟨p, l, e, R, s, m, args, below, meth, c, cells, slots, Q, D, ca, ad, A⟩ := X
  obtain ⟨hx, hb, hml, hown, hts, hK, hN, hA, hfr, hlo, hce, hsl⟩ := cx
  intro H locs ls hP hD hS hl ol os om
  refine lv_ladd hx hb d ?_
  rw [i64_add, ← i64_wl]
  exact kk _ rfl H locs ls hP hD hS hl ol (osc (wl_in _) (os1 (os1 os))) om
theorem aw_lsub {x y : Int} (cx : Cx X cc own nL dd) (d : decode cc pc = .ok (.lsub, 1)) (hr : -9223372036854775808 ≤ x - y ∧ x - y < 9223372036854775808) (kk : ∀ z, z = x - y → AW X L nL (pc + 1) loc (aL z :: stk) M) : AW X L nL pc loc (aL y :: aL x :: stk) M := by
  obtain ⟨p, l, e, R, s, m, args, below, meth, c, cells, slots, Q, D, ca, ad, A⟩ := X
  obtain ⟨hx, hb, hml, hown, hts, hK, hN, hA, hfr, hlo, hce, hsl⟩ := cx
  intro H locs ls hP hD hS hl ol os om
  refine lv_lsub hx hb d ?_
  rw [i64_sub]
  exact kk _ rfl H locs ls hP hD hS hl ol (osc hr (os1 (os1 os))) om
theorem aw_lsubW {x y : Int} (cx : Cx X cc own nL dd) (d : decode cc pc = .ok (.lsub, 1)) (kk : ∀ z, z = wl (x - y) → AW X L nL (pc + 1) loc (aL z :: stk) M) : AW X L nL pc loc (aL y :: aL x :: stk) M := by
  obtain ⟨p, l, e, R, s, m, args, below, meth, c, cells, slots, Q, D, ca, ad, A⟩ := X
  obtain ⟨hx, hb, hml, hown, hts, hK, hN, hA, hfr, hlo, hce, hsl⟩ := cx
  intro H locs ls hP hD hS hl ol os om
  refine lv_lsub hx hb d ?_
  rw [i64_sub, ← i64_wl]
  exact kk _ rfl H locs ls hP hD hS hl ol (osc (wl_in _) (os1 (os1 os))) om
theorem aw_lmul {x y : Int} (cx : Cx X cc own nL dd) (d : decode cc pc = .ok (.lmul, 1)) (hr : -9223372036854775808 ≤ x * y ∧ x * y < 9223372036854775808) (kk : ∀ z, z = x * y → AW X L nL (pc + 1) loc (aL z :: stk) M) : AW X L nL pc loc (aL y :: aL x :: stk) M := by
  obtain ⟨p, l, e, R, s, m, args, below, meth, c, cells, slots, Q, D, ca, ad, A⟩ := X
  obtain ⟨hx, hb, hml, hown, hts, hK, hN, hA, hfr, hlo, hce, hsl⟩ := cx
  intro H locs ls hP hD hS hl ol os om
  refine lv_lmul hx hb d ?_
  rw [i64_mul]
  exact kk _ rfl H locs ls hP hD hS hl ol (osc hr (os1 (os1 os))) om
theorem aw_lmulW {x y : Int} (cx : Cx X cc own nL dd) (d : decode cc pc = .ok (.lmul, 1)) (kk : ∀ z, z = wl (x * y) → AW X L nL (pc + 1) loc (aL z :: stk) M) : AW X L nL pc loc (aL y :: aL x :: stk) M := by
  obtain ⟨p, l, e, R, s, m, args, below, meth, c, cells, slots, Q, D, ca, ad, A⟩ := X
  obtain ⟨hx, hb, hml, hown, hts, hK, hN, hA, hfr, hlo, hce, hsl⟩ := cx
  intro H locs ls hP hD hS hl ol os om
  refine lv_lmul hx hb d ?_
  rw [i64_mul, ← i64_wl]
  exact kk _ rfl H locs ls hP hD hS hl ol (osc (wl_in _) (os1 (os1 os))) om
theorem aw_iand {x y : Int} (cx : Cx X cc own nL dd) (d : decode cc pc = .ok (.iand, 1)) (kk : ∀ z, z = bAnd x y → AW X L nL (pc + 1) loc (aI z :: stk) M) : AW X L nL pc loc (aI y :: aI x :: stk) M := by
  obtain ⟨p, l, e, R, s, m, args, below, meth, c, cells, slots, Q, D, ca, ad, A⟩ := X
  obtain ⟨hx, hb, hml, hown, hts, hK, hN, hA, hfr, hlo, hce, hsl⟩ := cx
  intro H locs ls hP hD hS hl ol os om
  refine lv_iand hx hb d ?_
  rw [show i32 x &&& i32 y = i32 (bAnd x y) from (i32_of _).symm]
  exact kk (bAnd x y) rfl H locs ls hP hD hS hl ol (osc (i32_rng _) (os1 (os1 os))) om
theorem aw_ior {x y : Int} (cx : Cx X cc own nL dd) (d : decode cc pc = .ok (.ior, 1)) (kk : ∀ z, z = bOr x y → AW X L nL (pc + 1) loc (aI z :: stk) M) : AW X L nL pc loc (aI y :: aI x :: stk) M := by
  obtain ⟨p, l, e, R, s, m, args, below, meth, c, cells, slots, Q, D, ca, ad, A⟩ := X
  obtain ⟨hx, hb, hml, hown, hts, hK, hN, hA, hfr, hlo, hce, hsl⟩ := cx
  intro H locs ls hP hD hS hl ol os om
  refine lv_ior hx hb d ?_
  rw [show i32 x ||| i32 y = i32 (bOr x y) from (i32_of _).symm]
  exact kk (bOr x y) rfl H locs ls hP hD hS hl ol (osc (i32_rng _) (os1 (os1 os))) om
theorem aw_ixor {x y : Int} (cx : Cx X cc own nL dd) (d : decode cc pc = .ok (.ixor, 1)) (kk : ∀ z, z = bXor x y → AW X L nL (pc + 1) loc (aI z :: stk) M) : AW X L nL pc loc (aI y :: aI x :: stk) M := by
  obtain ⟨p, l, e, R, s, m, args, below, meth, c, cells, slots, Q, D, ca, ad, A⟩ := X
  obtain ⟨hx, hb, hml, hown, hts, hK, hN, hA, hfr, hlo, hce, hsl⟩ := cx
  intro H locs ls hP hD hS hl ol os om
  refine lv_ixor hx hb d ?_
  rw [show i32 x ^^^ i32 y = i32 (bXor x y) from (i32_of _).symm]
  exact kk (bXor x y) rfl H locs ls hP hD hS hl ol (osc (i32_rng _) (os1 (os1 os))) om
theorem aw_ishl {x y : Int} (cx : Cx X cc own nL dd) (d : decode cc pc = .ok (.ishl, 1)) (kk : ∀ z, z = bShl x y → AW X L nL (pc + 1) loc (aI z :: stk) M) : AW X L nL pc loc (aI y :: aI x :: stk) M := by
  obtain ⟨p, l, e, R, s, m, args, below, meth, c, cells, slots, Q, D, ca, ad, A⟩ := X
  obtain ⟨hx, hb, hml, hown, hts, hK, hN, hA, hfr, hlo, hce, hsl⟩ := cx
  intro H locs ls hP hD hS hl ol os om
  refine lv_ishl hx hb d ?_
  rw [show i32 x <<< (i32 y &&& 31) = i32 (bShl x y) from (i32_of _).symm]
  exact kk (bShl x y) rfl H locs ls hP hD hS hl ol (osc (i32_rng _) (os1 (os1 os))) om
theorem aw_ishr {x y : Int} (cx : Cx X cc own nL dd) (d : decode cc pc = .ok (.ishr, 1)) (kk : ∀ z, z = bShr x y → AW X L nL (pc + 1) loc (aI z :: stk) M) : AW X L nL pc loc (aI y :: aI x :: stk) M := by
  obtain ⟨p, l, e, R, s, m, args, below, meth, c, cells, slots, Q, D, ca, ad, A⟩ := X
  obtain ⟨hx, hb, hml, hown, hts, hK, hN, hA, hfr, hlo, hce, hsl⟩ := cx
  intro H locs ls hP hD hS hl ol os om
  refine lv_ishr hx hb d ?_
  rw [show i32 x >>> (i32 y &&& 31) = i32 (bShr x y) from (i32_of _).symm]
  exact kk (bShr x y) rfl H locs ls hP hD hS hl ol (osc (i32_rng _) (os1 (os1 os))) om
theorem aw_iushr {x y : Int} (cx : Cx X cc own nL dd) (d : decode cc pc = .ok (.iushr, 1)) (kk : ∀ z, z = bUsh x y → AW X L nL (pc + 1) loc (aI z :: stk) M) : AW X L nL pc loc (aI y :: aI x :: stk) M := by
  obtain ⟨p, l, e, R, s, m, args, below, meth, c, cells, slots, Q, D, ca, ad, A⟩ := X
  obtain ⟨hx, hb, hml, hown, hts, hK, hN, hA, hfr, hlo, hce, hsl⟩ := cx
  intro H locs ls hP hD hS hl ol os om
  exact lv_iushr hx hb d (v := i32 (bUsh x y)) (i32_of _).symm (kk (bUsh x y) rfl H locs ls hP hD hS hl ol (osc (i32_rng _) (os1 (os1 os))) om)
theorem aw_land {x y : Int} (cx : Cx X cc own nL dd) (d : decode cc pc = .ok (.land, 1)) (kk : ∀ z, z = lAnd x y → AW X L nL (pc + 1) loc (aL z :: stk) M) : AW X L nL pc loc (aL y :: aL x :: stk) M := by
  obtain ⟨p, l, e, R, s, m, args, below, meth, c, cells, slots, Q, D, ca, ad, A⟩ := X
  obtain ⟨hx, hb, hml, hown, hts, hK, hN, hA, hfr, hlo, hce, hsl⟩ := cx
  intro H locs ls hP hD hS hl ol os om
  refine lv_land hx hb d ?_
  rw [show i64 x &&& i64 y = i64 (lAnd x y) from (i64_of _).symm]
  exact kk (lAnd x y) rfl H locs ls hP hD hS hl ol (osc (i64_rng _) (os1 (os1 os))) om
theorem aw_lshl {x y : Int} (cx : Cx X cc own nL dd) (d : decode cc pc = .ok (.lshl, 1)) (kk : ∀ z, z = lShl x y → AW X L nL (pc + 1) loc (aL z :: stk) M) : AW X L nL pc loc (aI y :: aL x :: stk) M := by
  obtain ⟨p, l, e, R, s, m, args, below, meth, c, cells, slots, Q, D, ca, ad, A⟩ := X
  obtain ⟨hx, hb, hml, hown, hts, hK, hN, hA, hfr, hlo, hce, hsl⟩ := cx
  intro H locs ls hP hD hS hl ol os om
  exact lv_lshl hx hb d (v := i64 (lShl x y)) (i64_of _).symm (kk (lShl x y) rfl H locs ls hP hD hS hl ol (osc (i64_rng _) (os1 (os1 os))) om)
theorem aw_lshr {x y : Int} (cx : Cx X cc own nL dd) (d : decode cc pc = .ok (.lshr, 1)) (kk : ∀ z, z = lShr x y → AW X L nL (pc + 1) loc (aL z :: stk) M) : AW X L nL pc loc (aI y :: aL x :: stk) M := by
  obtain ⟨p, l, e, R, s, m, args, below, meth, c, cells, slots, Q, D, ca, ad, A⟩ := X
  obtain ⟨hx, hb, hml, hown, hts, hK, hN, hA, hfr, hlo, hce, hsl⟩ := cx
  intro H locs ls hP hD hS hl ol os om
  exact lv_lshr hx hb d (v := i64 (lShr x y)) (i64_of _).symm (kk (lShr x y) rfl H locs ls hP hD hS hl ol (osc (i64_rng _) (os1 (os1 os))) om)
theorem aw_ineg {x : Int} (cx : Cx X cc own nL dd) (d : decode cc pc = .ok (.ineg, 1)) (hr : -2147483648 < x) (kk : ∀ z, z = -x → AW X L nL (pc + 1) loc (aI z :: stk) M) : AW X L nL pc loc (aI x :: stk) M := by
  obtain ⟨p, l, e, R, s, m, args, below, meth, c, cells, slots, Q, D, ca, ad, A⟩ := X
  obtain ⟨hx, hb, hml, hown, hts, hK, hN, hA, hfr, hlo, hce, hsl⟩ := cx
  intro H locs ls hP hD hS hl ol os om
  have hx0 : okV (aI x) := os0 os
  have h0 := hx0.1
  have h1 := hx0.2
  refine lv_ineg hx hb d ?_
  first
    | rw [show (0 : Int32) - i32 x = i32 (-x) by rw [← i32_0, i32_sub, Int.zero_sub]]
    | rw [show -(i32 x) = i32 (-x) from (Int32.ofInt_neg x).symm]
  exact kk _ rfl H locs ls hP hD hS hl ol (osc (show _ ∧ _ from ⟨by omega, by omega⟩) (os1 os)) om
theorem aw_i2l {x : Int} (cx : Cx X cc own nL dd) (d : decode cc pc = .ok (.i2l, 1)) (kk : AW X L nL (pc + 1) loc (aL x :: stk) M) : AW X L nL pc loc (aI x :: stk) M := by
  obtain ⟨p, l, e, R, s, m, args, below, meth, c, cells, slots, Q, D, ca, ad, A⟩ := X
  obtain ⟨hx, hb, hml, hown, hts, hK, hN, hA, hfr, hlo, hce, hsl⟩ := cx
  intro H locs ls hP hD hS hl ol os om
  have hx0 : okV (aI x) := os0 os
  have h0 := hx0.1
  have h1 := hx0.2
  refine lv_i2l hx hb d (v := i64 x) ?_ (kk H locs ls hP hD hS hl ol (osc (show _ ∧ _ from ⟨by omega, by omega⟩) (os1 os)) om)
  rw [← Int64.toInt_inj, Int32.toInt_toInt64, i32_id hx0, i64_id ⟨by omega, by omega⟩]
theorem aw_i2b {x : Int} (cx : Cx X cc own nL dd) (d : decode cc pc = .ok (.i2b, 1)) (kk : ∀ z, z = toB x → AW X L nL (pc + 1) loc (aI z :: stk) M) : AW X L nL pc loc (aI x :: stk) M := by
  obtain ⟨p, l, e, R, s, m, args, below, meth, c, cells, slots, Q, D, ca, ad, A⟩ := X
  obtain ⟨hx, hb, hml, hown, hts, hK, hN, hA, hfr, hlo, hce, hsl⟩ := cx
  intro H locs ls hP hD hS hl ol os om
  exact lv_i2b hx hb d (v := i32 (toB x)) (i32_of _).symm (kk (toB x) rfl H locs ls hP hD hS hl ol (osc (i32_rng _) (os1 os)) om)
theorem aw_i2s {x : Int} (cx : Cx X cc own nL dd) (d : decode cc pc = .ok (.i2s, 1)) (kk : ∀ z, z = toS x → AW X L nL (pc + 1) loc (aI z :: stk) M) : AW X L nL pc loc (aI x :: stk) M := by
  obtain ⟨p, l, e, R, s, m, args, below, meth, c, cells, slots, Q, D, ca, ad, A⟩ := X
  obtain ⟨hx, hb, hml, hown, hts, hK, hN, hA, hfr, hlo, hce, hsl⟩ := cx
  intro H locs ls hP hD hS hl ol os om
  exact lv_i2s hx hb d (v := i32 (toS x)) (i32_of _).symm (kk (toS x) rfl H locs ls hP hD hS hl ol (osc (i32_rng _) (os1 os)) om)
theorem aw_idiv {x y : Int} (cx : Cx X cc own nL dd) (d : decode cc pc = .ok (.idiv, 1)) (h0 : 0 ≤ x) (hy : 0 < y) (kk : ∀ z, z = x / y → AW X L nL (pc + 1) loc (aI z :: stk) M) : AW X L nL pc loc (aI y :: aI x :: stk) M := by
  obtain ⟨p, l, e, R, s, m, args, below, meth, c, cells, slots, Q, D, ca, ad, A⟩ := X
  obtain ⟨hx, hb, hml, hown, hts, hK, hN, hA, hfr, hlo, hce, hsl⟩ := cx
  intro H locs ls hP hD hS hl ol os om
  have hyr : okV (aI y) := os0 os
  have hxr : okV (aI x) := os0 (os1 os)
  have hx1 := hxr.2
  have hy1 := hyr.2
  have hne : ¬ i32 y = 0 := by
    rw [← i32_0, i32_eq hyr ⟨by omega, by omega⟩]
    omega
  have hd0 : 0 ≤ x / y := Int.ediv_nonneg h0 (by omega)
  have hd1 : x / y ≤ x := Int.ediv_le_self y h0
  have hb2 : (x / y).bmod 4294967296 = x / y := by
    rw [Int.bmod_def]
    split <;> omega
  have hq : i32 x / i32 y = i32 (x / y) := by
    rw [← Int32.toInt_inj, Int32.toInt_div, i32_id hxr, i32_id hyr, i32_id ⟨by omega, by omega⟩, Int.tdiv_eq_ediv_of_nonneg h0]
    exact hb2
  refine lv_idiv hx hb d hne ?_
  rw [hq]
  exact kk _ rfl H locs ls hP hD hS hl ol (osc (show _ ∧ _ from ⟨by omega, by omega⟩) (os1 (os1 os))) om
theorem aw_ldiv {x y : Int} (cx : Cx X cc own nL dd) (d : decode cc pc = .ok (.ldiv, 1)) (h0 : 0 ≤ x) (hy : 0 < y) (kk : ∀ z, z = x / y → AW X L nL (pc + 1) loc (aL z :: stk) M) : AW X L nL pc loc (aL y :: aL x :: stk) M := by
  obtain ⟨p, l, e, R, s, m, args, below, meth, c, cells, slots, Q, D, ca, ad, A⟩ := X
  obtain ⟨hx, hb, hml, hown, hts, hK, hN, hA, hfr, hlo, hce, hsl⟩ := cx
  intro H locs ls hP hD hS hl ol os om
  have hyr : okV (aL y) := os0 os
  have hxr : okV (aL x) := os0 (os1 os)
  have hx1 := hxr.2
  have hy1 := hyr.2
  have hne : ¬ i64 y = 0 := by
    rw [← i64_0, i64_eq hyr ⟨by omega, by omega⟩]
    omega
  have hd0 : 0 ≤ x / y := Int.ediv_nonneg h0 (by omega)
  have hd1 : x / y ≤ x := Int.ediv_le_self y h0
  have hb2 : (x / y).bmod 18446744073709551616 = x / y := by
    rw [Int.bmod_def]
    split <;> omega
  have hq : i64 x / i64 y = i64 (x / y) := by
    rw [← Int64.toInt_inj, Int64.toInt_div, i64_id hxr, i64_id hyr, i64_id ⟨by omega, by omega⟩, Int.tdiv_eq_ediv_of_nonneg h0]
    exact hb2
  refine lv_ldiv hx hb d hne ?_
  rw [hq]
  exact kk _ rfl H locs ls hP hD hS hl ol (osc (show _ ∧ _ from ⟨by omega, by omega⟩) (os1 (os1 os))) om
theorem aw_irem {x y : Int} (cx : Cx X cc own nL dd) (d : decode cc pc = .ok (.irem, 1)) (h0 : 0 ≤ x) (hy : 0 < y) (kk : ∀ z, z = x % y → AW X L nL (pc + 1) loc (aI z :: stk) M) : AW X L nL pc loc (aI y :: aI x :: stk) M := by
  obtain ⟨p, l, e, R, s, m, args, below, meth, c, cells, slots, Q, D, ca, ad, A⟩ := X
  obtain ⟨hx, hb, hml, hown, hts, hK, hN, hA, hfr, hlo, hce, hsl⟩ := cx
  intro H locs ls hP hD hS hl ol os om
  have hyr : okV (aI y) := os0 os
  have hxr : okV (aI x) := os0 (os1 os)
  have hx1 := hxr.2
  have hy1 := hyr.2
  have hne : ¬ i32 y = 0 := by
    rw [← i32_0, i32_eq hyr ⟨by omega, by omega⟩]
    omega
  have hd0 : 0 ≤ x / y := Int.ediv_nonneg h0 (by omega)
  have hd1 : x / y ≤ x := Int.ediv_le_self y h0
  have hb2 : (x / y).bmod 4294967296 = x / y := by
    rw [Int.bmod_def]
    split <;> omega
  have hq : i32 x / i32 y = i32 (x / y) := by
    rw [← Int32.toInt_inj, Int32.toInt_div, i32_id hxr, i32_id hyr, i32_id ⟨by omega, by omega⟩, Int.tdiv_eq_ediv_of_nonneg h0]
    exact hb2
  refine lv_irem hx hb d hne ?_
  have hm0 : 0 ≤ x % y := Int.emod_nonneg x (by omega)
  have hm1 : x % y < y := Int.emod_lt_of_pos x hy
  rw [hq, i32_mul, i32_sub, show x - x / y * y = x % y by rw [Int.emod_def, Int.mul_comm]]
  exact kk _ rfl H locs ls hP hD hS hl ol (osc (show _ ∧ _ from ⟨by omega, by omega⟩) (os1 (os1 os))) om
theorem aw_lrem {x y : Int} (cx : Cx X cc own nL dd) (d : decode cc pc = .ok (.lrem, 1)) (h0 : 0 ≤ x) (hy : 0 < y) (kk : ∀ z, z = x % y → AW X L nL (pc + 1) loc (aL z :: stk) M) : AW X L nL pc loc (aL y :: aL x :: stk) M := by
  obtain ⟨p, l, e, R, s, m, args, below, meth, c, cells, slots, Q, D, ca, ad, A⟩ := X
  obtain ⟨hx, hb, hml, hown, hts, hK, hN, hA, hfr, hlo, hce, hsl⟩ := cx
  intro H locs ls hP hD hS hl ol os om
  have hyr : okV (aL y) := os0 os
  have hxr : okV (aL x) := os0 (os1 os)
  have hx1 := hxr.2
  have hy1 := hyr.2
  have hne : ¬ i64 y = 0 := by
    rw [← i64_0, i64_eq hyr ⟨by omega, by omega⟩]
    omega
  have hd0 : 0 ≤ x / y := Int.ediv_nonneg h0 (by omega)
  have hd1 : x / y ≤ x := Int.ediv_le_self y h0
  have hb2 : (x / y).bmod 18446744073709551616 = x / y := by
    rw [Int.bmod_def]
    split <;> omega
  have hq : i64 x / i64 y = i64 (x / y) := by
    rw [← Int64.toInt_inj, Int64.toInt_div, i64_id hxr, i64_id hyr, i64_id ⟨by omega, by omega⟩, Int.tdiv_eq_ediv_of_nonneg h0]
    exact hb2
  refine lv_lrem hx hb d hne ?_
  have hm0 : 0 ≤ x % y := Int.emod_nonneg x (by omega)
  have hm1 : x % y < y := Int.emod_lt_of_pos x hy
  rw [hq, i64_mul, i64_sub, show x - x / y * y = x % y by rw [Int.emod_def, Int.mul_comm]]
  exact kk _ rfl H locs ls hP hD hS hl ol (osc (show _ ∧ _ from ⟨by omega, by omega⟩) (os1 (os1 os))) om
theorem aw_dup {v : AV} (cx : Cx X cc own nL dd) (d : decode cc pc = .ok (.dup, 1)) (hc : ctV v = 1) (kk : AW X L nL (pc + 1) loc (v :: v :: stk) M) : AW X L nL pc loc (v :: stk) M := by
  obtain ⟨p, l, e, R, s, m, args, below, meth, c, cells, slots, Q, D, ca, ad, A⟩ := X
  obtain ⟨hx, hb, hml, hown, hts, hK, hN, hA, hfr, hlo, hce, hsl⟩ := cx
  intro H locs ls hP hD hS hl ol os om
  exact lv_dup hx hb d ((ctV_cv ad v).trans hc) (kk H locs ls hP hD hS hl ol (osc (os0 os) os) om)
theorem aw_dup2 {v w : AV} (cx : Cx X cc own nL dd) (d : decode cc pc = .ok (.dup2, 1)) (hc : ctV v = 1) (hc2 : ctV w = 1) (kk : AW X L nL (pc + 1) loc (v :: w :: v :: w :: stk) M) : AW X L nL pc loc (v :: w :: stk) M := by
  obtain ⟨p, l, e, R, s, m, args, below, meth, c, cells, slots, Q, D, ca, ad, A⟩ := X
  obtain ⟨hx, hb, hml, hown, hts, hK, hN, hA, hfr, hlo, hce, hsl⟩ := cx
  intro H locs ls hP hD hS hl ol os om
  exact lv_dup2_11 hx hb d ((ctV_cv ad v).trans hc) ((ctV_cv ad w).trans hc2) (kk H locs ls hP hD hS hl ol (osc (os0 os) (osc (os0 (os1 os)) os)) om)
theorem aw_if_eq {x off : Int} {tgt : Nat} (cx : Cx X cc own nL dd) (d : decode cc pc = .ok (.ifCond .eq off, 3)) (ht : (pc : Int) + off = (tgt : Int)) (kt : x = 0 → AW X L nL tgt loc stk M) (kf : ¬ x = 0 → AW X L nL (pc + 3) loc stk M) : AW X L nL pc loc (aI x :: stk) M := by
  obtain ⟨p, l, e, R, s, m, args, below, meth, c, cells, slots, Q, D, ca, ad, A⟩ := X
  obtain ⟨hx, hb, hml, hown, hts, hK, hN, hA, hfr, hlo, hce, hsl⟩ := cx
  intro H locs ls hP hD hS hl ol os om
  have hr : okV (aI x) := os0 os
  have zz : -2147483648 ≤ (0 : Int) ∧ (0 : Int) < 2147483648 := ⟨by omega, by omega⟩
  refine lv_if_eq hx hb d ht (fun h => ?_) (fun h => ?_)
  · rw [← i32_0, i32_eq hr zz] at h
    exact kt h H locs ls hP hD hS hl ol (os1 os) om
  · rw [← i32_0, i32_eq hr zz] at h
    exact kf h H locs ls hP hD hS hl ol (os1 os) om
theorem aw_if_ne {x off : Int} {tgt : Nat} (cx : Cx X cc own nL dd) (d : decode cc pc = .ok (.ifCond .ne off, 3)) (ht : (pc : Int) + off = (tgt : Int)) (kt : ¬ x = 0 → AW X L nL tgt loc stk M) (kf : x = 0 → AW X L nL (pc + 3) loc stk M) : AW X L nL pc loc (aI x :: stk) M := by
  obtain ⟨p, l, e, R, s, m, args, below, meth, c, cells, slots, Q, D, ca, ad, A⟩ := X
  obtain ⟨hx, hb, hml, hown, hts, hK, hN, hA, hfr, hlo, hce, hsl⟩ := cx
  intro H locs ls hP hD hS hl ol os om
  have hr : okV (aI x) := os0 os
  have zz : -2147483648 ≤ (0 : Int) ∧ (0 : Int) < 2147483648 := ⟨by omega, by omega⟩
  refine lv_if_ne hx hb d ht (fun h => ?_) (fun h => ?_)
  · rw [← i32_0, i32_eq hr zz] at h
    exact kt h H locs ls hP hD hS hl ol (os1 os) om
  · rw [← i32_0, i32_eq hr zz] at h
    exact kf h H locs ls hP hD hS hl ol (os1 os) om
theorem aw_if_lt {x off : Int} {tgt : Nat} (cx : Cx X cc own nL dd) (d : decode cc pc = .ok (.ifCond .lt off, 3)) (ht : (pc : Int) + off = (tgt : Int)) (kt : x < 0 → AW X L nL tgt loc stk M) (kf : ¬ x < 0 → AW X L nL (pc + 3) loc stk M) : AW X L nL pc loc (aI x :: stk) M := by
  obtain ⟨p, l, e, R, s, m, args, below, meth, c, cells, slots, Q, D, ca, ad, A⟩ := X
  obtain ⟨hx, hb, hml, hown, hts, hK, hN, hA, hfr, hlo, hce, hsl⟩ := cx
  intro H locs ls hP hD hS hl ol os om
  have hr : okV (aI x) := os0 os
  have zz : -2147483648 ≤ (0 : Int) ∧ (0 : Int) < 2147483648 := ⟨by omega, by omega⟩
  refine lv_if_lt hx hb d ht (fun h => ?_) (fun h => ?_)
  · rw [← i32_0, i32_lt hr zz] at h
    exact kt h H locs ls hP hD hS hl ol (os1 os) om
  · rw [← i32_0, i32_lt hr zz] at h
    exact kf h H locs ls hP hD hS hl ol (os1 os) om
theorem aw_if_ge {x off : Int} {tgt : Nat} (cx : Cx X cc own nL dd) (d : decode cc pc = .ok (.ifCond .ge off, 3)) (ht : (pc : Int) + off = (tgt : Int)) (kt : 0 ≤ x → AW X L nL tgt loc stk M) (kf : ¬ 0 ≤ x → AW X L nL (pc + 3) loc stk M) : AW X L nL pc loc (aI x :: stk) M := by
  obtain ⟨p, l, e, R, s, m, args, below, meth, c, cells, slots, Q, D, ca, ad, A⟩ := X
  obtain ⟨hx, hb, hml, hown, hts, hK, hN, hA, hfr, hlo, hce, hsl⟩ := cx
  intro H locs ls hP hD hS hl ol os om
  have hr : okV (aI x) := os0 os
  have zz : -2147483648 ≤ (0 : Int) ∧ (0 : Int) < 2147483648 := ⟨by omega, by omega⟩
  refine lv_if_ge hx hb d ht (fun h => ?_) (fun h => ?_)
  · rw [← i32_0, i32_le zz hr] at h
    exact kt h H locs ls hP hD hS hl ol (os1 os) om
  · rw [← i32_0, i32_le zz hr] at h
    exact kf h H locs ls hP hD hS hl ol (os1 os) om
theorem aw_if_gt {x off : Int} {tgt : Nat} (cx : Cx X cc own nL dd) (d : decode cc pc = .ok (.ifCond .gt off, 3)) (ht : (pc : Int) + off = (tgt : Int)) (kt : 0 < x → AW X L nL tgt loc stk M) (kf : ¬ 0 < x → AW X L nL (pc + 3) loc stk M) : AW X L nL pc loc (aI x :: stk) M := by
  obtain ⟨p, l, e, R, s, m, args, below, meth, c, cells, slots, Q, D, ca, ad, A⟩ := X
  obtain ⟨hx, hb, hml, hown, hts, hK, hN, hA, hfr, hlo, hce, hsl⟩ := cx
  intro H locs ls hP hD hS hl ol os om
  have hr : okV (aI x) := os0 os
  have zz : -2147483648 ≤ (0 : Int) ∧ (0 : Int) < 2147483648 := ⟨by omega, by omega⟩
  refine lv_if_gt hx hb d ht (fun h => ?_) (fun h => ?_)
  · rw [← i32_0, i32_lt zz hr] at h
    exact kt h H locs ls hP hD hS hl ol (os1 os) om
  · rw [← i32_0, i32_lt zz hr] at h
    exact kf h H locs ls hP hD hS hl ol (os1 os) om
theorem aw_if_le {x off : Int} {tgt : Nat} (cx : Cx X cc own nL dd) (d : decode cc pc = .ok (.ifCond .le off, 3)) (ht : (pc : Int) + off = (tgt : Int)) (kt : x ≤ 0 → AW X L nL tgt loc stk M) (kf : ¬ x ≤ 0 → AW X L nL (pc + 3) loc stk M) : AW X L nL pc loc (aI x :: stk) M := by
  obtain ⟨p, l, e, R, s, m, args, below, meth, c, cells, slots, Q, D, ca, ad, A⟩ := X
  obtain ⟨hx, hb, hml, hown, hts, hK, hN, hA, hfr, hlo, hce, hsl⟩ := cx
  intro H locs ls hP hD hS hl ol os om
  have hr : okV (aI x) := os0 os
  have zz : -2147483648 ≤ (0 : Int) ∧ (0 : Int) < 2147483648 := ⟨by omega, by omega⟩
  refine lv_if_le hx hb d ht (fun h => ?_) (fun h => ?_)
  · rw [← i32_0, i32_le hr zz] at h
    exact kt h H locs ls hP hD hS hl ol (os1 os) om
  · rw [← i32_0, i32_le hr zz] at h
    exact kf h H locs ls hP hD hS hl ol (os1 os) om
theorem aw_icmp_eq {x y off : Int} {tgt : Nat} (cx : Cx X cc own nL dd) (d : decode cc pc = .ok (.if_icmp .eq off, 3)) (ht : (pc : Int) + off = (tgt : Int)) (kt : x = y → AW X L nL tgt loc stk M) (kf : ¬ x = y → AW X L nL (pc + 3) loc stk M) : AW X L nL pc loc (aI y :: aI x :: stk) M := by
  obtain ⟨p, l, e, R, s, m, args, below, meth, c, cells, slots, Q, D, ca, ad, A⟩ := X
  obtain ⟨hx, hb, hml, hown, hts, hK, hN, hA, hfr, hlo, hce, hsl⟩ := cx
  intro H locs ls hP hD hS hl ol os om
  have hq : okV (aI y) := os0 os
  have hr : okV (aI x) := os0 (os1 os)
  refine lv_icmp_eq hx hb d ht (fun h => ?_) (fun h => ?_)
  · rw [i32_eq hr hq] at h
    exact kt h H locs ls hP hD hS hl ol (os1 (os1 os)) om
  · rw [i32_eq hr hq] at h
    exact kf h H locs ls hP hD hS hl ol (os1 (os1 os)) om
theorem aw_icmp_ne {x y off : Int} {tgt : Nat} (cx : Cx X cc own nL dd) (d : decode cc pc = .ok (.if_icmp .ne off, 3)) (ht : (pc : Int) + off = (tgt : Int)) (kt : ¬ x = y → AW X L nL tgt loc stk M) (kf : x = y → AW X L nL (pc + 3) loc stk M) : AW X L nL pc loc (aI y :: aI x :: stk) M := by
  obtain ⟨p, l, e, R, s, m, args, below, meth, c, cells, slots, Q, D, ca, ad, A⟩ := X
  obtain ⟨hx, hb, hml, hown, hts, hK, hN, hA, hfr, hlo, hce, hsl⟩ := cx
  intro H locs ls hP hD hS hl ol os om
  have hq : okV (aI y) := os0 os
  have hr : okV (aI x) := os0 (os1 os)
  refine lv_icmp_ne hx hb d ht (fun h => ?_) (fun h => ?_)
  · rw [i32_eq hr hq] at h
    exact kt h H locs ls hP hD hS hl ol (os1 (os1 os)) om
  · rw [i32_eq hr hq] at h
    exact kf h H locs ls hP hD hS hl ol (os1 (os1 os)) om
theorem aw_icmp_lt {x y off : Int} {tgt : Nat} (cx : Cx X cc own nL dd) (d : decode cc pc = .ok (.if_icmp .lt off, 3)) (ht : (pc : Int) + off = (tgt : Int)) (kt : x < y → AW X L nL tgt loc stk M) (kf : ¬ x < y → AW X L nL (pc + 3) loc stk M) : AW X L nL pc loc (aI y :: aI x :: stk) M := by
  obtain ⟨p, l, e, R, s, m, args, below, meth, c, cells, slots, Q, D, ca, ad, A⟩ := X
  obtain ⟨hx, hb, hml, hown, hts, hK, hN, hA, hfr, hlo, hce, hsl⟩ := cx
  intro H locs ls hP hD hS hl ol os om
  have hq : okV (aI y) := os0 os
  have hr : okV (aI x) := os0 (os1 os)
  refine lv_icmp_lt hx hb d ht (fun h => ?_) (fun h => ?_)
  · rw [i32_lt hr hq] at h
    exact kt h H locs ls hP hD hS hl ol (os1 (os1 os)) om
  · rw [i32_lt hr hq] at h
    exact kf h H locs ls hP hD hS hl ol (os1 (os1 os)) om
theorem aw_icmp_ge {x y off : Int} {tgt : Nat} (cx : Cx X cc own nL dd) (d : decode cc pc = .ok (.if_icmp .ge off, 3)) (ht : (pc : Int) + off = (tgt : Int)) (kt : y ≤ x → AW X L nL tgt loc stk M) (kf : ¬ y ≤ x → AW X L nL (pc + 3) loc stk M) : AW X L nL pc loc (aI y :: aI x :: stk) M := by
  obtain ⟨p, l, e, R, s, m, args, below, meth, c, cells, slots, Q, D, ca, ad, A⟩ := X
  obtain ⟨hx, hb, hml, hown, hts, hK, hN, hA, hfr, hlo, hce, hsl⟩ := cx
  intro H locs ls hP hD hS hl ol os om
  have hq : okV (aI y) := os0 os
  have hr : okV (aI x) := os0 (os1 os)
  refine lv_icmp_ge hx hb d ht (fun h => ?_) (fun h => ?_)
  · rw [i32_le hq hr] at h
    exact kt h H locs ls hP hD hS hl ol (os1 (os1 os)) om
  · rw [i32_le hq hr] at h
    exact kf h H locs ls hP hD hS hl ol (os1 (os1 os)) om
theorem aw_icmp_gt {x y off : Int} {tgt : Nat} (cx : Cx X cc own nL dd) (d : decode cc pc = .ok (.if_icmp .gt off, 3)) (ht : (pc : Int) + off = (tgt : Int)) (kt : y < x → AW X L nL tgt loc stk M) (kf : ¬ y < x → AW X L nL (pc + 3) loc stk M) : AW X L nL pc loc (aI y :: aI x :: stk) M := by
  obtain ⟨p, l, e, R, s, m, args, below, meth, c, cells, slots, Q, D, ca, ad, A⟩ := X
  obtain ⟨hx, hb, hml, hown, hts, hK, hN, hA, hfr, hlo, hce, hsl⟩ := cx
  intro H locs ls hP hD hS hl ol os om
  have hq : okV (aI y) := os0 os
  have hr : okV (aI x) := os0 (os1 os)
  refine lv_icmp_gt hx hb d ht (fun h => ?_) (fun h => ?_)
  · rw [i32_lt hq hr] at h
    exact kt h H locs ls hP hD hS hl ol (os1 (os1 os)) om
  · rw [i32_lt hq hr] at h
    exact kf h H locs ls hP hD hS hl ol (os1 (os1 os)) om
theorem aw_icmp_le {x y off : Int} {tgt : Nat} (cx : Cx X cc own nL dd) (d : decode cc pc = .ok (.if_icmp .le off, 3)) (ht : (pc : Int) + off = (tgt : Int)) (kt : x ≤ y → AW X L nL tgt loc stk M) (kf : ¬ x ≤ y → AW X L nL (pc + 3) loc stk M) : AW X L nL pc loc (aI y :: aI x :: stk) M := by
  obtain ⟨p, l, e, R, s, m, args, below, meth, c, cells, slots, Q, D, ca, ad, A⟩ := X
  obtain ⟨hx, hb, hml, hown, hts, hK, hN, hA, hfr, hlo, hce, hsl⟩ := cx
  intro H locs ls hP hD hS hl ol os om
  have hq : okV (aI y) := os0 os
  have hr : okV (aI x) := os0 (os1 os)
  refine lv_icmp_le hx hb d ht (fun h => ?_) (fun h => ?_)
  · rw [i32_le hr hq] at h
    exact kt h H locs ls hP hD hS hl ol (os1 (os1 os)) om
  · rw [i32_le hr hq] at h
    exact kf h H locs ls hP hD hS hl ol (os1 (os1 os)) om
theorem aw_goto {off : Int} {tgt : Nat} (cx : Cx X cc own nL dd) (d : decode cc pc = .ok (.goto off, 3)) (ht : (pc : Int) + off = (tgt : Int)) (kk : AW X L nL tgt loc stk M) : AW X L nL pc loc stk M := by
  obtain ⟨p, l, e, R, s, m, args, below, meth, c, cells, slots, Q, D, ca, ad, A⟩ := X
  obtain ⟨hx, hb, hml, hown, hts, hK, hN, hA, hfr, hlo, hce, hsl⟩ := cx
  intro H locs ls hP hD hS hl ol os om
  exact lv_goto hx hb d ht (kk H locs ls hP hD hS hl ol os om)
theorem aw_tabOut {dflt lo hi x : Int} {offs : Array Int} {len tgt : Nat} (cx : Cx X cc own nL dd) (d : decode cc pc = .ok (.tableswitch dflt lo hi offs, len)) (h : x < lo ∨ hi < x) (ht : (pc : Int) + dflt = (tgt : Int)) (kk : AW X L nL tgt loc stk M) : AW X L nL pc loc (aI x :: stk) M := by
  obtain ⟨p, l, e, R, s, m, args, below, meth, c, cells, slots, Q, D, ca, ad, A⟩ := X
  obtain ⟨hx, hb, hml, hown, hts, hK, hN, hA, hfr, hlo, hce, hsl⟩ := cx
  intro H locs ls hP hD hS hl ol os om
  exact lv_tableOut hx hb d (by rw [i32_id (os0 os)]; exact h) ht (kk H locs ls hP hD hS hl ol (os1 os) om)
theorem aw_tabIn {dflt lo hi x off : Int} {offs : Array Int} {len tgt : Nat} (cx : Cx X cc own nL dd) (d : decode cc pc = .ok (.tableswitch dflt lo hi offs, len)) (h1 : lo ≤ x) (h2 : x ≤ hi) (ho : offs[(x - lo).toNat]? = some off) (ht : (pc : Int) + off = (tgt : Int)) (kk : AW X L nL tgt loc stk M) : AW X L nL pc loc (aI x :: stk) M := by
  obtain ⟨p, l, e, R, s, m, args, below, meth, c, cells, slots, Q, D, ca, ad, A⟩ := X
  obtain ⟨hx, hb, hml, hown, hts, hK, hN, hA, hfr, hlo, hce, hsl⟩ := cx
  intro H locs ls hP hD hS hl ol os om
  exact lv_tableIn hx hb d (by rw [i32_id (os0 os)]; omega) (by rw [i32_id (os0 os)]; omega) (by rw [i32_id (os0 os)]; exact ho) ht (kk H locs ls hP hD hS hl ol (os1 os) om)
theorem aw_lookup {dflt x off : Int} {ps : Array (Int × Int)} {len tgt : Nat} (cx : Cx X cc own nL dd) (d : decode cc pc = .ok (.lookupswitch dflt ps, len)) (hp : (ps.toList.zip (ps.toList.drop 1)).all (fun (a, next) => a.1 < next.1) = true) (ho : Op.lookupswitch.offset ps.toList dflt x = off) (ht : (pc : Int) + off = (tgt : Int)) (kk : AW X L nL tgt loc stk M) : AW X L nL pc loc (aI x :: stk) M := by
  obtain ⟨p, l, e, R, s, m, args, below, meth, c, cells, slots, Q, D, ca, ad, A⟩ := X
  obtain ⟨hx, hb, hml, hown, hts, hK, hN, hA, hfr, hlo, hce, hsl⟩ := cx
  intro H locs ls hP hD hS hl ol os om
  exact lv_lookup hx hb d hp (by rw [i32_id (os0 os)]; exact ho) ht (kk H locs ls hP hD hS hl ol (os1 os) om)
theorem aw_ifnull {k : Nat} {off : Int} (cx : Cx X cc own nL dd) (d : decode cc pc = .ok (.ifnull off, 3)) (kk : AW X L nL (pc + 3) loc stk M) : AW X L nL pc loc (aR k :: stk) M := by
  obtain ⟨p, l, e, R, s, m, args, below, meth, c, cells, slots, Q, D, ca, ad, A⟩ := X
  obtain ⟨hx, hb, hml, hown, hts, hK, hN, hA, hfr, hlo, hce, hsl⟩ := cx
  intro H locs ls hP hD hS hl ol os om
  exact lv_ifnull hx hb d (kk H locs ls hP hD hS hl ol (os1 os) om)
theorem aw_ifnullN {off : Int} {tgt : Nat} (cx : Cx X cc own nL dd) (d : decode cc pc = .ok (.ifnull off, 3)) (ht : (pc : Int) + off = (tgt : Int)) (kk : AW X L nL tgt loc stk M) : AW X L nL pc loc (aN :: stk) M := by
  obtain ⟨p, l, e, R, s, m, args, below, meth, c, cells, slots, Q, D, ca, ad, A⟩ := X
  obtain ⟨hx, hb, hml, hown, hts, hK, hN, hA, hfr, hlo, hce, hsl⟩ := cx
  intro H locs ls hP hD hS hl ol os om
  exact lv_ifnullN hx hb d ht (kk H locs ls hP hD hS hl ol (os1 os) om)
theorem aw_ifnonnull {k : Nat} {off : Int} {tgt : Nat} (cx : Cx X cc own nL dd) (d : decode cc pc = .ok (.ifnonnull off, 3)) (ht : (pc : Int) + off = (tgt : Int)) (kk : AW X L nL tgt loc stk M) : AW X L nL pc loc (aR k :: stk) M := by
  obtain ⟨p, l, e, R, s, m, args, below, meth, c, cells, slots, Q, D, ca, ad, A⟩ := X
  obtain ⟨hx, hb, hml, hown, hts, hK, hN, hA, hfr, hlo, hce, hsl⟩ := cx
  intro H locs ls hP hD hS hl ol os om
  exact lv_ifnonnull hx hb d ht (kk H locs ls hP hD hS hl ol (os1 os) om)
theorem aw_ifnonnullN {off : Int} (cx : Cx X cc own nL dd) (d : decode cc pc = .ok (.ifnonnull off, 3)) (kk : AW X L nL (pc + 3) loc stk M) : AW X L nL pc loc (aN :: stk) M := by
  obtain ⟨p, l, e, R, s, m, args, below, meth, c, cells, slots, Q, D, ca, ad, A⟩ := X
  obtain ⟨hx, hb, hml, hown, hts, hK, hN, hA, hfr, hlo, hce, hsl⟩ := cx
  intro H locs ls hP hD hS hl ol os om
  exact lv_ifnonnullN hx hb d (kk H locs ls hP hD hS hl ol (os1 os) om)
theorem aw_null (cx : Cx X cc own nL dd) (d : decode cc pc = .ok (.aconst_null, 1)) (kk : AW X L nL (pc + 1) loc (aN :: stk) M) : AW X L nL pc loc stk M := by
  obtain ⟨p, l, e, R, s, m, args, below, meth, c, cells, slots, Q, D, ca, ad, A⟩ := X
  obtain ⟨hx, hb, hml, hown, hts, hK, hN, hA, hfr, hlo, hce, hsl⟩ := cx
  intro H locs ls hP hD hS hl ol os om
  exact lv_null hx hb d (kk H locs ls hP hD hS hl ol (osc (show okV aN from trivial) os) om)
theorem aw_astoreN {i : Nat} {loc2 : List (Nat × AV)} (cx : Cx X cc own nL dd) (d : decode cc pc = .ok (.astore i, 2)) (hn : i < nL) (hl2 : stI loc i aN = loc2) (kk : AW X L nL (pc + 2) loc2 stk M) : AW X L nL pc loc (aN :: stk) M := by
  obtain ⟨p, l, e, R, s, m, args, below, meth, c, cells, slots, Q, D, ca, ad, A⟩ := X
  obtain ⟨hx, hb, hml, hown, hts, hK, hN, hA, hfr, hlo, hce, hsl⟩ := cx
  intro H locs ls hP hD hS hl ol os om
  subst hl2
  exact lv_astoreN hx hb d hl hn (cvl_stI ad loc i aN) (fun ls hl => kk H locs ls hP hD hS hl (ok_stI ol (os0 os)) (os1 os) om)
theorem aw_astore_nN {k4 : Fin 4} {i : Nat} {loc2 : List (Nat × AV)} (cx : Cx X cc own nL dd) (d : decode cc pc = .ok (.astore_n k4, 1)) (hi : (k4 : Nat) = i) (hn : i < nL) (hl2 : stI loc i aN = loc2) (kk : AW X L nL (pc + 1) loc2 stk M) : AW X L nL pc loc (aN :: stk) M := by
  obtain ⟨p, l, e, R, s, m, args, below, meth, c, cells, slots, Q, D, ca, ad, A⟩ := X
  obtain ⟨hx, hb, hml, hown, hts, hK, hN, hA, hfr, hlo, hce, hsl⟩ := cx
  intro H locs ls hP hD hS hl ol os om
  subst hl2
  exact lv_astore_nN hx hb d hi hl hn (cvl_stI ad loc i aN) (fun ls hl => kk H locs ls hP hD hS hl (ok_stI ol (os0 os)) (os1 os) om)
theorem aw_aload_nN {k4 : Fin 4} {i : Nat} (cx : Cx X cc own nL dd) (d : decode cc pc = .ok (.aload_n k4, 1)) (hi : (k4 : Nat) = i) (k : Nat) (hk : loc[k]? = some (i, aN)) (kk : AW X L nL (pc + 1) loc (aN :: stk) M) : AW X L nL pc loc stk M := by
  obtain ⟨p, l, e, R, s, m, args, below, meth, c, cells, slots, Q, D, ca, ad, A⟩ := X
  obtain ⟨hx, hb, hml, hown, hts, hK, hN, hA, hfr, hlo, hce, hsl⟩ := cx
  intro H locs ls hP hD hS hl ol os om
  exact lv_aload_nN hx hb d hi (lv_pick_cvl hl k hk) (kk H locs ls hP hD hS hl ol (osc (show okV aN from trivial) os) om)
theorem aw_aloadN {i : Nat} (cx : Cx X cc own nL dd) (d : decode cc pc = .ok (.aload i, 2)) (k : Nat) (hk : loc[k]? = some (i, aN)) (kk : AW X L nL (pc + 2) loc (aN :: stk) M) : AW X L nL pc loc stk M := by
  obtain ⟨p, l, e, R, s, m, args, below, meth, c, cells, slots, Q, D, ca, ad, A⟩ := X
  obtain ⟨hx, hb, hml, hown, hts, hK, hN, hA, hfr, hlo, hce, hsl⟩ := cx
  intro H locs ls hP hD hS hl ol os om
  exact lv_aloadN hx hb d (lv_pick_cvl hl k hk) (kk H locs ls hP hD hS hl ol (osc (show okV aN from trivial) os) om)
theorem aw_lcmp {x y : Int} (cx : Cx X cc own nL dd) (d : decode cc pc = .ok (.lcmp, 1)) (k1 : y < x → AW X L nL (pc + 1) loc (aI 1 :: stk) M) (k2 : x = y → AW X L nL (pc + 1) loc (aI 0 :: stk) M) (k3 : x < y → AW X L nL (pc + 1) loc (aI (-1) :: stk) M) : AW X L nL pc loc (aL y :: aL x :: stk) M := by
  obtain ⟨p, l, e, R, s, m, args, below, meth, c, cells, slots, Q, D, ca, ad, A⟩ := X
  obtain ⟨hx, hb, hml, hown, hts, hK, hN, hA, hfr, hlo, hce, hsl⟩ := cx
  intro H locs ls hP hD hS hl ol os om
  have hq : okV (aL y) := os0 os
  have hr : okV (aL x) := os0 (os1 os)
  refine W.lcmp hx hb d ?_
  by_cases h1 : y < x
  · rw [show lg_cmp (i64 x) (i64 y) = i32 1 by unfold lg_cmp; rw [if_pos ((i64_lt hq hr).mpr h1)]; rfl]
    exact k1 h1 H locs ls hP hD hS hl ol (osc (show okV (aI 1) from ⟨by omega, by omega⟩) (os1 (os1 os))) om
  · by_cases h2 : x = y
    · rw [show lg_cmp (i64 x) (i64 y) = i32 0 by unfold lg_cmp; rw [if_neg (fun q => h1 ((i64_lt hq hr).mp q)), if_pos ((i64_eq hr hq).mpr h2)]; rfl]
      exact k2 h2 H locs ls hP hD hS hl ol (osc (show okV (aI 0) from ⟨by omega, by omega⟩) (os1 (os1 os))) om
    · rw [show lg_cmp (i64 x) (i64 y) = i32 (-1) by unfold lg_cmp; rw [if_neg (fun q => h1 ((i64_lt hq hr).mp q)), if_neg (fun q => h2 ((i64_eq hr hq).mp q))]; rfl]
      exact k3 (by omega) H locs ls hP hD hS hl ol (osc (show okV (aI (-1)) from ⟨by omega, by omega⟩) (os1 (os1 os))) om
end AWr
