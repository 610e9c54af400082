def SHl : List (Nat ⊕ (Nat × Nat)) := [
.inl 11, .inl 7, .inr (1, 540), .inl 5, .inl 0, .inr (0, 6), .inr (0, 8), .inr (0, 9), .inl 3, .inr (0, 40), .inl 1, .inr (0, 60), .inr (0, 400), .inr (0, 10), .inr (0, 10), .inr (0, 10), .inr (0, 10), .inr (0, 30), .inr (0, 30), .inr (0, 30), .inr (0, 30), .inr (0, 40), .inr (0, 60), .inr (0, 200), .inr (0, 200), .inr (0, 200), .inr (0, 200), .inr (0, 60), .inr (0, 60), .inr (0, 60), .inr (0, 60), .inr (0, 60), .inr (0, 60), .inr (4, 2), .inl 0, .inr (0, 6), .inr (0, 8), .inr (0, 9), .inl 3, .inr (0, 40), .inl 8, .inr (3, 6), .inr (0, 6), .inr (0, 6), .inr (0, 60), .inr (0, 60), .inr (0, 60), .inr (0, 60), .inr (0, 60), .inr (0, 360), .inr (0, 60), .inr (0, 60), .inl 2, .inr (0, 12), .inr (0, 12), .inr (0, 12), .inr (0, 12), .inr (0, 12), .inr (0, 12), .inr (0, 12), .inr (0, 169), .inr (0, 169), .inr (0, 169), .inr (0, 169), .inr (0, 12), .inl 6, .inr (0, 40), .inr (0, 40), .inr (0, 40), .inr (0, 40), .inl 4, .inr (0, 9), .inr (0, 9), .inr (0, 9), .inr (0, 4), .inl 10, .inr (0, 12), .inr (0, 12), .inr (0, 12), .inr (0, 64), .inr (0, 64), .inr (0, 64), .inr (0, 12), .inl 10, .inr (0, 12), .inr (0, 12), .inr (0, 12), .inr (0, 64), .inr (0, 64), .inr (0, 64), .inr (0, 12), .inl 9, .inr (0, 12), .inr (0, 12), .inr (0, 780), .inr (0, 780), .inr (0, 128), .inl 12, .inr (1, 540), .inr (0, 2819), .inr (0, 11), .inr (2, 28), .inr (2, 23), .inr (3, 6), .inr (0, 6), .inr (0, 6), .inr (0, 60), .inr (0, 60), .inr (0, 60), .inr (0, 60), .inr (0, 60), .inr (0, 192), .inr (0, 30), .inr (3, 64), .inr (0, 60), .inr (0, 60), .inr (0, 60), .inr (0, 60), .inr (0, 60), .inr (0, 60), .inr (0, 60), .inr (0, 12), .inr (0, 40), .inr (0, 60), .inr (0, 9), .inr (0, 40), .inr (2, 24), .inr (0, 24), .inr (0, 24), .inr (0, 24), .inr (0, 160), .inr (0, 160), .inr (0, 160), .inr (0, 2), .inr (0, 2), .inr (0, 120), .inr (0, 120), .inr (0, 120), .inr (3, 4096), .inr (0, 12), .inr (0, 5638), .inr (2, 28), .inr (3, 2), .inr (2, 1), .inl 5, .inl 0, .inr (0, 6), .inr (0, 8), .inr (0, 9), .inl 3, .inr (0, 40), .inl 1, .inr (0, 60), .inr (0, 400), .inr (0, 10), .inr (0, 10), .inr (0, 10), .inr (0, 10), .inr (0, 30), .inr (0, 30), .inr (0, 30), .inr (0, 30), .inr (0, 40), .inr (0, 60), .inr (0, 200), .inr (0, 200), .inr (0, 200), .inr (0, 200), .inr (0, 60), .inr (0, 60), .inr (0, 60), .inr (0, 60), .inr (0, 60), .inr (0, 60), .inl 5, .inl 0, .inr (0, 6), .inr (0, 8), .inr (0, 9), .inl 3, .inr (0, 40), .inl 1, .inr (0, 60), .inr (0, 400), .inr (0, 10), .inr (0, 10), .inr (0, 10), .inr (0, 10), .inr (0, 30), .inr (0, 30), .inr (0, 30), .inr (0, 30), .inr (0, 40), .inr (0, 60), .inr (0, 200), .inr (0, 200), .inr (0, 200), .inr (0, 200), .inr (0, 60), .inr (0, 60), .inr (0, 60), .inr (0, 60), .inr (0, 60), .inr (0, 60)
]
def SH (k : Nat) : Nat ⊕ (Nat × Nat) := SHl.getD k (.inl 99)
/-! ABSTRACT VALUES. An int or a long is a whole number (its word is ofInt of it), a reference is the number of a cell, or none. -/
abbrev AV : Type := Int ⊕ (Int ⊕ (Option Nat ⊕ Unit))
abbrev aI (v : Int) : AV := Sum.inl v
abbrev aL (v : Int) : AV := Sum.inr (Sum.inl v)
abbrev aR (o : Option Nat) : AV := Sum.inr (Sum.inr (Sum.inl o))
abbrev aP (k : Nat) : AV := aR (some k)
abbrev aU : AV := Sum.inr (Sum.inr (Sum.inr ()))
/-- the heap's numbers: cell, place -/
abbrev HI : Type := Nat → Int → Int
/-- the heap's references, and how many cells there are -/
abbrev ZR : Type := (Nat → Nat → Option Nat) × Nat
abbrev rg (x : Int) : Prop := -2147483648 ≤ x ∧ x ≤ 2147483647
abbrev rl (x : Int) : Prop := -9223372036854775808 ≤ x ∧ x ≤ 9223372036854775807
def hu (h : HI) (k : Nat) (j v : Int) : HI := fun a b => if a = k ∧ b = j then v else h a b
def ru (r : Nat → Nat → Option Nat) (k j : Nat) (v : Option Nat) : Nat → Nat → Option Nat := fun a b => if a = k ∧ b = j then v else r a b
def hz (h : HI) (k : Nat) : HI := fun a b => if a = k then 0 else h a b
def rz (r : Nat → Nat → Option Nat) (k : Nat) : Nat → Nat → Option Nat := fun a b => if a = k then none else r a b
def band (x y : Int) : Int := (Int32.ofInt x &&& Int32.ofInt y).toInt
def bor (x y : Int) : Int := (Int32.ofInt x ||| Int32.ofInt y).toInt
def bxor (x y : Int) : Int := (Int32.ofInt x ^^^ Int32.ofInt y).toInt
def bshl (x y : Int) : Int := (Int32.ofInt x <<< (Int32.ofInt y &&& 31)).toInt
def bshr (x y : Int) : Int := (Int32.ofInt x >>> (Int32.ofInt y &&& 31)).toInt
def b8 (x : Int) : Int := ((Int32.ofInt x).toInt8.toInt32).toInt
def lband (x y : Int) : Int := (Int64.ofInt x &&& Int64.ofInt y).toInt
def lbor (x y : Int) : Int := (Int64.ofInt x ||| Int64.ofInt y).toInt
def lbshl (x y : Int) : Int := (Int64.ofInt x <<< ((Int32.ofInt y).toInt64 &&& 63)).toInt
def lbshr (x y : Int) : Int := (Int64.ofInt x >>> ((Int32.ofInt y).toInt64 &&& 63)).toInt
def lcm3 (x y : Int) : Int := if y < x then 1 else if x = y then 0 else -1
def cR (ρ : Nat → Nat) (o : Option Nat) : Value := va_rf (o.map ρ)
def cV (ρ : Nat → Nat) (v : AV) : Value := match v with
  | .inl x => .int (Int32.ofInt x)
  | .inr (.inl x) => .long (Int64.ofInt x)
  | .inr (.inr (.inl o)) => cR ρ o
  | .inr (.inr (.inr _)) => .null
def aty : Nat → FieldType := fun t => match t with
  | 0 => .int
  | 1 => .byte
  | 2 => .long
  | 3 => .boolean
  | _ => .object "DeadPacks$Stock"
def fV (ρ : Nat → Nat) (ty : FieldType) (x : Int) (o : Option Nat) : Value := match ty with
  | .long => .long (Int64.ofInt x)
  | .object _ => cR ρ o
  | .array _ => cR ρ o
  | _ => .int (Int32.ofInt x)
def fT (ci : Nat) : Nat → FieldType := match ci with
  | 0 => tyX0
  | 1 => tyX1
  | 2 => tyX2
  | 3 => tyX3
  | 4 => tyX4
  | 5 => tyX5
  | 6 => tyX6
  | 7 => tyX7
  | 8 => tyX8
  | 9 => tyX9
  | 10 => tyX10
  | 11 => tyX11
  | _ => tyX12
def fN (ci : Nat) : Nat := ((vwCl[ci]?).map (fun q => q.2.2)).getD 0
def aC (ρ : Nat → Nat) (t : Nat) (f : Int → Int) (o : Nat → Option Nat) : ((Nat → Int32) ⊕ (Nat → Int64) ⊕ (Nat → UInt32) ⊕ (Nat → UInt64) ⊕ (Nat → Option Nat)) := match t with
  | 0 => .inl (fun j => Int32.ofInt (f j))
  | 1 => .inl (fun j => Int32.ofInt (f j))
  | 2 => .inr (.inl (fun j => Int64.ofInt (f j)))
  | 3 => .inl (fun j => Int32.ofInt (f j))
  | _ => .inr (.inr (.inr (.inr (fun j => (o j).map ρ))))
def cE (ca : Nat → ClassId) (ρ : Nat → Nat) (h : HI) (r : Nat → Nat → Option Nat) (k : Nat) : va_E := match SH k with
  | .inl ci => .inr (ci, (List.range (fN ci)).map (fun j => fV ρ (fT ci j) (h k j) (r k j)))
  | .inr (t, len) => .inl (ca t, len, aC ρ t (h k) (r k))
def gW (ca : Nat → ClassId) (ρ : Nat → Nat) (h : HI) (z : ZR) : va_W := (List.range z.2).map (fun k => (ρ k, cE ca ρ h z.1 k))
def gT (ca : Nat → ClassId) : List (ClassId × FieldType) := [(ca 0, .int), (ca 1, .byte), (ca 2, .long), (ca 3, .boolean), (ca 4, .object "DeadPacks$Stock")]
/-- the words of the tables that may be handed on -/
def TB : List Cond := lw_tbl.filter goodWord
/-- the launch's own: classes' numbers, array classes, where the new cells begin, the script's cell, its length, its ints -/
abbrev GE : Type := va_G × (Nat → ClassId) × Nat × Nat × Nat × (Nat → Int) × (Nat → Nat)
abbrev geD (E : GE) : va_G := E.1
abbrev geC (E : GE) : Nat → ClassId := E.2.1
abbrev geB (E : GE) : Nat := E.2.2.1
abbrev geA (E : GE) : Nat := E.2.2.2.1
abbrev geL (E : GE) : Nat := E.2.2.2.2.1
abbrev geX (E : GE) : Nat → Int := E.2.2.2.2.2.1
/-- where the three static arrays lie -/
abbrev geS (E : GE) : Nat → Nat := E.2.2.2.2.2.2
def lawv (t : Nat) (x : Int) : Int := (([[0, 0, 1, 1, 1, 0, 0, 0, 0], [99, 99, 999, 99, 999, 99, 99, 99, 99], [2, 1, 100, 5, 100, 2, 3, 20, 40]] : List (List Int)).getD t []).getD x.toNat 0
def lawN (t : Nat) : String := (["LAW_LEAST", "LAW_MOST", "LAW_USUAL"] : List String).getD t ""
abbrev gA (E : GE) : Nat → Prop := fun q => geB E ≤ q
/-- what held at the law's entry -/
def gS0 (E : GE) (s0 : State) : Prop :=
  va_K (geD E) vwCl (gT (geC E)) s0 ∧ va_X (geA E) (geL E) (fun j => Int32.ofInt (geX E j)) s0 s0.heap ∧ geA E < geB E ∧ s0.heap.size = geB E ∧ (∀ w ∈ lw_tbl, w.before #[Value.ref (geA E)] s0 = true) ∧ (Jvm.Cond.and given_1 narrow_1).before #[Value.ref (geA E)] s0 = true ∧
  ∀ t : Nat, t < 3 → va_Z "DeadPacks" (lawN t) "[I" (.ref (geS E t)) (gA E) s0 s0.heap ∧ va_T .int (geS E t) 9 (fun j => .int (Int32.ofInt (lawv t j))) (gA E) s0 s0.heap ∧ va_X (geS E t) 9 (fun j => Int32.ofInt (lawv t j)) s0 s0.heap ∧ geS E t < geB E
/-- what is left of it at a method's entry -/
def gS (E : GE) (s : State) (H : Heap) : Prop :=
  va_K (geD E) vwCl (gT (geC E)) s ∧ geB E ≤ H.size ∧ ∃ s0 : State, gS0 E s0 ∧ s0.WarmedH s.vm ∧ ∀ q : Nat, q < geB E → H[q]? = s0.heap[q]?
/-- the script's length and ints, as the numbers of two cells that nobody writes -/
def gSc (E : GE) (h : HI) : Prop := h 1000004 0 = geL E ∧ ∀ j : Nat, j < geL E → h 1000003 j = geX E j
theorem gSc_to {E : GE} {h h' : HI} {k n : Nat} (hk : k < n) (hn : n ≤ 1000000) (hh : ∀ a, a ≠ k → h' a = h a) (hs : gSc E h) : gSc E h' := ⟨by rw [hh 1000004 (by omega)]; exact hs.1, fun j hj => by rw [hh 1000003 (by omega)]; exact hs.2 j hj⟩
def gR (E : GE) (ρ : Nat → Nat) (h : HI) (z : ZR) (H : Heap) : Prop := va_P (geD E) vwCl (gW (geC E) ρ h z) H ∧ va_D (gA E) (gW (geC E) ρ h z) ∧ z.2 ≤ 1000000 ∧ (∀ t : Nat, t < 3 → ρ (1000000 + t) = geS E t) ∧ ρ 1000003 = geA E ∧ gSc E h
def gQ (E : GE) (ρ : Nat → Nat) (n : Nat) (Q : Option AV → HI → ZR → Prop) : Array Value → State → Outcome → State → Prop := fun _ st o t =>
  (∃ (v : Option AV) (h' : HI) (z' : ZR) (ρ' : Nat → Nat), o = .returned (v.map (cV ρ')) ∧ Q v h' z' ∧ gR E ρ' h' z' t.heap ∧ n ≤ z'.2 ∧ ∀ k : Nat, k < n ∨ z'.2 ≤ k → ρ' k = ρ k) ∧ va_F (gA E) st t
def lk (ρ : Nat → Nat) : Nat → List AV → List (Nat × Value)
  | _, [] => []
  | i, v :: t => match v with
    | .inr (.inr (.inr _)) => lk ρ (i + 1) t
    | .inr (.inr (.inl o)) => (i, cR ρ o) :: lk ρ (i + 1) t
    | .inr (.inl x) => (i, .long (Int64.ofInt x)) :: lk ρ (i + 1) t
    | .inl x => (i, .int (Int32.ofInt x)) :: lk ρ (i + 1) t
def gws (i : MT) : List Cond := Cond.code i.1 i.2.1 i.2.2.1 i.2.2.2 :: TB
def gRm (d mc ms : Nat) : Room := { frames := d, cells := mc, slots := ms, locals := 44 * d }
def gC (p : Program) (s : State) (m : MethodId) (args : Array Value) (meth : Method) (c : Code) (i : MT) : Prop :=
  p.tables.exec = Jvm.exec ∧ c.code = i.2.1 ∧ meth.sig.returnType = i.2.2.2 ∧ c.maxLocals = i.2.2.1 ∧ s.vm.findClass i.1.cls = some m.cls ∧ (∀ w ∈ TB, w.before args s = true) ∧ meth.locks = false ∧ meth.name = i.1.name
/-- from here the method comes to its end, with Q of its answer, the numbers and the references -/
def G (l : Launch) (d mc ms : Nat) (i : MT) (z : ZR) (pc : Nat) (ls st : List AV) (h : HI) (Q : Option AV → HI → ZR → Prop) : Prop :=
  ∀ (p : Program) (e : Env) (s : State) (m : MethodId) (args : Array Value) (below : List Frame) (meth : Method) (c : Code) (H : Heap) (locs : List Loc) (cells slots : Nat) (E : GE) (ρ : Nat → Nat) (lsA : Array Slot),
    gC p s m args meth c i → gS E s s.heap → gR E ρ h z H → va_S (gA E) s.heap H locs → lv_has lsA i.2.2.1 (lk ρ 0 ls) →
    W p l e (gRm d (cells + mc) (slots + ms)) s m args below meth c H locs cells slots (MQ below (gQ E ρ z.2 Q) args s (cells + mc) (slots + ms) (gA E)) (F0 m pc lsA (st.map (cV ρ)))
/-- the method, called so, comes back, with Q -/
def Ret (l : Launch) (d mc ms : Nat) (i : MT) (z : ZR) (as : List AV) (h : HI) (Q : Option AV → HI → ZR → Prop) : Prop :=
  ∀ (E : GE) (ρ : Nat → Nat), Met l i.1 (gws i) (gRm d mc ms) (va_Pc (as.map (cV ρ)) (fun U => gS E U U.heap ∧ gR E ρ h z U.heap)) (gQ E ρ z.2 Q) mc ms (gA E)
theorem lk_mem {ρ : Nat → Nat} {q : Nat × Value} : ∀ {ls : List AV} {i : Nat}, q ∈ lk ρ i ls ↔ ∃ (j : Nat) (v : AV), ls[j]? = some v ∧ v ≠ aU ∧ q = (i + j, cV ρ v)
  | [], i => by simp [lk]
  | v :: t, i => by
    have ih := fun k => lk_mem (ρ := ρ) (q := q) (ls := t) (i := k)
    have key : (∃ (j : Nat) (w : AV), (v :: t)[j]? = some w ∧ w ≠ aU ∧ q = (i + j, cV ρ w)) ↔ ((v ≠ aU ∧ q = (i, cV ρ v)) ∨ q ∈ lk ρ (i + 1) t) := by
      rw [ih (i + 1)]
      constructor
      · rintro ⟨j, w, h1, h2, h3⟩
        cases j with
        | zero =>
          rw [List.getElem?_cons_zero] at h1
          cases h1
          exact Or.inl ⟨h2, h3⟩
        | succ j =>
          rw [List.getElem?_cons_succ] at h1
          exact Or.inr ⟨j, w, h1, h2, by rw [h3]; congr 1; omega⟩
      · rintro (⟨h2, h3⟩ | ⟨j, w, h1, h2, h3⟩)
        · exact ⟨0, v, rfl, h2, h3⟩
        · exact ⟨j + 1, w, by rw [List.getElem?_cons_succ]; exact h1, h2, by rw [h3]; congr 1; omega⟩
    rw [key]
    match v with
    | .inr (.inr (.inr ())) => simp [lk]
    | .inr (.inr (.inl o)) => simp [lk, cV]
    | .inr (.inl x) => simp [lk, cV]
    | .inl x => simp [lk, cV]
theorem lk_at {ρ : Nat → Nat} {ls : List AV} {lsA : Array Slot} {n : Nat} (hl : lv_has lsA n (lk ρ 0 ls)) {j : Nat} {v : AV} (h : ls[j]? = some v) (hv : v ≠ aU) : lsA[j]? = some (.val (cV ρ v)) := by
  have := hl.2.2 (j, cV ρ v) (lk_mem.mpr ⟨j, v, h, hv, by simp⟩)
  exact this
def lnok (ls : List AV) (i : Nat) : Bool := match i with
  | 0 => true
  | k + 1 => match ls[k]? with
    | some (.inr (.inl _)) => false
    | _ => true
theorem lv_has_mono {ls : Array Slot} {n : Nat} {l l' : List (Nat × Value)} (h : lv_has ls n l) (hs : ∀ q ∈ l', q ∈ l) : lv_has ls n l' := ⟨h.1, h.2.1, fun q hq => h.2.2 q (hs q hq)⟩
theorem cR_cat {ρ : Nat → Nat} {o : Option Nat} : (cR ρ o).category = 1 := by cases o <;> rfl
/-- behind a store of one word -/
theorem lk_set {ρ : Nat → Nat} {ls : List AV} {i : Nat} {v : AV} (hok : lnok ls i = true) : ∀ q ∈ lk ρ 0 (ls.set i v), q ∈ ((i, cV ρ v) :: (lk ρ 0 ls).filter (fun q => !(q.1 == i) && !(q.1 + 1 == i && q.2.category == 2))) := by
  intro q hq
  obtain ⟨j, w, h1, h2, h3⟩ := lk_mem.mp hq
  rw [Nat.zero_add] at h3
  by_cases hj : j = i
  · subst hj
    have hw : w = v := by
      rw [List.getElem?_set] at h1
      split at h1
      · split at h1
        · exact (Option.some.inj h1).symm
        · cases h1
      · rename_i hne; exact absurd rfl hne
    rw [h3, hw]
    exact List.mem_cons_self
  · rw [List.getElem?_set_ne (Ne.symm hj)] at h1
    refine List.mem_cons_of_mem _ (List.mem_filter.mpr ⟨lk_mem.mpr ⟨j, w, h1, h2, by rw [Nat.zero_add]; exact h3⟩, ?_⟩)
    rw [h3]
    have e1 : (j == i) = false := by simpa using hj
    simp only [e1, Bool.not_false, Bool.true_and, Bool.not_eq_true', Bool.and_eq_false_iff]
    by_cases hj1 : j + 1 = i
    · right
      subst hj1
      match w, h1, h2 with
      | .inl x, h1, h2 => rfl
      | .inr (.inl x), h1, h2 => simp [lnok, h1] at hok
      | .inr (.inr (.inl o)), h1, h2 => cases o <;> rfl
      | .inr (.inr (.inr ())), h1, h2 => exact absurd rfl h2
    · left
      simpa using hj1
/-- behind a store of two words -/
theorem lk_set2 {ρ : Nat → Nat} {ls : List AV} {i : Nat} {x : Int} (hok : lnok ls i = true) : ∀ q ∈ lk ρ 0 ((ls.set i (aL x)).set (i + 1) aU), q ∈ ((i, cV ρ (aL x)) :: (lk ρ 0 ls).filter (fun q => !(q.1 == i) && (!(q.1 == i + 1) && !(q.1 + 1 == i && q.2.category == 2)))) := by
  intro q hq
  obtain ⟨j, w, h1, h2, h3⟩ := lk_mem.mp hq
  rw [Nat.zero_add] at h3
  by_cases hj1 : j = i + 1
  · subst hj1
    rw [List.getElem?_set] at h1
    simp at h1
    exact absurd h1.2.symm h2
  rw [List.getElem?_set_ne (by omega)] at h1
  by_cases hj : j = i
  · subst hj
    have hw : w = aL x := by
      rw [List.getElem?_set] at h1
      simp at h1
      exact h1.2.symm
    rw [h3, hw]
    exact List.mem_cons_self
  · rw [List.getElem?_set_ne (Ne.symm hj)] at h1
    refine List.mem_cons_of_mem _ (List.mem_filter.mpr ⟨lk_mem.mpr ⟨j, w, h1, h2, by rw [Nat.zero_add]; exact h3⟩, ?_⟩)
    rw [h3]
    have e1 : (j == i) = false := by simpa using hj
    have e2 : (j == i + 1) = false := by simpa using hj1
    simp only [e1, e2, Bool.not_false, Bool.true_and, Bool.not_eq_true', Bool.and_eq_false_iff]
    by_cases hj1 : j + 1 = i
    · right
      subst hj1
      match w, h1, h2 with
      | .inl x, h1, h2 => rfl
      | .inr (.inl x), h1, h2 => simp [lnok, h1] at hok
      | .inr (.inr (.inl o)), h1, h2 => cases o <;> rfl
      | .inr (.inr (.inr ())), h1, h2 => exact absurd rfl h2
    · left
      simpa using hj1
theorem i32_toInt {x : Int} (h : rg x) : (Int32.ofInt x).toInt = x := Int32.toInt_ofInt_of_le (by have := h.1; omega) (by have := h.2; omega)
theorem i64_toInt {x : Int} (h : rl x) : (Int64.ofInt x).toInt = x := Int64.toInt_ofInt_of_le (by have := h.1; omega) (by have := h.2; omega)
theorem i32_eq {x y : Int} (hx : rg x) (hy : rg y) : Int32.ofInt x = Int32.ofInt y ↔ x = y := by
  rw [← Int32.toInt_inj, i32_toInt hx, i32_toInt hy]
theorem i32_lt {x y : Int} (hx : rg x) (hy : rg y) : Int32.ofInt x < Int32.ofInt y ↔ x < y := by
  rw [Int32.lt_iff_toInt_lt, i32_toInt hx, i32_toInt hy]
theorem i32_le {x y : Int} (hx : rg x) (hy : rg y) : Int32.ofInt x ≤ Int32.ofInt y ↔ x ≤ y := by
  rw [Int32.le_iff_toInt_le, i32_toInt hx, i32_toInt hy]
theorem i32_back (a : Int32) : Int32.ofInt a.toInt = a := Int32.ofInt_toInt a
theorem i64_back (a : Int64) : Int64.ofInt a.toInt = a := Int64.ofInt_toInt a
theorem i32_0 : (0 : Int32) = Int32.ofInt 0 := rfl
theorem rg_0 : rg 0 := ⟨by decide, by decide⟩
theorem i32_nat {x : Int} (h0 : 0 ≤ x) (h : x ≤ 2147483647) : (Int32.ofInt x).toNatClampNeg = x.toNat := by
  show (Int32.ofInt x).toInt.toNat = x.toNat
  rw [i32_toInt ⟨by omega, h⟩]
theorem vp_in_of_int {x : Int} {n : Nat} (h0 : 0 ≤ x) (h : x < n) (hn : n ≤ 2147483647) : vp_in (Int32.ofInt x) n := by
  rw [vp_in_iff, i32_toInt ⟨by omega, by omega⟩]
  exact ⟨h0, h⟩
