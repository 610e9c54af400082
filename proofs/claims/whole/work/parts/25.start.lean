theorem law_wa : ∀ t, t < 3 → Cond.arrayOf (.static "DeadPacks" (lawN t) "[I") .int ∈ flatC (Jvm.Cond.and given_1 narrow_1) := by decide +kernel
theorem law_wl : ∀ t, t < 3 → Cond.eq (.length (.static "DeadPacks" (lawN t) "[I")) (.int 9) ∈ flatC (Jvm.Cond.and given_1 narrow_1) := by decide +kernel
theorem law_we : ∀ t, t < 3 → ∀ j, j < 9 → Cond.eq (.elem (.static "DeadPacks" (lawN t) "[I") (.int (Int32.ofNat j))) (.int (Int32.ofInt (lawv t j))) ∈ flatC (Jvm.Cond.and given_1 narrow_1) := by decide +kernel
set_option maxRecDepth 20000 in
theorem law_ws0 : Cond.laysStatic "DeadPacks" (lawN 0) "[I" ∈ lw_tbl := List.mem_of_getElem? (i := 839) rfl
set_option maxRecDepth 20000 in
theorem law_ws1 : Cond.laysStatic "DeadPacks" (lawN 1) "[I" ∈ lw_tbl := List.mem_of_getElem? (i := 841) rfl
set_option maxRecDepth 20000 in
theorem law_ws2 : Cond.laysStatic "DeadPacks" (lawN 2) "[I" ∈ lw_tbl := List.mem_of_getElem? (i := 213) rfl
theorem law_ws : ∀ t, t < 3 → Cond.laysStatic "DeadPacks" (lawN t) "[I" ∈ lw_tbl := by
  intro t ht
  have h3 : t = 0 ∨ t = 1 ∨ t = 2 := by omega
  rcases h3 with rfl | rfl | rfl
  · exact law_ws0
  · exact law_ws1
  · exact law_ws2
set_option maxRecDepth 20000 in
theorem law_ini : Cond.initialized "DeadPacks" ∈ lw_tbl := List.mem_of_getElem? (i := 119) rfl
theorem len_small {args : Array Value} {s : State} {tm : Term} {v : Value} (hv : (Term.length tm).eval args s none [] s = some v) {a : Addr} {cell : Cell} (ht : tm.eval args s none [] s = some (.ref a)) (hat : s.arrayAt? a = some cell) : cell.slots.size < 2 ^ 31 := by
  simp only [Term.eval, ht, hat, Option.bind_eq_bind, Option.bind_some] at hv
  by_cases hlt : cell.slots.size < 2147483648
  · exact hlt
  · simp [hlt] at hv
theorem law_static {s : State} {b : Nat} (hts : ∀ w ∈ lw_tbl, w.before #[Value.ref b] s = true) (hgv : (Jvm.Cond.and given_1 narrow_1).before #[Value.ref b] s = true) (t : Nat) (ht : t < 3) :
    ∃ a : Nat, a < s.heap.size ∧ va_Z "DeadPacks" (lawN t) "[I" (.ref a) (fun q => s.heap.size ≤ q) s s.heap ∧ va_T .int a 9 (fun j => .int (Int32.ofInt (lawv t j))) (fun q => s.heap.size ≤ q) s s.heap ∧ va_X a 9 (fun j => Int32.ofInt (lawv t j)) s s.heap := by
  have hs := flat_of_before _ hgv
  have hlen := va_eqt (hs _ (law_wl t ht))
  have hA : ∀ a : Nat, a < s.heap.size → ¬ (s.heap.size ≤ a) := fun a h => Nat.not_le.mpr h
  obtain ⟨a, hev, hT⟩ := va_Tof (N := 9) (A := fun q => s.heap.size ≤ q) (f := fun j => .int (Int32.ofInt (lawv t j))) (by decide) (hs _ (law_wa t ht)) hlen (fun j hj => va_eqt (hs _ (law_we t ht j hj))) hA
  have hlay := hts _ (law_ws t ht)
  have hZ := va_Zref hlay (hts _ law_ini) hev hA
  obtain ⟨cell, h1, h2, h3, h4, h5, h6, h7⟩ := id hT
  refine ⟨a, (Array.getElem?_eq_some_iff.mp h1).1, hZ, hT, cell, h1, h2, h3, ?_, fun j hj => h6 j hj⟩
  obtain ⟨a', cell', ht', hat', hv'⟩ := Term.length_spec hlen
  have hsz := len_small hlen ht' hat'
  cases hev.symm.trans ht'
  obtain ⟨hc', -, -, -⟩ := State.arrayAt?_spec hat'
  cases h1.symm.trans hc'
  exact (nI_eq hsz (by decide)).mp h5
theorem room_le {s : State} {pl : Platform} {r r' : Room} (h : s.hasRoom pl r = true) (h1 : r'.frames ≤ r.frames) (h2 : r'.locals ≤ r.locals) (h3 : r'.cells ≤ r.cells) (h4 : r'.slots ≤ r.slots) : s.hasRoom pl r' = true := by
  simp only [State.hasRoom, Bool.and_eq_true, decide_eq_true_eq] at h ⊢
  obtain ⟨⟨⟨⟨a1, a2, a3, a4, a5, a6⟩, a7⟩, a8⟩, a9⟩ := h
  exact ⟨⟨⟨⟨by omega, by omega, by omega, by omega, by omega, a6⟩, by omega⟩, by omega⟩, a9⟩
theorem W_room {p : Program} {l : Launch} {e : Env} {R R' : Room} {s : State} {m : MethodId} {args : Array Value} {below : List Frame} {meth : Method} {c : Code} {H : Heap} {locs : List Loc} {cells slots : Nat} {Q : State → Prop} {g : JFrame} (h1 : R'.frames ≤ R.frames) (h2 : R'.locals ≤ R.locals) (h3 : R'.cells ≤ R.cells) (h4 : R'.slots ≤ R.slots) (k : W p l e R' s m args below meth c H locs cells slots Q g) : W p l e R s m args below meth c H locs cells slots Q g :=
  fun T hT X => k T hT { X with room := room_le X.room h1 h2 h3 h4 }
def R_law : String := "DeadPacksLaw"
def lw_P (b : Addr) (xs : List Int32) (args : Array Value) (s : State) : Prop := args = #[.ref b] ∧ s.IntsAt b xs ∧ xs.length ≤ 3072 ∧ (Jvm.Cond.and given_1 narrow_1).before args s = true
def lw_Q (_ : Array Value) (s : State) (o : Outcome) (t : State) : Prop := o = .returned (some (.int 1)) ∧ Framed s o t [] 601024 7293034
def lw_Z (below : List Frame) (a : Array Value) (s : State) : State → Prop := fun t => ∃ o, t.status = .running ∧ Ended t below o ∧ lw_Q a s o t
/-- the law's own end, with 1 on the stack, nothing written that was there before, its room as the claim has it -/
theorem lw_ret {p : Program} {l : Launch} {e : Env} {s : State} {m : MethodId} {below : List Frame} {meth : Method} {c : Code} {b : Nat} (hx : p.tables.exec = Jvm.exec) (hb : c.code = code) (hr : meth.sig.returnType = ret) (hlocks : meth.locks = false) {pc : Nat} {H : Heap} {ls : Array Slot} (hdg : decode code pc = .ok (.ireturn, 1)) : W p l e room_1 s m #[Value.ref b] below meth c H [] 601024 7293034 (lw_Z below #[Value.ref b] s) (F0 m pc ls [.int 1]) := by
  intro T hT X
  obtain ⟨fs, hret, hrun, hended, hW, hframe⟩ := X.leave (v := some (.int 1)) (hlocks := hlocks) (fun h => by rw [hr] at h; cases h)
  have hmeth' : T.vm.method? m = some meth := X.method'
  refine ⟨T.setFrames fs, ?_, .returned (some (.int 1)), hrun, hended, rfl, ⟨_, rfl⟩, hW, hframe⟩
  jvm_step X.here [X.here.top, hx, hb, hdg, hmeth', hr, ret, narrow_b1]
  (try refine ⟨rfl, ?_⟩); (try refine ⟨rfl, ?_⟩)
  first | (intro acts; rw [hret _ acts rfl rfl rfl]) | rw [hret _ _ rfl rfl rfl]
  exact Steps.refl _
/-- what holds at the law's entry: the machine, the code, the tables' words (any of lw_tbl by 'hts w (by decide +kernel)'), the script of L ints xs at the cell b, what the Statement gives of the start (any of its parts by flat_of_before) -/
def lw_At (p : Program) (s : State) (m : MethodId) (meth : Method) (c : Code) (b L : Nat) (xs : Nat → Int32) : Prop :=
  p.tables.exec = Jvm.exec ∧ c.code = code ∧ meth.sig.returnType = ret ∧ c.maxLocals = 7 ∧ s.vm.findClass R_law = some m.cls ∧ (∀ w ∈ lw_tbl, w.before #[Value.ref b] s = true) ∧ va_X b L xs s s.heap ∧ b < s.heap.size ∧ meth.locks = false ∧ (Jvm.Cond.and given_1 narrow_1).before #[Value.ref b] s = true

set_option maxRecDepth 20000 in
theorem in0_X0 : Cond.instantiable RX0 7 ∈ lw_tbl := List.mem_of_getElem? (i := 207) rfl
set_option maxRecDepth 20000 in
theorem in0_X1 : Cond.instantiable RX1 14 ∈ lw_tbl := List.mem_of_getElem? (i := 271) rfl
set_option maxRecDepth 20000 in
theorem in0_X2 : Cond.instantiable RX2 18 ∈ lw_tbl := List.mem_of_getElem? (i := 452) rfl
set_option maxRecDepth 20000 in
theorem in0_X3 : Cond.instantiable RX3 3 ∈ lw_tbl := List.mem_of_getElem? (i := 252) rfl
set_option maxRecDepth 20000 in
theorem in0_X4 : Cond.instantiable RX4 8 ∈ lw_tbl := List.mem_of_getElem? (i := 562) rfl
set_option maxRecDepth 20000 in
theorem in0_X5 : Cond.instantiable RX5 17 ∈ lw_tbl := List.mem_of_getElem? (i := 201) rfl
set_option maxRecDepth 20000 in
theorem in0_X6 : Cond.instantiable RX6 10 ∈ lw_tbl := List.mem_of_getElem? (i := 518) rfl
set_option maxRecDepth 20000 in
theorem in0_X7 : Cond.instantiable RX7 10 ∈ lw_tbl := List.mem_of_getElem? (i := 151) rfl
set_option maxRecDepth 20000 in
theorem in0_X8 : Cond.instantiable RX8 11 ∈ lw_tbl := List.mem_of_getElem? (i := 404) rfl
set_option maxRecDepth 20000 in
theorem in0_X9 : Cond.instantiable RX9 6 ∈ lw_tbl := List.mem_of_getElem? (i := 643) rfl
set_option maxRecDepth 20000 in
theorem in0_X10 : Cond.instantiable RX10 10 ∈ lw_tbl := List.mem_of_getElem? (i := 597) rfl
set_option maxRecDepth 20000 in
theorem in0_X11 : Cond.instantiable RX11 16 ∈ lw_tbl := List.mem_of_getElem? (i := 143) rfl
set_option maxRecDepth 20000 in
theorem in0_X12 : Cond.instantiable RX12 82 ∈ lw_tbl := List.mem_of_getElem? (i := 1556) rfl
theorem law_ex {s : State} {args : Array Value} (hts : ∀ w ∈ lw_tbl, w.before args s = true) (k : Nat) : ∃ (cC : ClassId) (iS : Nat → Nat), ∀ q : vw_C, vwCl[k]? = some q → u_Kn s q.1 q.2.1 q.2.2 cC iS := by
  match k with
  | 0 =>
    obtain ⟨c, i, h⟩ := u_known (C := RX0) (T := TX0) (N := 7) hts inX0 (hts _ in0_X0)
    exact ⟨c, i, fun q hq => by cases hq; exact h⟩
  | 1 =>
    obtain ⟨c, i, h⟩ := u_known (C := RX1) (T := TX1) (N := 14) hts inX1 (hts _ in0_X1)
    exact ⟨c, i, fun q hq => by cases hq; exact h⟩
  | 2 =>
    obtain ⟨c, i, h⟩ := u_known (C := RX2) (T := TX2) (N := 18) hts inX2 (hts _ in0_X2)
    exact ⟨c, i, fun q hq => by cases hq; exact h⟩
  | 3 =>
    obtain ⟨c, i, h⟩ := u_known (C := RX3) (T := TX3) (N := 3) hts inX3 (hts _ in0_X3)
    exact ⟨c, i, fun q hq => by cases hq; exact h⟩
  | 4 =>
    obtain ⟨c, i, h⟩ := u_known (C := RX4) (T := TX4) (N := 8) hts inX4 (hts _ in0_X4)
    exact ⟨c, i, fun q hq => by cases hq; exact h⟩
  | 5 =>
    obtain ⟨c, i, h⟩ := u_known (C := RX5) (T := TX5) (N := 17) hts inX5 (hts _ in0_X5)
    exact ⟨c, i, fun q hq => by cases hq; exact h⟩
  | 6 =>
    obtain ⟨c, i, h⟩ := u_known (C := RX6) (T := TX6) (N := 10) hts inX6 (hts _ in0_X6)
    exact ⟨c, i, fun q hq => by cases hq; exact h⟩
  | 7 =>
    obtain ⟨c, i, h⟩ := u_known (C := RX7) (T := TX7) (N := 10) hts inX7 (hts _ in0_X7)
    exact ⟨c, i, fun q hq => by cases hq; exact h⟩
  | 8 =>
    obtain ⟨c, i, h⟩ := u_known (C := RX8) (T := TX8) (N := 11) hts inX8 (hts _ in0_X8)
    exact ⟨c, i, fun q hq => by cases hq; exact h⟩
  | 9 =>
    obtain ⟨c, i, h⟩ := u_known (C := RX9) (T := TX9) (N := 6) hts inX9 (hts _ in0_X9)
    exact ⟨c, i, fun q hq => by cases hq; exact h⟩
  | 10 =>
    obtain ⟨c, i, h⟩ := u_known (C := RX10) (T := TX10) (N := 10) hts inX10 (hts _ in0_X10)
    exact ⟨c, i, fun q hq => by cases hq; exact h⟩
  | 11 =>
    obtain ⟨c, i, h⟩ := u_known (C := RX11) (T := TX11) (N := 16) hts inX11 (hts _ in0_X11)
    exact ⟨c, i, fun q hq => by cases hq; exact h⟩
  | 12 =>
    obtain ⟨c, i, h⟩ := u_known (C := RX12) (T := TX12) (N := 82) hts inX12 (hts _ in0_X12)
    exact ⟨c, i, fun q hq => by cases hq; exact h⟩
  | k + 13 => exact ⟨0, fun _ => 0, fun q hq => by simp [vwCl] at hq⟩
theorem law_arr {s : State} {args : Array Value} (hts : ∀ w ∈ lw_tbl, w.before args s = true) (t : Nat) : ∃ c : ClassId, t < 5 → ArrOfT s c (aty t) ∧ va_RA s c (aty t) := by
  have prim : ∀ ty : FieldType, Cond.arrayClass ty ∈ lw_tbl → ∃ c : ClassId, ArrOfT s c ty ∧ s.vm.findClass ("[" ++ ty.toString) = some c := by
    intro ty hm
    obtain ⟨c, k, comp, h1, h2, h3⟩ := Cond.arrayClass_spec (hts _ hm)
    exact ⟨c, fun n z => ⟨(fun k h => by cases h), k, h2, comp, h3⟩, h1⟩
  match t with
  | 0 =>
    obtain ⟨c, h1, h2⟩ := prim (aty 0) (List.mem_filter.mp ac_0).1
    exact ⟨c, fun _ => ⟨h1, h2⟩⟩
  | 1 =>
    obtain ⟨c, h1, h2⟩ := prim (aty 1) (List.mem_filter.mp ac_1).1
    exact ⟨c, fun _ => ⟨h1, h2⟩⟩
  | 2 =>
    obtain ⟨c, h1, h2⟩ := prim (aty 2) (List.mem_filter.mp ac_2).1
    exact ⟨c, fun _ => ⟨h1, h2⟩⟩
  | 3 =>
    obtain ⟨c, h1, h2⟩ := prim (aty 3) (List.mem_filter.mp ac_3).1
    exact ⟨c, fun _ => ⟨h1, h2⟩⟩
  | 4 =>
    obtain ⟨comp, c, k, h1, -, h2, h3, h4⟩ := Cond.arrayOver_spec (hts _ ao_Stock)
    exact ⟨c, fun _ => ⟨fun n z => ⟨(fun k h => by cases h), k, h2, comp, h3⟩, k, comp, h2, h3, h1, h4⟩⟩
  | t + 5 => exact ⟨0, fun h => by omega⟩
theorem law_K {s : State} {args : Array Value} (hts : ∀ w ∈ lw_tbl, w.before args s = true) : ∃ (dC : Nat → ClassId) (dI : Nat → Nat → Nat) (ca : Nat → ClassId), va_K (dC, dI) vwCl (gT ca) s := by
  refine ⟨fun k => (law_ex hts k).choose, fun k => (law_ex hts k).choose_spec.choose, fun t => (law_arr hts t).choose, fun k q hq => (law_ex hts k).choose_spec.choose_spec q hq, fun k q hk => ?_⟩
  have hlt : k < 5 := (List.getElem?_eq_some_iff.mp hk).1
  rw [gT_at _ hlt] at hk
  cases hk
  exact (law_arr hts k).choose_spec hlt
theorem law_ls (b : Nat) (ρ : Nat → Nat) (hρ : ρ 1000003 = b) : lv_has ((lg_sl [Value.ref b] ++ List.replicate (7 - (lg_sl [Value.ref b]).length) Slot.unset).toArray) mL_law.2.2.1 (lk ρ 0 [aP 1000003, aU, aU, aU, aU, aU, aU]) := by
  have hl := lv_entry ([.ref b]) (n := 7) (Nat.le_of_ble_eq_true rfl)
  refine lv_has_mono hl (fun q hq => ?_)
  simp only [lk, cR, Option.map_some, va_rf, hρ, List.mem_cons, List.not_mem_nil, or_false] at hq
  subst hq
  exact List.mem_cons_self
theorem i32_script (xs : Nat → Int32) : (fun j => Int32.ofInt ((fun j => (xs j).toInt) j)) = xs := by
  funext j
  exact Int32.ofInt_toInt _
set_option maxHeartbeats 4000000 in
/-- the claim's walk out of the walk over the abstract layer -/
theorem whole_of {p : Program} {e : Env} {s : State} {m : MethodId} {below : List Frame} {meth : Method} {c : Code} (l : Launch) {b L : Nat} {xs : Nat → Int32} (hL : L ≤ 3072) (C0 : lw_At p s m meth c b L xs) (hnm : meth.name = "law")
    (hG : ∀ h : HI, (∀ a q, 0 ≤ a → a < 1000000 → h a q = 0) → h 1000004 0 ≤ 3072 → 0 ≤ h 1000004 0 → (∀ j : Int, 0 ≤ j → j < h 1000004 0 → rg (h 1000003 j)) → G l 1900 601024 7293034 mL_law (zt 0) 0 [aP 1000003, aU, aU, aU, aU, aU, aU] [] h (fun v _ _ => v = some (aI 1))) :
    W p l e room_1 s m #[Value.ref b] below meth c s.heap [] 0 0 (lw_Z below #[Value.ref b] s) (entryFrame m ([Value.ref b] : List Value).toArray 7) := by
  obtain ⟨hx, hb, hr, hml, hown, hts, hX, hbl, hlocks, hgv⟩ := id C0
  obtain ⟨a0, i0⟩ := law_static hts hgv 0 (by decide)
  obtain ⟨a1, i1⟩ := law_static hts hgv 1 (by decide)
  obtain ⟨a2, i2⟩ := law_static hts hgv 2 (by decide)
  obtain ⟨dC, dI, ca, hK⟩ := law_K hts
  have hA : ∀ q : Nat, s.heap.size ≤ q → (fun q : Nat => s.heap.size ≤ q) q := fun _ h => h
  obtain ⟨E, hE⟩ : ∃ E : GE, E = ((dC, dI), ca, s.heap.size, b, L, (fun j => (xs j).toInt), fun t => if t = 0 then a0 else if t = 1 then a1 else a2) := ⟨_, rfl⟩
  have hS0 : gS0 E s := by
    subst hE
    refine ⟨hK, ?_, hbl, rfl, hts, hgv, ?_⟩
    · show va_X b L (fun j => Int32.ofInt ((fun j => (xs j).toInt) j)) s s.heap
      rw [i32_script]
      exact hX
    · intro t ht
      match t, ht with
      | 0, _ => exact ⟨i0.2.1, i0.2.2.1, i0.2.2.2, i0.1⟩
      | 1, _ => exact ⟨i1.2.1, i1.2.2.1, i1.2.2.2, i1.1⟩
      | 2, _ => exact ⟨i2.2.1, i2.2.2.1, i2.2.2.2, i2.1⟩
  have hS : gS E s s.heap := ⟨hS0.1, Nat.le_of_eq hS0.2.2.2.1.symm, s, hS0, State.WarmedH.refl s, fun _ _ => rfl⟩
  obtain ⟨h, hh⟩ : ∃ h : HI, h = fun a q => if a = 1000004 then (L : Int) else if a = 1000003 then (xs q.toNat).toInt else 0 := ⟨_, rfl⟩
  have hR : gR E (fun k => if k = 1000003 then b else if k = 1000000 then a0 else if k = 1000001 then a1 else a2) h (zt 0) s.heap := by
    refine ⟨fun k q hk => ?_, ⟨fun i j p q hi hj => ?_, fun k q hk => ?_⟩, by rw [zn_zt_0]; decide, ?_, ?_, ?_, ?_⟩
    · simp [gW, zn_zt_0] at hk
    · simp [gW, zn_zt_0] at hi
    · simp [gW, zn_zt_0] at hk
    · subst hE
      intro t ht
      match t, ht with
      | 0, _ => rfl
      | 1, _ => rfl
      | 2, _ => rfl
    · subst hE; rfl
    · subst hE; subst hh; rfl
    · subst hE; subst hh
      intro j hj
      simp
  have k := hG h (by intro a q _ h2; subst hh; simp <;> omega) (by subst hh; simp <;> omega) (by subst hh; simp <;> omega) (by
    intro j _ _
    subst hh
    show rg (xs j.toNat).toInt
    exact ⟨Int32.le_toInt _, by have := Int32.toInt_lt (xs j.toNat); omega⟩) p e s m #[Value.ref b] below meth c s.heap [] 0 0 E _ _ ⟨hx, hb, hr, hml, hown, fun w hw => hts w (List.mem_filter.mp hw).1, hlocks, hnm⟩ hS hR va_S.rf (law_ls b _ rfl)
  rw [lg_entry_eq]
  refine W_room (R' := gRm 1900 (0 + 601024) (0 + 7293034)) (by decide) (by decide) (by decide) (by decide) ?_
  refine W.postm (fun t ht => ?_) k
  obtain ⟨o, b1, b2, ⟨⟨v, h', z', ρ', c1, c2, c3, c4, c5⟩, c6⟩, L0, c7, c8⟩ := ht
  subst c2
  refine ⟨o, b1, b2, c1, c7.1, c7.2.1, ?_⟩
  refine c7.2.2.weaken (fun y hy hlt => ?_) (Nat.le_refl _) (Nat.le_refl _)
  have := c8 y hy
  rw [hE] at this
  exact absurd hlt (Nat.not_lt.mpr this)
