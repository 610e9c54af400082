theorem law_wa : ∀ t, t < 3 → Cond.arrayOf (.static "DeadPacks" (lawN t) "[I") .int ∈ flatC (Jvm.Cond.and given_1 narrow_1) := by decide +kernel
theorem law_wl : ∀ t, t < 3 → Cond.eq (.length (.static "DeadPacks" (lawN t) "[I")) (.int 9) ∈ flatC (Jvm.Cond.and given_1 narrow_1) := by decide +kernel
theorem law_we : ∀ t, t < 3 → ∀ j, j < 9 → Cond.eq (.elem (.static "DeadPacks" (lawN t) "[I") (.int (Int32.ofNat j))) (.int (Int32.ofInt (lawv t j))) ∈ flatC (Jvm.Cond.and given_1 narrow_1) := by decide +kernel
set_option maxRecDepth 20000 in
theorem law_ws0 : Cond.laysStatic "DeadPacks" (lawN 0) "[I" ∈ lw_tbl := List.mem_of_getElem? (i := 842) rfl
set_option maxRecDepth 20000 in
theorem law_ws1 : Cond.laysStatic "DeadPacks" (lawN 1) "[I" ∈ lw_tbl := List.mem_of_getElem? (i := 844) rfl
set_option maxRecDepth 20000 in
theorem law_ws2 : Cond.laysStatic "DeadPacks" (lawN 2) "[I" ∈ lw_tbl := List.mem_of_getElem? (i := 213) rfl
theorem law_ws : ∀ t, t < 3 → Cond.laysStatic "DeadPacks" (lawN t) "[I" ∈ lw_tbl := by
  intro t ht
  have h3 : t = 0 ∨ t = 1 ∨ t = 2 := by omega
  rcases h3 with rfl | rfl | rfl
  · exact law_ws0
  · exact law_ws1
  · exact law_ws2
set_option maxRecDepth 20000 in
theorem law_ini : Cond.initialized "DeadPacks" ∈ lw_tbl := List.mem_of_getElem? (i := 119) rfl
theorem len_small {args : Array Value} {s : State} {tm : Term} {v : Value} (hv : (Term.length tm).eval args s none [] s = some v) {a : Addr} {cell : Cell} (ht : tm.eval args s none [] s = some (.ref a)) (hat : s.arrayAt? a = some cell) : cell.slots.size < 2 ^ 31 := by
  simp only [Term.eval, ht, hat, Option.bind_eq_bind, Option.bind_some] at hv
  by_cases hlt : cell.slots.size < 2147483648
  · exact hlt
  · simp [hlt] at hv
theorem law_static {s : State} {b : Nat} (hts : ∀ w ∈ lw_tbl, w.before #[Value.ref b] s = true) (hgv : (Jvm.Cond.and given_1 narrow_1).before #[Value.ref b] s = true) (t : Nat) (ht : t < 3) :
    ∃ a : Nat, a < s.heap.size ∧ va_Z "DeadPacks" (lawN t) "[I" (.ref a) (fun q => s.heap.size ≤ q) s s.heap ∧ va_T .int a 9 (fun j => .int (Int32.ofInt (lawv t j))) (fun q => s.heap.size ≤ q) s s.heap ∧ va_X a 9 (fun j => Int32.ofInt (lawv t j)) s s.heap := by
  have hs := flat_of_before _ hgv
  have hlen := va_eqt (hs _ (law_wl t ht))
  have hA : ∀ a : Nat, a < s.heap.size → ¬ (s.heap.size ≤ a) := fun a h => Nat.not_le.mpr h
  obtain ⟨a, hev, hT⟩ := va_Tof (N := 9) (A := fun q => s.heap.size ≤ q) (f := fun j => .int (Int32.ofInt (lawv t j))) (by decide) (hs _ (law_wa t ht)) hlen (fun j hj => va_eqt (hs _ (law_we t ht j hj))) hA
  have hlay := hts _ (law_ws t ht)
  have hZ := va_Zref hlay (hts _ law_ini) hev hA
  obtain ⟨cell, h1, h2, h3, h4, h5, h6, h7⟩ := id hT
  refine ⟨a, (Array.getElem?_eq_some_iff.mp h1).1, hZ, hT, cell, h1, h2, h3, ?_, fun j hj => h6 j hj⟩
  obtain ⟨a', cell', ht', hat', hv'⟩ := Term.length_spec hlen
  have hsz := len_small hlen ht' hat'
  cases hev.symm.trans ht'
  obtain ⟨hc', -, -, -⟩ := State.arrayAt?_spec hat'
  cases h1.symm.trans hc'
  exact (nI_eq hsz (by decide)).mp h5
theorem room_le {s : State} {pl : Platform} {r r' : Room} (h : s.hasRoom pl r = true) (h1 : r'.frames ≤ r.frames) (h2 : r'.locals ≤ r.locals) (h3 : r'.cells ≤ r.cells) (h4 : r'.slots ≤ r.slots) : s.hasRoom pl r' = true := by
  simp only [State.hasRoom, Bool.and_eq_true, decide_eq_true_eq] at h ⊢
  obtain ⟨⟨⟨⟨a1, a2, a3, a4, a5, a6⟩, a7⟩, a8⟩, a9⟩ := h
  exact ⟨⟨⟨⟨by omega, by omega, by omega, by omega, by omega, a6⟩, by omega⟩, by omega⟩, a9⟩
theorem W_room {p : Program} {l : Launch} {e : Env} {R R' : Room} {s : State} {m : MethodId} {args : Array Value} {below : List Frame} {meth : Method} {c : Code} {H : Heap} {locs : List Loc} {cells slots : Nat} {Q : State → Prop} {g : JFrame} (h1 : R'.frames ≤ R.frames) (h2 : R'.locals ≤ R.locals) (h3 : R'.cells ≤ R.cells) (h4 : R'.slots ≤ R.slots) (k : W p l e R' s m args below meth c H locs cells slots Q g) : W p l e R s m args below meth c H locs cells slots Q g :=
  fun T hT X => k T hT { X with room := room_le X.room h1 h2 h3 h4 }
def R_law : String := "DeadPacksLaw"
def lw_P (b : Addr) (xs : List Int32) (args : Array Value) (s : State) : Prop := args = #[.ref b] ∧ s.IntsAt b xs ∧ xs.length ≤ 3072 ∧ (Jvm.Cond.and given_1 narrow_1).before args s = true
def lw_Q (_ : Array Value) (s : State) (o : Outcome) (t : State) : Prop := o = .returned (some (.int 1)) ∧ Framed s o t [] 601024 7293034
def lw_Z (below : List Frame) (a : Array Value) (s : State) : State → Prop := fun t => ∃ o, t.status = .running ∧ Ended t below o ∧ lw_Q a s o t
/-- the law's own end, with 1 on the stack, nothing written that was there before, its room as the claim has it -/
theorem lw_ret {p : Program} {l : Launch} {e : Env} {s : State} {m : MethodId} {below : List Frame} {meth : Method} {c : Code} {b : Nat} (hx : p.tables.exec = Jvm.exec) (hb : c.code = code) (hr : meth.sig.returnType = ret) (hlocks : meth.locks = false) {pc : Nat} {H : Heap} {ls : Array Slot} (hdg : decode code pc = .ok (.ireturn, 1)) : W p l e room_1 s m #[Value.ref b] below meth c H [] 601024 7293034 (lw_Z below #[Value.ref b] s) (F0 m pc ls [.int 1]) := by
  intro T hT X
  obtain ⟨fs, hret, hrun, hended, hW, hframe⟩ := X.leave (v := some (.int 1)) (hlocks := hlocks) (fun h => by rw [hr] at h; cases h)
  have hmeth' : T.vm.method? m = some meth := X.method'
  refine ⟨T.setFrames fs, ?_, .returned (some (.int 1)), hrun, hended, rfl, ⟨_, rfl⟩, hW, hframe⟩
  jvm_step X.here [X.here.top, hx, hb, hdg, hmeth', hr, ret, narrow_b1]
  (try refine ⟨rfl, ?_⟩); (try refine ⟨rfl, ?_⟩)
  first | (intro acts; rw [hret _ acts rfl rfl rfl]) | rw [hret _ _ rfl rfl rfl]
  exact Steps.refl _
/-- what holds at the law's entry: the machine, the code, the tables' words (any of lw_tbl by 'hts w (by decide +kernel)'), the script of L ints xs at the cell b, what the Statement gives of the start (any of its parts by flat_of_before) -/
def lw_At (p : Program) (s : State) (m : MethodId) (meth : Method) (c : Code) (b L : Nat) (xs : Nat → Int32) : Prop :=
  p.tables.exec = Jvm.exec ∧ c.code = code ∧ meth.sig.returnType = ret ∧ c.maxLocals = 7 ∧ s.vm.findClass R_law = some m.cls ∧ (∀ w ∈ lw_tbl, w.before #[Value.ref b] s = true) ∧ va_X b L xs s s.heap ∧ b < s.heap.size ∧ meth.locks = false ∧ (Jvm.Cond.and given_1 narrow_1).before #[Value.ref b] s = true

