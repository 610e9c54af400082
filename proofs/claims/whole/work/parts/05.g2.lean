theorem i64_0 : (0 : Int64) = Int64.ofInt 0 := rfl
theorem rl_0 : rl 0 := ⟨by decide, by decide⟩
theorem i64_eq {x y : Int} (hx : rl x) (hy : rl y) : Int64.ofInt x = Int64.ofInt y ↔ x = y := by
  rw [← Int64.toInt_inj, i64_toInt hx, i64_toInt hy]
theorem i32_div {x y : Int} (hx : rg x) (hy : rg y) : Int32.ofInt x / Int32.ofInt y = Int32.ofInt (x.tdiv y) := by
  rw [← Int32.toInt_inj, Int32.toInt_div, i32_toInt hx, i32_toInt hy, Int32.toInt_ofInt]
theorem i64_div {x y : Int} (hx : rl x) (hy : rl y) : Int64.ofInt x / Int64.ofInt y = Int64.ofInt (x.tdiv y) := by
  rw [← Int64.toInt_inj, Int64.toInt_div, i64_toInt hx, i64_toInt hy, Int64.toInt_ofInt]
theorem i_tmod (x y : Int) : x - x.tdiv y * y = x.tmod y := by
  have := Int.mul_tdiv_add_tmod x y
  rw [Int.mul_comm] at this
  omega
theorem i32_i64 {x : Int} (h : rg x) : (Int32.ofInt x).toInt64 = Int64.ofInt x := by
  rw [← Int64.toInt_inj, Int32.toInt_toInt64, i32_toInt h, i64_toInt ⟨by have := h.1; omega, by have := h.2; omega⟩]
theorem i64_i32 {x : Int} (h : rl x) : (Int64.ofInt x).toInt32 = Int32.ofInt x := by
  rw [← Int32.toInt_inj, Int64.toInt_toInt32, i64_toInt h, Int32.toInt_ofInt]
theorem i64_cmp {x y : Int} (hx : rl x) (hy : rl y) : lg_cmp (Int64.ofInt x) (Int64.ofInt y) = Int32.ofInt (lcm3 x y) := by
  unfold lg_cmp lcm3
  have e1 : (Int64.ofInt x > Int64.ofInt y) ↔ y < x := by
    rw [gt_iff_lt, Int64.lt_iff_toInt_lt, i64_toInt hx, i64_toInt hy]
  have e2 := i64_eq hx hy
  by_cases h1 : y < x
  · rw [if_pos (e1.mpr h1), if_pos h1]; rfl
  · rw [if_neg (fun q => h1 (e1.mp q)), if_neg h1]
    by_cases h2 : x = y
    · rw [if_pos (e2.mpr h2), if_pos h2]; rfl
    · rw [if_neg (fun q => h2 (e2.mp q)), if_neg h2]; rfl
section GRows
variable {l : Launch} {d mc ms : Nat} {i : MT} {z : ZR} {pc : Nat} {ls st : List AV} {h : HI} {Q : Option AV → HI → ZR → Prop}
theorem g_iload_n {q : Fin 4} {x : Int} (hd : decode i.2.1 pc = .ok (.iload_n q, 1)) (hv : ls[(q : Nat)]? = some (aI x)) (k : G l d mc ms i z (pc + 1) ls (aI x :: st) h Q) : G l d mc ms i z (pc) ls (st) h Q := by
  intro p e s m args below meth c H locs cells slots E ρ lsA hC hS0 hR hS hl
  obtain ⟨hx, hb, hr, hml, hown, hts, hlk, hnm⟩ := id hC
  exact lv_iload_n hx hb hd rfl (lk_at hl hv (by intro q; cases q)) (k p e s m args below meth c H locs cells slots E ρ lsA hC hS0 hR hS hl)
theorem g_iload {q : Nat} {x : Int} (hd : decode i.2.1 pc = .ok (.iload q, 2)) (hv : ls[q]? = some (aI x)) (k : G l d mc ms i z (pc + 2) ls (aI x :: st) h Q) : G l d mc ms i z (pc) ls (st) h Q := by
  intro p e s m args below meth c H locs cells slots E ρ lsA hC hS0 hR hS hl
  obtain ⟨hx, hb, hr, hml, hown, hts, hlk, hnm⟩ := id hC
  exact lv_iload hx hb hd (lk_at hl hv (by intro q; cases q)) (k p e s m args below meth c H locs cells slots E ρ lsA hC hS0 hR hS hl)
theorem g_lload_n {q : Fin 4} {x : Int} (hd : decode i.2.1 pc = .ok (.lload_n q, 1)) (hv : ls[(q : Nat)]? = some (aL x)) (k : G l d mc ms i z (pc + 1) ls (aL x :: st) h Q) : G l d mc ms i z (pc) ls (st) h Q := by
  intro p e s m args below meth c H locs cells slots E ρ lsA hC hS0 hR hS hl
  obtain ⟨hx, hb, hr, hml, hown, hts, hlk, hnm⟩ := id hC
  exact lv_lload_n hx hb hd rfl (lk_at hl hv (by intro q; cases q)) (k p e s m args below meth c H locs cells slots E ρ lsA hC hS0 hR hS hl)
theorem g_lload {q : Nat} {x : Int} (hd : decode i.2.1 pc = .ok (.lload q, 2)) (hv : ls[q]? = some (aL x)) (k : G l d mc ms i z (pc + 2) ls (aL x :: st) h Q) : G l d mc ms i z (pc) ls (st) h Q := by
  intro p e s m args below meth c H locs cells slots E ρ lsA hC hS0 hR hS hl
  obtain ⟨hx, hb, hr, hml, hown, hts, hlk, hnm⟩ := id hC
  exact lv_lload hx hb hd (lk_at hl hv (by intro q; cases q)) (k p e s m args below meth c H locs cells slots E ρ lsA hC hS0 hR hS hl)
theorem g_aload_n {q : Fin 4} {a : Nat} (hd : decode i.2.1 pc = .ok (.aload_n q, 1)) (hv : ls[(q : Nat)]? = some (aP a)) (k : G l d mc ms i z (pc + 1) ls (aP a :: st) h Q) : G l d mc ms i z (pc) ls (st) h Q := by
  intro p e s m args below meth c H locs cells slots E ρ lsA hC hS0 hR hS hl
  obtain ⟨hx, hb, hr, hml, hown, hts, hlk, hnm⟩ := id hC
  exact lv_aload_n hx hb hd rfl (lk_at hl hv (by intro q; cases q)) (k p e s m args below meth c H locs cells slots E ρ lsA hC hS0 hR hS hl)
theorem g_aload {q : Nat} {a : Nat} (hd : decode i.2.1 pc = .ok (.aload q, 2)) (hv : ls[q]? = some (aP a)) (k : G l d mc ms i z (pc + 2) ls (aP a :: st) h Q) : G l d mc ms i z (pc) ls (st) h Q := by
  intro p e s m args below meth c H locs cells slots E ρ lsA hC hS0 hR hS hl
  obtain ⟨hx, hb, hr, hml, hown, hts, hlk, hnm⟩ := id hC
  exact lv_aload hx hb hd (lk_at hl hv (by intro q; cases q)) (k p e s m args below meth c H locs cells slots E ρ lsA hC hS0 hR hS hl)
theorem g_istore_n {q : Fin 4} {x : Int} {ls' : List AV} (hd : decode i.2.1 pc = .ok (.istore_n q, 1)) (hn : (q : Nat) < i.2.2.1) (hok : lnok ls (q : Nat) = true) (hs : ls.set (q : Nat) (aI x) = ls') (k : G l d mc ms i z (pc + 1) ls' (st) h Q) : G l d mc ms i z (pc) ls (aI x :: st) h Q := by
  intro p e s m args below meth c H locs cells slots E ρ lsA hC hS0 hR hS hl
  obtain ⟨hx, hb, hr, hml, hown, hts, hlk, hnm⟩ := id hC
  refine lv_istore_n hx hb hd rfl hl hn rfl (fun lsB hlB => ?_)
  subst hs
  exact k p e s m args below meth c H locs cells slots E ρ lsB hC hS0 hR hS (lv_has_mono hlB (lk_set hok))
theorem g_istore {q : Nat} {x : Int} {ls' : List AV} (hd : decode i.2.1 pc = .ok (.istore q, 2)) (hn : q < i.2.2.1) (hok : lnok ls q = true) (hs : ls.set q (aI x) = ls') (k : G l d mc ms i z (pc + 2) ls' (st) h Q) : G l d mc ms i z (pc) ls (aI x :: st) h Q := by
  intro p e s m args below meth c H locs cells slots E ρ lsA hC hS0 hR hS hl
  obtain ⟨hx, hb, hr, hml, hown, hts, hlk, hnm⟩ := id hC
  refine lv_istore hx hb hd hl hn rfl (fun lsB hlB => ?_)
  subst hs
  exact k p e s m args below meth c H locs cells slots E ρ lsB hC hS0 hR hS (lv_has_mono hlB (lk_set hok))
theorem g_astore_n {q : Fin 4} {x : Nat} {ls' : List AV} (hd : decode i.2.1 pc = .ok (.astore_n q, 1)) (hn : (q : Nat) < i.2.2.1) (hok : lnok ls (q : Nat) = true) (hs : ls.set (q : Nat) (aP x) = ls') (k : G l d mc ms i z (pc + 1) ls' (st) h Q) : G l d mc ms i z (pc) ls (aP x :: st) h Q := by
  intro p e s m args below meth c H locs cells slots E ρ lsA hC hS0 hR hS hl
  obtain ⟨hx, hb, hr, hml, hown, hts, hlk, hnm⟩ := id hC
  refine lv_astore_n hx hb hd rfl hl hn rfl (fun lsB hlB => ?_)
  subst hs
  exact k p e s m args below meth c H locs cells slots E ρ lsB hC hS0 hR hS (lv_has_mono hlB (lk_set hok))
theorem g_astore {q : Nat} {x : Nat} {ls' : List AV} (hd : decode i.2.1 pc = .ok (.astore q, 2)) (hn : q < i.2.2.1) (hok : lnok ls q = true) (hs : ls.set q (aP x) = ls') (k : G l d mc ms i z (pc + 2) ls' (st) h Q) : G l d mc ms i z (pc) ls (aP x :: st) h Q := by
  intro p e s m args below meth c H locs cells slots E ρ lsA hC hS0 hR hS hl
  obtain ⟨hx, hb, hr, hml, hown, hts, hlk, hnm⟩ := id hC
  refine lv_astore hx hb hd hl hn rfl (fun lsB hlB => ?_)
  subst hs
  exact k p e s m args below meth c H locs cells slots E ρ lsB hC hS0 hR hS (lv_has_mono hlB (lk_set hok))
theorem g_lstore_n {q : Fin 4} {x : Int} {ls' : List AV} (hd : decode i.2.1 pc = .ok (.lstore_n q, 1)) (hn : (q : Nat) + 1 < i.2.2.1) (hok : lnok ls (q : Nat) = true) (hs : (ls.set (q : Nat) (aL x)).set ((q : Nat) + 1) aU = ls') (k : G l d mc ms i z (pc + 1) ls' (st) h Q) : G l d mc ms i z (pc) ls (aL x :: st) h Q := by
  intro p e s m args below meth c H locs cells slots E ρ lsA hC hS0 hR hS hl
  obtain ⟨hx, hb, hr, hml, hown, hts, hlk, hnm⟩ := id hC
  refine lv_lstore_n hx hb hd rfl hl hn rfl (fun lsB hlB => ?_)
  subst hs
  exact k p e s m args below meth c H locs cells slots E ρ lsB hC hS0 hR hS (lv_has_mono hlB (lk_set2 hok))
theorem g_lstore {q : Nat} {x : Int} {ls' : List AV} (hd : decode i.2.1 pc = .ok (.lstore q, 2)) (hn : q + 1 < i.2.2.1) (hok : lnok ls q = true) (hs : (ls.set q (aL x)).set (q + 1) aU = ls') (k : G l d mc ms i z (pc + 2) ls' (st) h Q) : G l d mc ms i z (pc) ls (aL x :: st) h Q := by
  intro p e s m args below meth c H locs cells slots E ρ lsA hC hS0 hR hS hl
  obtain ⟨hx, hb, hr, hml, hown, hts, hlk, hnm⟩ := id hC
  refine lv_lstore hx hb hd hl hn rfl (fun lsB hlB => ?_)
  subst hs
  exact k p e s m args below meth c H locs cells slots E ρ lsB hC hS0 hR hS (lv_has_mono hlB (lk_set2 hok))
theorem g_iinc {q : Nat} {n x : Int} {ls' : List AV} (hd : decode i.2.1 pc = .ok (.iinc q n, 3)) (hv : ls[q]? = some (aI x)) (hn : q < i.2.2.1) (hok : lnok ls q = true) (hs : ls.set q (aI (x + n)) = ls') (k : G l d mc ms i z (pc + 3) ls' (st) h Q) : G l d mc ms i z (pc) ls (st) h Q := by
  intro p e s m args below meth c H locs cells slots E ρ lsA hC hS0 hR hS hl
  obtain ⟨hx, hb, hr, hml, hown, hts, hlk, hnm⟩ := id hC
  obtain ⟨kk, hkk⟩ := List.getElem?_of_mem (lk_mem.mpr ⟨q, aI x, hv, (by intro q; cases q), rfl⟩ : ((0 + q, cV ρ (aI x)) ∈ lk ρ 0 ls))
  rw [Nat.zero_add] at hkk
  refine lv_iinc hx hb hd hl hkk (Int32.ofInt_add x n).symm hn rfl (fun lsB hlB => ?_)
  subst hs
  exact k p e s m args below meth c H locs cells slots E ρ lsB hC hS0 hR hS (lv_has_mono hlB (lk_set (v := aI (x + n)) hok))
theorem g_iconst {n : Int} (hd : decode i.2.1 pc = .ok (.iconst n, 1)) (k : G l d mc ms i z (pc + 1) ls (aI n :: st) h Q) : G l d mc ms i z (pc) ls (st) h Q := by
  intro p e s m args below meth c H locs cells slots E ρ lsA hC hS0 hR hS hl
  obtain ⟨hx, hb, hr, hml, hown, hts, hlk, hnm⟩ := id hC
  exact lv_iconst hx hb hd rfl (k p e s m args below meth c H locs cells slots E ρ lsA hC hS0 hR hS hl)
theorem g_bipush {n : Int} (hd : decode i.2.1 pc = .ok (.bipush n, 2)) (hn : (Int8.ofInt n).toInt32 = Int32.ofInt n) (k : G l d mc ms i z (pc + 2) ls (aI n :: st) h Q) : G l d mc ms i z (pc) ls (st) h Q := by
  intro p e s m args below meth c H locs cells slots E ρ lsA hC hS0 hR hS hl
  obtain ⟨hx, hb, hr, hml, hown, hts, hlk, hnm⟩ := id hC
  exact lv_bipush hx hb hd hn (k p e s m args below meth c H locs cells slots E ρ lsA hC hS0 hR hS hl)
theorem g_sipush {n : Int} (hd : decode i.2.1 pc = .ok (.sipush n, 3)) (hn : (Int16.ofInt n).toInt32 = Int32.ofInt n) (k : G l d mc ms i z (pc + 3) ls (aI n :: st) h Q) : G l d mc ms i z (pc) ls (st) h Q := by
  intro p e s m args below meth c H locs cells slots E ρ lsA hC hS0 hR hS hl
  obtain ⟨hx, hb, hr, hml, hown, hts, hlk, hnm⟩ := id hC
  exact lv_sipush hx hb hd hn (k p e s m args below meth c H locs cells slots E ρ lsA hC hS0 hR hS hl)
theorem g_lconst {n : Fin 2} {v : Int} (hd : decode i.2.1 pc = .ok (.lconst n, 1)) (hn : Int64.ofNat (n : Nat) = Int64.ofInt v) (k : G l d mc ms i z (pc + 1) ls (aL v :: st) h Q) : G l d mc ms i z (pc) ls (st) h Q := by
  intro p e s m args below meth c H locs cells slots E ρ lsA hC hS0 hR hS hl
  obtain ⟨hx, hb, hr, hml, hown, hts, hlk, hnm⟩ := id hC
  exact lv_lconst hx hb hd hn (k p e s m args below meth c H locs cells slots E ρ lsA hC hS0 hR hS hl)
theorem g_ldc {idx : Nat} {n : Int} {v : Int32} (hd : decode i.2.1 pc = .ok (.ldc idx, 2)) (hw : Cond.constant i.1.cls idx v ∈ TB) (hn : v = Int32.ofInt n) (k : G l d mc ms i z (pc + 2) ls (aI n :: st) h Q) : G l d mc ms i z (pc) ls (st) h Q := by
  intro p e s m args below meth c H locs cells slots E ρ lsA hC hS0 hR hS hl
  obtain ⟨hx, hb, hr, hml, hown, hts, hlk, hnm⟩ := id hC
  subst hn
  exact lv_ldc hx hb hown (hts _ hw) hd (k p e s m args below meth c H locs cells slots E ρ lsA hC hS0 hR hS hl)
theorem g_ldcw {idx : Nat} {n : Int} {v : Int32} (hd : decode i.2.1 pc = .ok (.ldc_w idx, 3)) (hw : Cond.constant i.1.cls idx v ∈ TB) (hn : v = Int32.ofInt n) (k : G l d mc ms i z (pc + 3) ls (aI n :: st) h Q) : G l d mc ms i z (pc) ls (st) h Q := by
  intro p e s m args below meth c H locs cells slots E ρ lsA hC hS0 hR hS hl
  obtain ⟨hx, hb, hr, hml, hown, hts, hlk, hnm⟩ := id hC
  subst hn
  exact lv_ldcw hx hb hown (hts _ hw) hd (k p e s m args below meth c H locs cells slots E ρ lsA hC hS0 hR hS hl)
theorem g_ldc2 {idx : Nat} {n : Int} {v : Int64} (hd : decode i.2.1 pc = .ok (.ldc2_w idx, 3)) (hw : Cond.constantLong i.1.cls idx v ∈ TB) (hn : v = Int64.ofInt n) (k : G l d mc ms i z (pc + 3) ls (aL n :: st) h Q) : G l d mc ms i z (pc) ls (st) h Q := by
  intro p e s m args below meth c H locs cells slots E ρ lsA hC hS0 hR hS hl
  obtain ⟨hx, hb, hr, hml, hown, hts, hlk, hnm⟩ := id hC
  subst hn
  exact lv_ldc2 hx hb hown (hts _ hw) hd (k p e s m args below meth c H locs cells slots E ρ lsA hC hS0 hR hS hl)
theorem g_iadd {x y : Int} (hd : decode i.2.1 pc = .ok (.iadd, 1)) (k : G l d mc ms i z (pc + 1) ls (aI (x + y) :: st) h Q) : G l d mc ms i z (pc) ls (aI y :: aI x :: st) h Q := by
  intro p e s m args below meth c H locs cells slots E ρ lsA hC hS0 hR hS hl
  obtain ⟨hx, hb, hr, hml, hown, hts, hlk, hnm⟩ := id hC
  refine lv_iadd hx hb hd ?_
  rw [← Int32.ofInt_add]
  exact k p e s m args below meth c H locs cells slots E ρ lsA hC hS0 hR hS hl
theorem g_isub {x y : Int} (hd : decode i.2.1 pc = .ok (.isub, 1)) (k : G l d mc ms i z (pc + 1) ls (aI (x - y) :: st) h Q) : G l d mc ms i z (pc) ls (aI y :: aI x :: st) h Q := by
  intro p e s m args below meth c H locs cells slots E ρ lsA hC hS0 hR hS hl
  obtain ⟨hx, hb, hr, hml, hown, hts, hlk, hnm⟩ := id hC
  refine lv_isub hx hb hd ?_
  rw [← Int32.ofInt_sub]
  exact k p e s m args below meth c H locs cells slots E ρ lsA hC hS0 hR hS hl
theorem g_imul {x y : Int} (hd : decode i.2.1 pc = .ok (.imul, 1)) (k : G l d mc ms i z (pc + 1) ls (aI (x * y) :: st) h Q) : G l d mc ms i z (pc) ls (aI y :: aI x :: st) h Q := by
  intro p e s m args below meth c H locs cells slots E ρ lsA hC hS0 hR hS hl
  obtain ⟨hx, hb, hr, hml, hown, hts, hlk, hnm⟩ := id hC
  refine lv_imul hx hb hd ?_
  rw [← Int32.ofInt_mul]
  exact k p e s m args below meth c H locs cells slots E ρ lsA hC hS0 hR hS hl
theorem g_ladd {x y : Int} (hd : decode i.2.1 pc = .ok (.ladd, 1)) (k : G l d mc ms i z (pc + 1) ls (aL (x + y) :: st) h Q) : G l d mc ms i z (pc) ls (aL y :: aL x :: st) h Q := by
  intro p e s m args below meth c H locs cells slots E ρ lsA hC hS0 hR hS hl
  obtain ⟨hx, hb, hr, hml, hown, hts, hlk, hnm⟩ := id hC
  refine lv_ladd hx hb hd ?_
  rw [← Int64.ofInt_add]
  exact k p e s m args below meth c H locs cells slots E ρ lsA hC hS0 hR hS hl
theorem g_lsub {x y : Int} (hd : decode i.2.1 pc = .ok (.lsub, 1)) (k : G l d mc ms i z (pc + 1) ls (aL (x - y) :: st) h Q) : G l d mc ms i z (pc) ls (aL y :: aL x :: st) h Q := by
  intro p e s m args below meth c H locs cells slots E ρ lsA hC hS0 hR hS hl
  obtain ⟨hx, hb, hr, hml, hown, hts, hlk, hnm⟩ := id hC
  refine lv_lsub hx hb hd ?_
  rw [← Int64.ofInt_sub]
  exact k p e s m args below meth c H locs cells slots E ρ lsA hC hS0 hR hS hl
theorem g_lmul {x y : Int} (hd : decode i.2.1 pc = .ok (.lmul, 1)) (k : G l d mc ms i z (pc + 1) ls (aL (x * y) :: st) h Q) : G l d mc ms i z (pc) ls (aL y :: aL x :: st) h Q := by
  intro p e s m args below meth c H locs cells slots E ρ lsA hC hS0 hR hS hl
  obtain ⟨hx, hb, hr, hml, hown, hts, hlk, hnm⟩ := id hC
  refine lv_lmul hx hb hd ?_
  rw [← Int64.ofInt_mul]
  exact k p e s m args below meth c H locs cells slots E ρ lsA hC hS0 hR hS hl
theorem g_ineg {x : Int} (hd : decode i.2.1 pc = .ok (.ineg, 1)) (k : G l d mc ms i z (pc + 1) ls (aI (-x) :: st) h Q) : G l d mc ms i z (pc) ls (aI x :: st) h Q := by
  intro p e s m args below meth c H locs cells slots E ρ lsA hC hS0 hR hS hl
  obtain ⟨hx, hb, hr, hml, hown, hts, hlk, hnm⟩ := id hC
  refine lv_ineg hx hb hd ?_
  rw [← Int32.ofInt_neg]
  exact k p e s m args below meth c H locs cells slots E ρ lsA hC hS0 hR hS hl
theorem g_iand {x y : Int} (hd : decode i.2.1 pc = .ok (.iand, 1)) (k : G l d mc ms i z (pc + 1) ls (aI (band x y) :: st) h Q) : G l d mc ms i z (pc) ls (aI y :: aI x :: st) h Q := by
  intro p e s m args below meth c H locs cells slots E ρ lsA hC hS0 hR hS hl
  obtain ⟨hx, hb, hr, hml, hown, hts, hlk, hnm⟩ := id hC
  refine lv_iand hx hb hd ?_
  have k2 := k p e s m args below meth c H locs cells slots E ρ lsA hC hS0 hR hS hl
  simp only [List.map_cons, cV, band, i32_back] at k2
  exact k2
theorem g_ior {x y : Int} (hd : decode i.2.1 pc = .ok (.ior, 1)) (k : G l d mc ms i z (pc + 1) ls (aI (bor x y) :: st) h Q) : G l d mc ms i z (pc) ls (aI y :: aI x :: st) h Q := by
  intro p e s m args below meth c H locs cells slots E ρ lsA hC hS0 hR hS hl
  obtain ⟨hx, hb, hr, hml, hown, hts, hlk, hnm⟩ := id hC
  refine lv_ior hx hb hd ?_
  have k2 := k p e s m args below meth c H locs cells slots E ρ lsA hC hS0 hR hS hl
  simp only [List.map_cons, cV, bor, i32_back] at k2
  exact k2
theorem g_ixor {x y : Int} (hd : decode i.2.1 pc = .ok (.ixor, 1)) (k : G l d mc ms i z (pc + 1) ls (aI (bxor x y) :: st) h Q) : G l d mc ms i z (pc) ls (aI y :: aI x :: st) h Q := by
  intro p e s m args below meth c H locs cells slots E ρ lsA hC hS0 hR hS hl
  obtain ⟨hx, hb, hr, hml, hown, hts, hlk, hnm⟩ := id hC
  refine lv_ixor hx hb hd ?_
  have k2 := k p e s m args below meth c H locs cells slots E ρ lsA hC hS0 hR hS hl
  simp only [List.map_cons, cV, bxor, i32_back] at k2
  exact k2
theorem g_ishl {x y : Int} (hd : decode i.2.1 pc = .ok (.ishl, 1)) (k : G l d mc ms i z (pc + 1) ls (aI (bshl x y) :: st) h Q) : G l d mc ms i z (pc) ls (aI y :: aI x :: st) h Q := by
  intro p e s m args below meth c H locs cells slots E ρ lsA hC hS0 hR hS hl
  obtain ⟨hx, hb, hr, hml, hown, hts, hlk, hnm⟩ := id hC
  refine lv_ishl hx hb hd ?_
  have k2 := k p e s m args below meth c H locs cells slots E ρ lsA hC hS0 hR hS hl
  simp only [List.map_cons, cV, bshl, i32_back] at k2
  exact k2
theorem g_ishr {x y : Int} (hd : decode i.2.1 pc = .ok (.ishr, 1)) (k : G l d mc ms i z (pc + 1) ls (aI (bshr x y) :: st) h Q) : G l d mc ms i z (pc) ls (aI y :: aI x :: st) h Q := by
  intro p e s m args below meth c H locs cells slots E ρ lsA hC hS0 hR hS hl
  obtain ⟨hx, hb, hr, hml, hown, hts, hlk, hnm⟩ := id hC
  refine lv_ishr hx hb hd ?_
  have k2 := k p e s m args below meth c H locs cells slots E ρ lsA hC hS0 hR hS hl
  simp only [List.map_cons, cV, bshr, i32_back] at k2
  exact k2
theorem g_land {x y : Int} (hd : decode i.2.1 pc = .ok (.land, 1)) (k : G l d mc ms i z (pc + 1) ls (aL (lband x y) :: st) h Q) : G l d mc ms i z (pc) ls (aL y :: aL x :: st) h Q := by
  intro p e s m args below meth c H locs cells slots E ρ lsA hC hS0 hR hS hl
  obtain ⟨hx, hb, hr, hml, hown, hts, hlk, hnm⟩ := id hC
  refine lv_land hx hb hd ?_
  have k2 := k p e s m args below meth c H locs cells slots E ρ lsA hC hS0 hR hS hl
  simp only [List.map_cons, cV, lband, i64_back] at k2
  exact k2
theorem g_lor {x y : Int} (hd : decode i.2.1 pc = .ok (.lor, 1)) (k : G l d mc ms i z (pc + 1) ls (aL (lbor x y) :: st) h Q) : G l d mc ms i z (pc) ls (aL y :: aL x :: st) h Q := by
  intro p e s m args below meth c H locs cells slots E ρ lsA hC hS0 hR hS hl
  obtain ⟨hx, hb, hr, hml, hown, hts, hlk, hnm⟩ := id hC
  refine lv_lor hx hb hd ?_
  have k2 := k p e s m args below meth c H locs cells slots E ρ lsA hC hS0 hR hS hl
  simp only [List.map_cons, cV, lbor, i64_back] at k2
  exact k2
theorem g_lshl {x y : Int} (hd : decode i.2.1 pc = .ok (.lshl, 1)) (k : G l d mc ms i z (pc + 1) ls (aL (lbshl x y) :: st) h Q) : G l d mc ms i z (pc) ls (aI y :: aL x :: st) h Q := by
  intro p e s m args below meth c H locs cells slots E ρ lsA hC hS0 hR hS hl
  obtain ⟨hx, hb, hr, hml, hown, hts, hlk, hnm⟩ := id hC
  refine lv_lshl hx hb hd rfl ?_
  have k2 := k p e s m args below meth c H locs cells slots E ρ lsA hC hS0 hR hS hl
  simp only [List.map_cons, cV, lbshl, i64_back] at k2
  exact k2
theorem g_lshr {x y : Int} (hd : decode i.2.1 pc = .ok (.lshr, 1)) (k : G l d mc ms i z (pc + 1) ls (aL (lbshr x y) :: st) h Q) : G l d mc ms i z (pc) ls (aI y :: aL x :: st) h Q := by
  intro p e s m args below meth c H locs cells slots E ρ lsA hC hS0 hR hS hl
  obtain ⟨hx, hb, hr, hml, hown, hts, hlk, hnm⟩ := id hC
  refine lv_lshr hx hb hd rfl ?_
  have k2 := k p e s m args below meth c H locs cells slots E ρ lsA hC hS0 hR hS hl
  simp only [List.map_cons, cV, lbshr, i64_back] at k2
  exact k2
theorem g_idiv {x y : Int} (hd : decode i.2.1 pc = .ok (.idiv, 1)) (h1 : rg x) (h2 : rg y) (h3 : y ≠ 0) (k : G l d mc ms i z (pc + 1) ls (aI (x.tdiv y) :: st) h Q) : G l d mc ms i z (pc) ls (aI y :: aI x :: st) h Q := by
  intro p e s m args below meth c H locs cells slots E ρ lsA hC hS0 hR hS hl
  obtain ⟨hx, hb, hr, hml, hown, hts, hlk, hnm⟩ := id hC
  refine lv_idiv hx hb hd (by rw [i32_0, i32_eq h2 rg_0]; exact h3) ?_
  rw [i32_div h1 h2]
  exact k p e s m args below meth c H locs cells slots E ρ lsA hC hS0 hR hS hl
theorem g_irem {x y : Int} (hd : decode i.2.1 pc = .ok (.irem, 1)) (h1 : rg x) (h2 : rg y) (h3 : y ≠ 0) (k : G l d mc ms i z (pc + 1) ls (aI (x.tmod y) :: st) h Q) : G l d mc ms i z (pc) ls (aI y :: aI x :: st) h Q := by
  intro p e s m args below meth c H locs cells slots E ρ lsA hC hS0 hR hS hl
  obtain ⟨hx, hb, hr, hml, hown, hts, hlk, hnm⟩ := id hC
  refine lv_irem hx hb hd (by rw [i32_0, i32_eq h2 rg_0]; exact h3) ?_
  rw [i32_div h1 h2, ← Int32.ofInt_mul, ← Int32.ofInt_sub, i_tmod]
  exact k p e s m args below meth c H locs cells slots E ρ lsA hC hS0 hR hS hl
theorem g_ldiv {x y : Int} (hd : decode i.2.1 pc = .ok (.ldiv, 1)) (h1 : rl x) (h2 : rl y) (h3 : y ≠ 0) (k : G l d mc ms i z (pc + 1) ls (aL (x.tdiv y) :: st) h Q) : G l d mc ms i z (pc) ls (aL y :: aL x :: st) h Q := by
  intro p e s m args below meth c H locs cells slots E ρ lsA hC hS0 hR hS hl
  obtain ⟨hx, hb, hr, hml, hown, hts, hlk, hnm⟩ := id hC
  refine lv_ldiv hx hb hd (by rw [i64_0, i64_eq h2 rl_0]; exact h3) ?_
  rw [i64_div h1 h2]
  exact k p e s m args below meth c H locs cells slots E ρ lsA hC hS0 hR hS hl
theorem g_i2l {x : Int} (hd : decode i.2.1 pc = .ok (.i2l, 1)) (h1 : rg x) (k : G l d mc ms i z (pc + 1) ls (aL x :: st) h Q) : G l d mc ms i z (pc) ls (aI x :: st) h Q := by
  intro p e s m args below meth c H locs cells slots E ρ lsA hC hS0 hR hS hl
  obtain ⟨hx, hb, hr, hml, hown, hts, hlk, hnm⟩ := id hC
  exact lv_i2l hx hb hd (i32_i64 h1) (k p e s m args below meth c H locs cells slots E ρ lsA hC hS0 hR hS hl)
theorem g_l2i {x : Int} (hd : decode i.2.1 pc = .ok (.l2i, 1)) (h1 : rl x) (k : G l d mc ms i z (pc + 1) ls (aI x :: st) h Q) : G l d mc ms i z (pc) ls (aL x :: st) h Q := by
  intro p e s m args below meth c H locs cells slots E ρ lsA hC hS0 hR hS hl
  obtain ⟨hx, hb, hr, hml, hown, hts, hlk, hnm⟩ := id hC
  exact lv_l2i hx hb hd (i64_i32 h1) (k p e s m args below meth c H locs cells slots E ρ lsA hC hS0 hR hS hl)
theorem g_i2b {x : Int} (hd : decode i.2.1 pc = .ok (.i2b, 1)) (k : G l d mc ms i z (pc + 1) ls (aI (b8 x) :: st) h Q) : G l d mc ms i z (pc) ls (aI x :: st) h Q := by
  intro p e s m args below meth c H locs cells slots E ρ lsA hC hS0 hR hS hl
  obtain ⟨hx, hb, hr, hml, hown, hts, hlk, hnm⟩ := id hC
  exact lv_i2b hx hb hd (i32_back _).symm (k p e s m args below meth c H locs cells slots E ρ lsA hC hS0 hR hS hl)
theorem g_lcmp {x y : Int} (hd : decode i.2.1 pc = .ok (.lcmp, 1)) (h1 : rl x) (h2 : rl y) (k : G l d mc ms i z (pc + 1) ls (aI (lcm3 x y) :: st) h Q) : G l d mc ms i z (pc) ls (aL y :: aL x :: st) h Q := by
  intro p e s m args below meth c H locs cells slots E ρ lsA hC hS0 hR hS hl
  obtain ⟨hx, hb, hr, hml, hown, hts, hlk, hnm⟩ := id hC
  refine W.lcmp hx hb hd ?_
  rw [i64_cmp h1 h2]
  exact k p e s m args below meth c H locs cells slots E ρ lsA hC hS0 hR hS hl
theorem g_if_eq {x off : Int} {tgt : Nat} (hd : decode i.2.1 pc = .ok (.ifCond .eq off, 3)) (ht : (pc : Int) + off = (tgt : Int)) (h1 : rg x) (k : if x = 0 then G l d mc ms i z (tgt) ls (st) h Q else G l d mc ms i z (pc + 3) ls (st) h Q) : G l d mc ms i z (pc) ls (aI x :: st) h Q := by
  intro p e s m args below meth c H locs cells slots E ρ lsA hC hS0 hR hS hl
  obtain ⟨hx, hb, hr, hml, hown, hts, hlk, hnm⟩ := id hC
  have hiff := i32_eq h1 rg_0
  rw [← i32_0] at hiff
  refine lv_if_eq hx hb hd ht (fun q => ?_) (fun q => ?_)
  · rw [if_pos (hiff.mp q)] at k; exact k p e s m args below meth c H locs cells slots E ρ lsA hC hS0 hR hS hl
  · rw [if_neg (fun z => q (hiff.mpr z))] at k; exact k p e s m args below meth c H locs cells slots E ρ lsA hC hS0 hR hS hl
theorem g_if_ne {x off : Int} {tgt : Nat} (hd : decode i.2.1 pc = .ok (.ifCond .ne off, 3)) (ht : (pc : Int) + off = (tgt : Int)) (h1 : rg x) (k : if ¬ x = 0 then G l d mc ms i z (tgt) ls (st) h Q else G l d mc ms i z (pc + 3) ls (st) h Q) : G l d mc ms i z (pc) ls (aI x :: st) h Q := by
  intro p e s m args below meth c H locs cells slots E ρ lsA hC hS0 hR hS hl
  obtain ⟨hx, hb, hr, hml, hown, hts, hlk, hnm⟩ := id hC
  have hiff := i32_eq h1 rg_0
  rw [← i32_0] at hiff
  refine lv_if_ne hx hb hd ht (fun q => ?_) (fun q => ?_)
  · rw [if_pos (fun z => q (hiff.mpr z))] at k; exact k p e s m args below meth c H locs cells slots E ρ lsA hC hS0 hR hS hl
  · rw [if_neg (fun z => z (hiff.mp q))] at k; exact k p e s m args below meth c H locs cells slots E ρ lsA hC hS0 hR hS hl
theorem g_if_lt {x off : Int} {tgt : Nat} (hd : decode i.2.1 pc = .ok (.ifCond .lt off, 3)) (ht : (pc : Int) + off = (tgt : Int)) (h1 : rg x) (k : if x < 0 then G l d mc ms i z (tgt) ls (st) h Q else G l d mc ms i z (pc + 3) ls (st) h Q) : G l d mc ms i z (pc) ls (aI x :: st) h Q := by
  intro p e s m args below meth c H locs cells slots E ρ lsA hC hS0 hR hS hl
  obtain ⟨hx, hb, hr, hml, hown, hts, hlk, hnm⟩ := id hC
  have hiff := i32_lt h1 rg_0
  rw [← i32_0] at hiff
  refine lv_if_lt hx hb hd ht (fun q => ?_) (fun q => ?_)
  · rw [if_pos (hiff.mp q)] at k; exact k p e s m args below meth c H locs cells slots E ρ lsA hC hS0 hR hS hl
  · rw [if_neg (fun z => q (hiff.mpr z))] at k; exact k p e s m args below meth c H locs cells slots E ρ lsA hC hS0 hR hS hl
theorem g_if_ge {x off : Int} {tgt : Nat} (hd : decode i.2.1 pc = .ok (.ifCond .ge off, 3)) (ht : (pc : Int) + off = (tgt : Int)) (h1 : rg x) (k : if 0 ≤ x then G l d mc ms i z (tgt) ls (st) h Q else G l d mc ms i z (pc + 3) ls (st) h Q) : G l d mc ms i z (pc) ls (aI x :: st) h Q := by
  intro p e s m args below meth c H locs cells slots E ρ lsA hC hS0 hR hS hl
  obtain ⟨hx, hb, hr, hml, hown, hts, hlk, hnm⟩ := id hC
  have hiff := i32_le rg_0 h1
  rw [← i32_0] at hiff
  refine lv_if_ge hx hb hd ht (fun q => ?_) (fun q => ?_)
  · rw [if_pos (hiff.mp q)] at k; exact k p e s m args below meth c H locs cells slots E ρ lsA hC hS0 hR hS hl
  · rw [if_neg (fun z => q (hiff.mpr z))] at k; exact k p e s m args below meth c H locs cells slots E ρ lsA hC hS0 hR hS hl
theorem g_if_gt {x off : Int} {tgt : Nat} (hd : decode i.2.1 pc = .ok (.ifCond .gt off, 3)) (ht : (pc : Int) + off = (tgt : Int)) (h1 : rg x) (k : if 0 < x then G l d mc ms i z (tgt) ls (st) h Q else G l d mc ms i z (pc + 3) ls (st) h Q) : G l d mc ms i z (pc) ls (aI x :: st) h Q := by
  intro p e s m args below meth c H locs cells slots E ρ lsA hC hS0 hR hS hl
  obtain ⟨hx, hb, hr, hml, hown, hts, hlk, hnm⟩ := id hC
  have hiff := i32_lt rg_0 h1
  rw [← i32_0] at hiff
  refine lv_if_gt hx hb hd ht (fun q => ?_) (fun q => ?_)
  · rw [if_pos (hiff.mp q)] at k; exact k p e s m args below meth c H locs cells slots E ρ lsA hC hS0 hR hS hl
  · rw [if_neg (fun z => q (hiff.mpr z))] at k; exact k p e s m args below meth c H locs cells slots E ρ lsA hC hS0 hR hS hl
theorem g_if_le {x off : Int} {tgt : Nat} (hd : decode i.2.1 pc = .ok (.ifCond .le off, 3)) (ht : (pc : Int) + off = (tgt : Int)) (h1 : rg x) (k : if x ≤ 0 then G l d mc ms i z (tgt) ls (st) h Q else G l d mc ms i z (pc + 3) ls (st) h Q) : G l d mc ms i z (pc) ls (aI x :: st) h Q := by
  intro p e s m args below meth c H locs cells slots E ρ lsA hC hS0 hR hS hl
  obtain ⟨hx, hb, hr, hml, hown, hts, hlk, hnm⟩ := id hC
  have hiff := i32_le h1 rg_0
  rw [← i32_0] at hiff
  refine lv_if_le hx hb hd ht (fun q => ?_) (fun q => ?_)
  · rw [if_pos (hiff.mp q)] at k; exact k p e s m args below meth c H locs cells slots E ρ lsA hC hS0 hR hS hl
  · rw [if_neg (fun z => q (hiff.mpr z))] at k; exact k p e s m args below meth c H locs cells slots E ρ lsA hC hS0 hR hS hl
theorem g_cmp_eq {x y off : Int} {tgt : Nat} (hd : decode i.2.1 pc = .ok (.if_icmp .eq off, 3)) (ht : (pc : Int) + off = (tgt : Int)) (h1 : rg x) (h2 : rg y) (k : if x = y then G l d mc ms i z (tgt) ls (st) h Q else G l d mc ms i z (pc + 3) ls (st) h Q) : G l d mc ms i z (pc) ls (aI y :: aI x :: st) h Q := by
  intro p e s m args below meth c H locs cells slots E ρ lsA hC hS0 hR hS hl
  obtain ⟨hx, hb, hr, hml, hown, hts, hlk, hnm⟩ := id hC
  have hiff := i32_eq h1 h2
  refine lv_icmp_eq hx hb hd ht (fun q => ?_) (fun q => ?_)
  · rw [if_pos (hiff.mp q)] at k; exact k p e s m args below meth c H locs cells slots E ρ lsA hC hS0 hR hS hl
  · rw [if_neg (fun z => q (hiff.mpr z))] at k; exact k p e s m args below meth c H locs cells slots E ρ lsA hC hS0 hR hS hl
theorem g_cmp_ne {x y off : Int} {tgt : Nat} (hd : decode i.2.1 pc = .ok (.if_icmp .ne off, 3)) (ht : (pc : Int) + off = (tgt : Int)) (h1 : rg x) (h2 : rg y) (k : if ¬ x = y then G l d mc ms i z (tgt) ls (st) h Q else G l d mc ms i z (pc + 3) ls (st) h Q) : G l d mc ms i z (pc) ls (aI y :: aI x :: st) h Q := by
  intro p e s m args below meth c H locs cells slots E ρ lsA hC hS0 hR hS hl
  obtain ⟨hx, hb, hr, hml, hown, hts, hlk, hnm⟩ := id hC
  have hiff := i32_eq h1 h2
  refine lv_icmp_ne hx hb hd ht (fun q => ?_) (fun q => ?_)
  · rw [if_pos (fun z => q (hiff.mpr z))] at k; exact k p e s m args below meth c H locs cells slots E ρ lsA hC hS0 hR hS hl
  · rw [if_neg (fun z => z (hiff.mp q))] at k; exact k p e s m args below meth c H locs cells slots E ρ lsA hC hS0 hR hS hl
theorem g_cmp_lt {x y off : Int} {tgt : Nat} (hd : decode i.2.1 pc = .ok (.if_icmp .lt off, 3)) (ht : (pc : Int) + off = (tgt : Int)) (h1 : rg x) (h2 : rg y) (k : if x < y then G l d mc ms i z (tgt) ls (st) h Q else G l d mc ms i z (pc + 3) ls (st) h Q) : G l d mc ms i z (pc) ls (aI y :: aI x :: st) h Q := by
  intro p e s m args below meth c H locs cells slots E ρ lsA hC hS0 hR hS hl
  obtain ⟨hx, hb, hr, hml, hown, hts, hlk, hnm⟩ := id hC
  have hiff := i32_lt h1 h2
  refine lv_icmp_lt hx hb hd ht (fun q => ?_) (fun q => ?_)
  · rw [if_pos (hiff.mp q)] at k; exact k p e s m args below meth c H locs cells slots E ρ lsA hC hS0 hR hS hl
  · rw [if_neg (fun z => q (hiff.mpr z))] at k; exact k p e s m args below meth c H locs cells slots E ρ lsA hC hS0 hR hS hl
theorem g_cmp_ge {x y off : Int} {tgt : Nat} (hd : decode i.2.1 pc = .ok (.if_icmp .ge off, 3)) (ht : (pc : Int) + off = (tgt : Int)) (h1 : rg x) (h2 : rg y) (k : if y ≤ x then G l d mc ms i z (tgt) ls (st) h Q else G l d mc ms i z (pc + 3) ls (st) h Q) : G l d mc ms i z (pc) ls (aI y :: aI x :: st) h Q := by
  intro p e s m args below meth c H locs cells slots E ρ lsA hC hS0 hR hS hl
  obtain ⟨hx, hb, hr, hml, hown, hts, hlk, hnm⟩ := id hC
  have hiff := i32_le h2 h1
  refine lv_icmp_ge hx hb hd ht (fun q => ?_) (fun q => ?_)
  · rw [if_pos (hiff.mp q)] at k; exact k p e s m args below meth c H locs cells slots E ρ lsA hC hS0 hR hS hl
  · rw [if_neg (fun z => q (hiff.mpr z))] at k; exact k p e s m args below meth c H locs cells slots E ρ lsA hC hS0 hR hS hl
theorem g_cmp_gt {x y off : Int} {tgt : Nat} (hd : decode i.2.1 pc = .ok (.if_icmp .gt off, 3)) (ht : (pc : Int) + off = (tgt : Int)) (h1 : rg x) (h2 : rg y) (k : if y < x then G l d mc ms i z (tgt) ls (st) h Q else G l d mc ms i z (pc + 3) ls (st) h Q) : G l d mc ms i z (pc) ls (aI y :: aI x :: st) h Q := by
  intro p e s m args below meth c H locs cells slots E ρ lsA hC hS0 hR hS hl
  obtain ⟨hx, hb, hr, hml, hown, hts, hlk, hnm⟩ := id hC
  have hiff := i32_lt h2 h1
  refine lv_icmp_gt hx hb hd ht (fun q => ?_) (fun q => ?_)
  · rw [if_pos (hiff.mp q)] at k; exact k p e s m args below meth c H locs cells slots E ρ lsA hC hS0 hR hS hl
  · rw [if_neg (fun z => q (hiff.mpr z))] at k; exact k p e s m args below meth c H locs cells slots E ρ lsA hC hS0 hR hS hl
theorem g_cmp_le {x y off : Int} {tgt : Nat} (hd : decode i.2.1 pc = .ok (.if_icmp .le off, 3)) (ht : (pc : Int) + off = (tgt : Int)) (h1 : rg x) (h2 : rg y) (k : if x ≤ y then G l d mc ms i z (tgt) ls (st) h Q else G l d mc ms i z (pc + 3) ls (st) h Q) : G l d mc ms i z (pc) ls (aI y :: aI x :: st) h Q := by
  intro p e s m args below meth c H locs cells slots E ρ lsA hC hS0 hR hS hl
  obtain ⟨hx, hb, hr, hml, hown, hts, hlk, hnm⟩ := id hC
  have hiff := i32_le h1 h2
  refine lv_icmp_le hx hb hd ht (fun q => ?_) (fun q => ?_)
  · rw [if_pos (hiff.mp q)] at k; exact k p e s m args below meth c H locs cells slots E ρ lsA hC hS0 hR hS hl
  · rw [if_neg (fun z => q (hiff.mpr z))] at k; exact k p e s m args below meth c H locs cells slots E ρ lsA hC hS0 hR hS hl
theorem g_goto {off : Int} {tgt : Nat} (hd : decode i.2.1 pc = .ok (.goto off, 3)) (ht : (pc : Int) + off = (tgt : Int)) (k : G l d mc ms i z (tgt) ls (st) h Q) : G l d mc ms i z (pc) ls (st) h Q := by
  intro p e s m args below meth c H locs cells slots E ρ lsA hC hS0 hR hS hl
  obtain ⟨hx, hb, hr, hml, hown, hts, hlk, hnm⟩ := id hC
  exact lv_goto hx hb hd ht (k p e s m args below meth c H locs cells slots E ρ lsA hC hS0 hR hS hl)
theorem g_nonnull {a : Nat} {off : Int} {tgt : Nat} (hd : decode i.2.1 pc = .ok (.ifnonnull off, 3)) (ht : (pc : Int) + off = (tgt : Int)) (k : G l d mc ms i z (tgt) ls (st) h Q) : G l d mc ms i z (pc) ls (aP a :: st) h Q := by
  intro p e s m args below meth c H locs cells slots E ρ lsA hC hS0 hR hS hl
  obtain ⟨hx, hb, hr, hml, hown, hts, hlk, hnm⟩ := id hC
  exact lv_ifnonnull hx hb hd ht (k p e s m args below meth c H locs cells slots E ρ lsA hC hS0 hR hS hl)
theorem g_nonnullN {off : Int} (hd : decode i.2.1 pc = .ok (.ifnonnull off, 3)) (k : G l d mc ms i z (pc + 3) ls (st) h Q) : G l d mc ms i z (pc) ls (aR none :: st) h Q := by
  intro p e s m args below meth c H locs cells slots E ρ lsA hC hS0 hR hS hl
  obtain ⟨hx, hb, hr, hml, hown, hts, hlk, hnm⟩ := id hC
  exact lv_ifnonnullN hx hb hd (k p e s m args below meth c H locs cells slots E ρ lsA hC hS0 hR hS hl)
theorem g_dup {v : AV} (hd : decode i.2.1 pc = .ok (.dup, 1)) (hc : acat v = 1) (k : G l d mc ms i z (pc + 1) ls (v :: v :: st) h Q) : G l d mc ms i z (pc) ls (v :: st) h Q := by
  intro p e s m args below meth c H locs cells slots E ρ lsA hC hS0 hR hS hl
  obtain ⟨hx, hb, hr, hml, hown, hts, hlk, hnm⟩ := id hC
  exact lv_dup hx hb hd ((acat_cV v).trans hc) (k p e s m args below meth c H locs cells slots E ρ lsA hC hS0 hR hS hl)
theorem g_dup2 {v w : AV} (hd : decode i.2.1 pc = .ok (.dup2, 1)) (hc : acat v = 1) (hc2 : acat w = 1) (k : G l d mc ms i z (pc + 1) ls (v :: w :: v :: w :: st) h Q) : G l d mc ms i z (pc) ls (v :: w :: st) h Q := by
  intro p e s m args below meth c H locs cells slots E ρ lsA hC hS0 hR hS hl
  obtain ⟨hx, hb, hr, hml, hown, hts, hlk, hnm⟩ := id hC
  exact lv_dup2_11 hx hb hd ((acat_cV v).trans hc) ((acat_cV w).trans hc2) (k p e s m args below meth c H locs cells slots E ρ lsA hC hS0 hR hS hl)
theorem g_tabIn {x dflt lo hi off : Int} {offs : Array Int} {len tgt : Nat} (hd : decode i.2.1 pc = .ok (.tableswitch dflt lo hi offs, len)) (h1 : rg x) (h2 : lo ≤ x) (h3 : x ≤ hi) (ho : offs[(x - lo).toNat]? = some off) (ht : (pc : Int) + off = (tgt : Int)) (k : G l d mc ms i z (tgt) ls (st) h Q) : G l d mc ms i z (pc) ls (aI x :: st) h Q := by
  intro p e s m args below meth c H locs cells slots E ρ lsA hC hS0 hR hS hl
  obtain ⟨hx, hb, hr, hml, hown, hts, hlk, hnm⟩ := id hC
  exact lv_tableIn hx hb hd (by rw [i32_toInt h1]; omega) (by rw [i32_toInt h1]; omega) (by rw [i32_toInt h1]; exact ho) ht (k p e s m args below meth c H locs cells slots E ρ lsA hC hS0 hR hS hl)
theorem g_tabOut {x dflt lo hi : Int} {offs : Array Int} {len tgt : Nat} (hd : decode i.2.1 pc = .ok (.tableswitch dflt lo hi offs, len)) (h1 : rg x) (h2 : x < lo ∨ hi < x) (ht : (pc : Int) + dflt = (tgt : Int)) (k : G l d mc ms i z (tgt) ls (st) h Q) : G l d mc ms i z (pc) ls (aI x :: st) h Q := by
  intro p e s m args below meth c H locs cells slots E ρ lsA hC hS0 hR hS hl
  obtain ⟨hx, hb, hr, hml, hown, hts, hlk, hnm⟩ := id hC
  exact lv_tableOut hx hb hd (by rw [i32_toInt h1]; exact h2) ht (k p e s m args below meth c H locs cells slots E ρ lsA hC hS0 hR hS hl)
def lsub : List AV → List AV → Prop
  | [], [] => True
  | a :: x, b :: y => (a = aU ∨ a = b) ∧ lsub x y
  | _, _ => False
theorem lsub_at : ∀ {a b : List AV}, lsub a b → ∀ {j : Nat} {v : AV}, a[j]? = some v → v ≠ aU → b[j]? = some v
  | [], [], _, j, v, h, _ => by simp at h
  | x :: a, y :: b, hs, j, v, h, hv => by
    cases j with
    | zero =>
      rw [List.getElem?_cons_zero] at h ⊢
      cases h
      rcases hs.1 with e | e
      · exact absurd e hv
      · rw [e]
    | succ j =>
      rw [List.getElem?_cons_succ] at h ⊢
      exact lsub_at hs.2 h hv
  | [], _ :: _, hs, _, _, _, _ => absurd hs (by simp [lsub])
  | _ :: _, [], hs, _, _, _, _ => absurd hs (by simp [lsub])
theorem g_sub {ls' : List AV} (hs : lsub ls' ls) (k : G l d mc ms i z (pc) ls' (st) h Q) : G l d mc ms i z (pc) ls (st) h Q := by
  intro p e s m args below meth c H locs cells slots E ρ lsA hC hS0 hR hS hl
  obtain ⟨hx, hb, hr, hml, hown, hts, hlk, hnm⟩ := id hC
  refine k p e s m args below meth c H locs cells slots E ρ lsA hC hS0 hR hS (lv_has_mono hl (fun q hq => ?_))
  obtain ⟨j, v, h1, h2, h3⟩ := lk_mem.mp hq
  exact lk_mem.mpr ⟨j, v, lsub_at hs h1 h2, h2, h3⟩
theorem g_mono {Q2 : Option AV → HI → ZR → Prop} (k : G l d mc ms i z pc ls st h Q2) (hq : ∀ v h' z', Q2 v h' z' → Q v h' z') : G l d mc ms i z (pc) ls (st) h Q := by
  intro p e s m args below meth c H locs cells slots E ρ lsA hC hS0 hR hS hl
  obtain ⟨hx, hb, hr, hml, hown, hts, hlk, hnm⟩ := id hC
  intro T hT X
  obtain ⟨t, a1, o, b1, b2, ⟨⟨v, h', z', ρ', c1, c2, c3⟩, c4⟩, b4⟩ := k p e s m args below meth c H locs cells slots E ρ lsA hC hS0 hR hS hl T hT X
  exact ⟨t, a1, o, b1, b2, ⟨⟨v, h', z', ρ', c1, hq _ _ _ c2, c3⟩, c4⟩, b4⟩
theorem g_ret {ty : FieldType} {x : Int} (hd : decode i.2.1 pc = .ok (.ireturn, 1)) (hr0 : i.2.2.2 = some ty) (hn : narrow ty (.int (Int32.ofInt x)) = .int (Int32.ofInt x)) (k : Q (some (aI x)) h z) : G l d mc ms i z (pc) ls ([aI x]) h Q := by
  intro p e s m args below meth c H locs cells slots E ρ lsA hC hS0 hR hS hl
  obtain ⟨hx, hb, hr, hml, hown, hts, hlk, hnm⟩ := id hC
  refine W.widen (k := cells + mc) (n := slots + ms) (by omega) (by omega) ?_
  exact W.zret hx hb (hr.trans hr0) hn (fun t ht hW => ⟨⟨some (aI x), h, z, ρ, rfl, k, by rw [ht]; exact hR, Nat.le_refl _, fun _ _ => rfl⟩, hS.F ht⟩) (fun q hq => hS.2.2 q hq) hd hlk
theorem g_reti {x : Int} (hd : decode i.2.1 pc = .ok (.ireturn, 1)) (hr0 : i.2.2.2 = some .int) (k : Q (some (aI x)) h z) : G l d mc ms i z (pc) ls ([aI x]) h Q := g_ret hd hr0 rfl k
theorem nar_z {x : Int} (hx : x = 0 ∨ x = 1) : narrow .boolean (.int (Int32.ofInt x)) = .int (Int32.ofInt x) := by rcases hx with rfl | rfl <;> rfl
theorem g_retz {x : Int} (hd : decode i.2.1 pc = .ok (.ireturn, 1)) (hr0 : i.2.2.2 = some .boolean) (hx : x = 0 ∨ x = 1) (k : Q (some (aI x)) h z) : G l d mc ms i z (pc) ls ([aI x]) h Q := g_ret hd hr0 (nar_z hx) k
theorem g_retv (hd : decode i.2.1 pc = .ok (.return_, 1)) (hr0 : i.2.2.2 = none) (k : Q none h z) : G l d mc ms i z (pc) ls ([]) h Q := by
  intro p e s m args below meth c H locs cells slots E ρ lsA hC hS0 hR hS hl
  obtain ⟨hx, hb, hr, hml, hown, hts, hlk, hnm⟩ := id hC
  refine W.widen (k := cells + mc) (n := slots + ms) (by omega) (by omega) ?_
  exact W.vret hx hb (hr.trans hr0) (fun t ht hW => ⟨⟨none, h, z, ρ, rfl, k, by rw [ht]; exact hR, Nat.le_refl _, fun _ _ => rfl⟩, hS.F ht⟩) (fun q hq => hS.2.2 q hq) hd hlk
end GRows
