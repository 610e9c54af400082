/-! the throw; a method that throws; the helpers of the law, which catch it -/
set_option maxRecDepth 20000 in
theorem nse_in : ((vx_at0 RX11 170 nseC nseN).filter goodWord).all (fun w => decide (w ∈ lw_tbl)) = true := by decide +kernel
set_option maxRecDepth 20000 in
theorem nse_in2 : ((vx_at0 RX11 170 nseC nseN).filter (fun w => !goodWord w)).all (fun w => decide (w ∈ lw_tbl) && w.faceAtom && w.onTables) = true := by decide +kernel
set_option maxRecDepth 20000 in
theorem nse_ot : (Cond.classLink RX11 168 nseC :: Cond.initialized nseC :: vx_at0 RX11 170 nseC nseN).all vx_ot = true := by decide +kernel
set_option maxRecDepth 20000 in
theorem nse_link : Cond.classLink RX11 168 nseC ∈ TB ∧ Cond.initialized nseC ∈ TB ∧ Cond.classLink RL 13 nseC ∈ TB := by decide +kernel
set_option maxRecDepth 20000 in
theorem nse_st : Cond.laysStatic Bundle.tN "UNASSIGNED_STACK" Bundle.steD ∈ lw_tbl ∧ Cond.laysStatic Bundle.tN "SUPPRESSED_SENTINEL" Bundle.listD ∈ lw_tbl ∧ Cond.initialized Bundle.tN ∈ lw_tbl ∧ Cond.castable nseC nseC ∈ lw_tbl := by decide +kernel
set_option maxRecDepth 20000 in
theorem nse_ref : Cond.isRef (.static Bundle.tN "UNASSIGNED_STACK" Bundle.steD) ∈ flatC (Jvm.Cond.and given_1 narrow_1) ∧ Cond.isRef (.static Bundle.tN "SUPPRESSED_SENTINEL" Bundle.listD) ∈ flatC (Jvm.Cond.and given_1 narrow_1) := by decide +kernel
/-- a word of the tables alone, as at the law's entry -/
theorem gS.face {E : GE} {s : State} {H : Heap} {args : Array Value} (h : gS E s H) {w : Cond} (hw : w ∈ lw_tbl) (hf : w.faceAtom = true) (ho : w.onTables = true) : w.before args s = true := by
  obtain ⟨-, -, s0, h0, hW, -⟩ := h
  exact va_tabs (u := s0.setVm s.vm) ho rfl (Cond.faceAtom_setVm hW.alike w hf (h0.2.2.2.2.1 w hw))
theorem gS.stat {E : GE} {s : State} {n d : String} (h : gS E s s.heap) (h1 : Cond.laysStatic Bundle.tN n d ∈ lw_tbl) (h2 : Cond.isRef (.static Bundle.tN n d) ∈ flatC (Jvm.Cond.and given_1 narrow_1)) : vx_Zq Bundle.tN n d (gA E) s s.heap := by
  obtain ⟨-, -, s0, h0, hW, hq⟩ := h
  have hz : s0.heap.size = geB E := h0.2.2.2.1
  have z := vx_Zqof (A := gA E) (h0.2.2.2.2.1 _ h1) (h0.2.2.2.2.1 _ nse_st.2.2.1) (flat_of_before _ h0.2.2.2.2.2.1 _ h2) (fun a ha q => by have : geB E ≤ a := q; omega)
  exact (vx_Zq.moved hW.alike z).kept (fun a ha _ => hq a (by omega))
theorem gR.grow {E : GE} {ρ : Nat → Nat} {h : HI} {z : ZR} {H H1 : Heap} (hR : gR E ρ h z H) (hk : ∀ q : Nat, q < H.size → H1[q]? = H[q]?) : gR E ρ h z H1 := ⟨hR.1.kept (fun k q hq => hk q.1 (vx_lt hR.1 hq)), hR.2⟩
section TH2
variable {l : Launch} {d mc ms : Nat} {i : MT} {z : ZR} {pc : Nat} {ls st : List AV} {h : HI} {Q : Option AV → HI → ZR → Prop}
theorem gx_throw (hl9 : l.stackTraces = false) (hi : i.1.cls = RX11) (d0 : decode i.2.1 pc = .ok (.new 168, 3)) (d3 : decode i.2.1 (pc + 3) = .ok (.dup, 1)) (d4 : decode i.2.1 (pc + 4) = .ok (.invokespecial 170, 3)) (d7 : decode i.2.1 (pc + 7) = .ok (.athrow, 1)) (hd : 5 < d) (hst : (st.map acat).sum ≤ 8) (hmc : 1 ≤ mc) (hms : 6 ≤ ms) : GX h l d mc ms i z pc ls st h Q := by
  intro p e s m args below meth c H locs cells slots E ρ lsA hxt hC hS0 hR hS hl
  obtain ⟨hx, hb, hr, hml, hown, hts, hlk, hnm⟩ := id hC
  rw [hi] at hown
  refine vx_throw0 (own := RX11) (cls := nseC) (names := nseN) (ik := 168) (ic := 170) (A := gA E) hx hb hl9 hown (by decide) (by decide) (hts _ nse_link.1) (hts _ nse_link.2.1) (fun w hw => ?_) (fun w hw => List.all_eq_true.mp nse_ot w hw) (hS0.stat nse_st.1 nse_ref.1) (hS0.stat nse_st.2.1 nse_ref.2) hS (hl.1.trans hml.symm) d0 d3 d4 d7 (fun x hx => (hxt x hx).elim) hd (by rw [acat_sum]; show _ + (13 * (2 + 1) + 42) ≤ 44 * d; omega) (by show cells + 1 ≤ cells + mc; omega) (by show slots + 6 ≤ slots + ms; omega) hlk (fun t hA hz hk => ⟨rfl, hR.grow hk, ?_⟩) hS.2.2 (by omega) (by omega)
  · by_cases g : goodWord w = true
    · have := List.all_eq_true.mp nse_in w (List.mem_filter.mpr ⟨hw, g⟩)
      exact hts w (tb_of (of_decide_eq_true this) g)
    · have := List.all_eq_true.mp nse_in2 w (List.mem_filter.mpr ⟨hw, by simpa using g⟩)
      simp only [Bool.and_eq_true] at this
      exact hS0.face (of_decide_eq_true this.1.1) this.1.2 this.2
  · exact ⟨Nat.le_trans hS.1 hz, fun q h1 h2 => by rw [hk q (Nat.lt_of_lt_of_le h1 hS.1)]; exact hS.2.1 q h1 h2⟩
/-- the method, called so, throws, and nothing has changed -/
def RetX (l : Launch) (d mc ms : Nat) (i : MT) (z : ZR) (as : List AV) (h : HI) : Prop :=
  ∀ (E : GE) (ρ : Nat → Nat), vx_Met l i.1 (gws i) (gRm d mc ms) (va_Pc (as.map (cV ρ)) (fun U => gS E U U.heap ∧ gR E ρ h z U.heap)) (gQ E ρ z.2 (fun _ _ _ => False)) (gX E ρ z h) mc ms (gA E)
theorem RetX.of {as : List AV} (n : Nat) (hp : plainName i.1.cls = true) (ls : List AV) (hls : apad as ++ List.replicate n aU = ls) (hn : (apad as).length + n = i.2.2.1) (k : GX h l d mc ms i z 0 ls [] h (fun _ _ _ => False)) : RetX l d mc ms i z as h := by
  intro E ρ
  refine vx_ofW (cc := i.2.1) (maxL := i.2.2.1) (ret := i.2.2.2) hp rfl ?_
  intro p e s m args below meth c s₁ B hml hxt hv
  obtain ⟨rfl, hS0, hR⟩ := hv
  have hts := atoms_spec (ws := gws i) B.pre
  have hl := lv_entry (as.map (cV ρ)) (n := i.2.2.1) (by rw [← apad_len]; omega)
  rw [lg_entry_eq]
  have hl2 : lv_has ((lg_sl (as.map (cV ρ)) ++ List.replicate (i.2.2.1 - (lg_sl (as.map (cV ρ))).length) Slot.unset).toArray) i.2.2.1 (lk ρ 0 ls) := by
    refine lv_has_mono hl (fun q hq => ?_)
    rw [← hls, lk_app, lk_U, List.append_nil] at hq
    exact lk_pad q hq
  have := k p e s m (as.map (cV ρ)).toArray below meth c s.heap [] 0 0 E ρ _ hxt ⟨B.exec, B.bytes, B.returns, hml, findClass_of_methodNamed B.named, fun w hw => hts w (List.mem_cons_of_mem _ hw), B.notSynchronized, (name_of_methodNamed B.named B.method).1⟩ hS0 hR va_S.rf hl2
  simp only [Nat.zero_add] at this
  exact this
/-- a method with a table of its own -/
def RetW (l : Launch) (d mc ms : Nat) (i : MT) (hh : List (Nat × Nat × Nat × Nat)) (z : ZR) (as : List AV) (h : HI) (Q : Option AV → HI → ZR → Prop) : Prop :=
  ∀ (E : GE) (ρ : Nat → Nat), Met l i.1 (Cond.codeWith i.1 i.2.1 i.2.2.1 i.2.2.2 hh :: TB) (gRm d mc ms) (va_Pc (as.map (cV ρ)) (fun U => gS E U U.heap ∧ gR E ρ h z U.heap)) (gQ E ρ z.2 Q) mc ms (gA E)
theorem RetW.of {hh : List (Nat × Nat × Nat × Nat)} {as : List AV} (n : Nat) (hp : plainName i.1.cls = true) (ls : List AV) (hls : apad as ++ List.replicate n aU = ls) (hn : (apad as).length + n = i.2.2.1) (k : GH (tableOf hh) l d mc ms i z 0 ls [] h Q) : RetW l d mc ms i hh z as h Q := by
  intro E ρ
  refine va_MetW (cc := i.2.1) (maxL := i.2.2.1) (ret := i.2.2.2) (hh := hh) hp rfl ?_
  intro p e s m args below meth c s₁ B hml hv
  obtain ⟨rfl, hS0, hR⟩ := hv
  have hts := atoms_spec (ws := Cond.codeWith i.1 i.2.1 i.2.2.1 i.2.2.2 hh :: TB) B.pre
  have hl := lv_entry (as.map (cV ρ)) (n := i.2.2.1) (by rw [← apad_len]; omega)
  rw [lg_entry_eq]
  have hl2 : lv_has ((lg_sl (as.map (cV ρ)) ++ List.replicate (i.2.2.1 - (lg_sl (as.map (cV ρ))).length) Slot.unset).toArray) i.2.2.1 (lk ρ 0 ls) := by
    refine lv_has_mono hl (fun q hq => ?_)
    rw [← hls, lk_app, lk_U, List.append_nil] at hq
    exact lk_pad q hq
  have := k p e s m (as.map (cV ρ)).toArray below meth c s.heap [] 0 0 E ρ _ (vx_table (x := i.1) B (hts _ List.mem_cons_self)) ⟨B.exec, B.bytes, B.returns, hml, findClass_of_methodNamed B.named, fun w hw => hts w (List.mem_cons_of_mem _ hw), B.notSynchronized, (name_of_methodNamed B.named B.method).1⟩ hS0 hR va_S.rf hl2
  simp only [Nat.zero_add] at this
  exact this
theorem gh_g {tbl : List ExceptionTableEntry} (k : G l d mc ms i z pc ls st h Q) : GH tbl l d mc ms i z pc ls st h Q := fun p e s m args below meth c H locs cells slots E ρ lsA _ hC hS0 hR hS hl => k p e s m args below meth c H locs cells slots E ρ lsA hC hS0 hR hS hl
end TH2
