/-! methods that throw: rows for a body that may throw (GX), for a body with a table (GH); written by wip/whole/gen_throw.py -/
abbrev nseC : String := "java/util/NoSuchElementException"
def nseN : List String := ["java/lang/RuntimeException", "java/lang/Exception"]
/-- what is left where it has thrown: the same numbers -/
def gX (E : GE) (ρ : Nat → Nat) (z : ZR) (h : HI) : String → State → State → Prop := fun C st t => C = nseC ∧ gR E ρ h z t.heap ∧ va_F (gA E) st t
def GX (h0 : HI) (l : Launch) (d mc ms : Nat) (i : MT) (z : ZR) (pc : Nat) (ls st : List AV) (h : HI) (Q : Option AV → HI → ZR → Prop) : Prop :=
  ∀ (p : Program) (e : Env) (s : State) (m : MethodId) (args : Array Value) (below : List Frame) (meth : Method) (c : Code) (H : Heap) (locs : List Loc) (cells slots : Nat) (E : GE) (ρ : Nat → Nat) (lsA : Array Slot), (∀ x ∈ c.exceptionTable.toList, False) →
    gC p s m args meth c i → gS E s s.heap → gR E ρ h z H → va_S (gA E) s.heap H locs → lv_has lsA i.2.2.1 (lk ρ 0 ls) →
    W p l e (gRm d (cells + mc) (slots + ms)) s m args below meth c H locs cells slots (vx_MQ below (gQ E ρ z.2 Q) (gX E ρ z h0) args s (cells + mc) (slots + ms) (gA E)) (F0 m pc lsA (st.map (cV ρ)))
def GH (tbl : List ExceptionTableEntry) (l : Launch) (d mc ms : Nat) (i : MT) (z : ZR) (pc : Nat) (ls st : List AV) (h : HI) (Q : Option AV → HI → ZR → Prop) : Prop :=
  ∀ (p : Program) (e : Env) (s : State) (m : MethodId) (args : Array Value) (below : List Frame) (meth : Method) (c : Code) (H : Heap) (locs : List Loc) (cells slots : Nat) (E : GE) (ρ : Nat → Nat) (lsA : Array Slot), c.exceptionTable.toList = tbl →
    gC p s m args meth c i → gS E s s.heap → gR E ρ h z H → va_S (gA E) s.heap H locs → lv_has lsA i.2.2.1 (lk ρ 0 ls) →
    W p l e (gRm d (cells + mc) (slots + ms)) s m args below meth c H locs cells slots (MQ below (gQ E ρ z.2 Q) args s (cells + mc) (slots + ms) (gA E)) (F0 m pc lsA (st.map (cV ρ)))
section GXRows
variable {h0 : HI} {l : Launch} {d mc ms : Nat} {i : MT} {z : ZR} {pc : Nat} {ls st : List AV} {h : HI} {Q : Option AV → HI → ZR → Prop}
theorem gx_iload_n {q : Fin 4} {x : Int} (hd : decode i.2.1 pc = .ok (.iload_n q, 1)) (hv : ls[(q : Nat)]? = some (aI x)) (k : GX h0 l d mc ms i z (pc + 1) ls (aI x :: st) h Q) : GX h0 l d mc ms i z (pc) ls (st) h Q := by
  intro p e s m args below meth c H locs cells slots E ρ lsA hxt hC hS0 hR hS hl
  obtain ⟨hx, hb, hr, hml, hown, hts, hlk, hnm⟩ := id hC
  exact lv_iload_n hx hb hd rfl (lk_at hl hv (by intro q; cases q)) (k p e s m args below meth c H locs cells slots E ρ lsA hxt hC hS0 hR hS hl)
theorem gx_aload_n {q : Fin 4} {a : Nat} (hd : decode i.2.1 pc = .ok (.aload_n q, 1)) (hv : ls[(q : Nat)]? = some (aP a)) (k : GX h0 l d mc ms i z (pc + 1) ls (aP a :: st) h Q) : GX h0 l d mc ms i z (pc) ls (st) h Q := by
  intro p e s m args below meth c H locs cells slots E ρ lsA hxt hC hS0 hR hS hl
  obtain ⟨hx, hb, hr, hml, hown, hts, hlk, hnm⟩ := id hC
  exact lv_aload_n hx hb hd rfl (lk_at hl hv (by intro q; cases q)) (k p e s m args below meth c H locs cells slots E ρ lsA hxt hC hS0 hR hS hl)
theorem gx_iconst {n : Int} (hd : decode i.2.1 pc = .ok (.iconst n, 1)) (k : GX h0 l d mc ms i z (pc + 1) ls (aI n :: st) h Q) : GX h0 l d mc ms i z (pc) ls (st) h Q := by
  intro p e s m args below meth c H locs cells slots E ρ lsA hxt hC hS0 hR hS hl
  obtain ⟨hx, hb, hr, hml, hown, hts, hlk, hnm⟩ := id hC
  exact lv_iconst hx hb hd rfl (k p e s m args below meth c H locs cells slots E ρ lsA hxt hC hS0 hR hS hl)
theorem gx_getR {idx ci j a : Nat} {fin : Bool} {v : Option Nat} (hd : decode i.2.1 pc = .ok (.getfield idx, 3)) (hf : FLk i.1.cls idx ci j fin) (hs : SH a = .inl ci) (ha : a < z.2) (ht : ∀ (ρ : Nat → Nat) (x : Int) (o : Option Nat), fV ρ (fT ci j) x o = cR ρ o) (hv : z.1 a j = v) (kk : GX h0 l d mc ms i z (pc + 3) ls (aR v :: st) h Q) : GX h0 l d mc ms i z (pc) ls (aP a :: st) h Q := by
  intro p e s m args below meth c H locs cells slots E ρ lsA hxt hC hS0 hR hS hl
  obtain ⟨hx, hb, hr, hml, hown, hts, hlk, hnm⟩ := id hC
  obtain ⟨C, T, ⟨hc, hin, hty, hnn⟩, hj, -, -, hw⟩ := hf
  refine va_get hx hb hts hin hown hS0.1 hR.1 a (by rw [gW_at ha, cE_obj hs]) hc j hj (hts _ hw) (fun _ q => q) (v := cV ρ (aR v)) ?_ hd (kk p e s m args below meth c H locs cells slots E ρ lsA hxt hC hS0 hR hS hl)
  simp [hj, ht, cV, hv]
theorem gx_if_eq {x off : Int} {tgt : Nat} (hd : decode i.2.1 pc = .ok (.ifCond .eq off, 3)) (ht : (pc : Int) + off = (tgt : Int)) (h1 : rg x) (k : if x = 0 then GX h0 l d mc ms i z (tgt) ls (st) h Q else GX h0 l d mc ms i z (pc + 3) ls (st) h Q) : GX h0 l d mc ms i z (pc) ls (aI x :: st) h Q := by
  intro p e s m args below meth c H locs cells slots E ρ lsA hxt hC hS0 hR hS hl
  obtain ⟨hx, hb, hr, hml, hown, hts, hlk, hnm⟩ := id hC
  have hiff := i32_eq h1 rg_0
  rw [← i32_0] at hiff
  refine lv_if_eq hx hb hd ht (fun q => ?_) (fun q => ?_)
  · rw [if_pos (hiff.mp q)] at k; exact k p e s m args below meth c H locs cells slots E ρ lsA hxt hC hS0 hR hS hl
  · rw [if_neg (fun z => q (hiff.mpr z))] at k; exact k p e s m args below meth c H locs cells slots E ρ lsA hxt hC hS0 hR hS hl
theorem gx_if_ne {x off : Int} {tgt : Nat} (hd : decode i.2.1 pc = .ok (.ifCond .ne off, 3)) (ht : (pc : Int) + off = (tgt : Int)) (h1 : rg x) (k : if ¬ x = 0 then GX h0 l d mc ms i z (tgt) ls (st) h Q else GX h0 l d mc ms i z (pc + 3) ls (st) h Q) : GX h0 l d mc ms i z (pc) ls (aI x :: st) h Q := by
  intro p e s m args below meth c H locs cells slots E ρ lsA hxt hC hS0 hR hS hl
  obtain ⟨hx, hb, hr, hml, hown, hts, hlk, hnm⟩ := id hC
  have hiff := i32_eq h1 rg_0
  rw [← i32_0] at hiff
  refine lv_if_ne hx hb hd ht (fun q => ?_) (fun q => ?_)
  · rw [if_pos (fun z => q (hiff.mpr z))] at k; exact k p e s m args below meth c H locs cells slots E ρ lsA hxt hC hS0 hR hS hl
  · rw [if_neg (fun z => z (hiff.mp q))] at k; exact k p e s m args below meth c H locs cells slots E ρ lsA hxt hC hS0 hR hS hl
theorem gx_iald {a len : Nat} {x : Int} (hd : decode i.2.1 pc = .ok (.iaload, 1)) (hs : SH a = .inr (0, len)) (ha : a < z.2) (hlen : len ≤ 2147483647) (h1 : 0 ≤ x ∧ x < len) (kk : GX h0 l d mc ms i z (pc + 1) ls (aI (h a x) :: st) h Q) : GX h0 l d mc ms i z (pc) ls (aI x :: aP a :: st) h Q := by
  intro p e s m args below meth c H locs cells slots E ρ lsA hxt hC hS0 hR hS hl
  obtain ⟨hx, hb, hr, hml, hown, hts, hlk, hnm⟩ := id hC
  refine va_iald hx hb hS0.1 hR.1 a 0 (by rw [gW_at ha, cE_arr hs]; rfl) rfl (vp_in_of_int h1.1 h1.2 hlen) hd ?_
  rw [i32_nat h1.1 (by omega), Int.toNat_of_nonneg h1.1]
  exact kk p e s m args below meth c H locs cells slots E ρ lsA hxt hC hS0 hR hS hl
theorem gx_isub {x y : Int} (hd : decode i.2.1 pc = .ok (.isub, 1)) (k : GX h0 l d mc ms i z (pc + 1) ls (aI (x - y) :: st) h Q) : GX h0 l d mc ms i z (pc) ls (aI y :: aI x :: st) h Q := by
  intro p e s m args below meth c H locs cells slots E ρ lsA hxt hC hS0 hR hS hl
  obtain ⟨hx, hb, hr, hml, hown, hts, hlk, hnm⟩ := id hC
  refine lv_isub hx hb hd ?_
  rw [← Int32.ofInt_sub]
  exact k p e s m args below meth c H locs cells slots E ρ lsA hxt hC hS0 hR hS hl
theorem gx_cmp_ge {x y off : Int} {tgt : Nat} (hd : decode i.2.1 pc = .ok (.if_icmp .ge off, 3)) (ht : (pc : Int) + off = (tgt : Int)) (h1 : rg x) (h2 : rg y) (k : if y ≤ x then GX h0 l d mc ms i z (tgt) ls (st) h Q else GX h0 l d mc ms i z (pc + 3) ls (st) h Q) : GX h0 l d mc ms i z (pc) ls (aI y :: aI x :: st) h Q := by
  intro p e s m args below meth c H locs cells slots E ρ lsA hxt hC hS0 hR hS hl
  obtain ⟨hx, hb, hr, hml, hown, hts, hlk, hnm⟩ := id hC
  have hiff := i32_le h2 h1
  refine lv_icmp_ge hx hb hd ht (fun q => ?_) (fun q => ?_)
  · rw [if_pos (hiff.mp q)] at k; exact k p e s m args below meth c H locs cells slots E ρ lsA hxt hC hS0 hR hS hl
  · rw [if_neg (fun z => q (hiff.mpr z))] at k; exact k p e s m args below meth c H locs cells slots E ρ lsA hxt hC hS0 hR hS hl
end GXRows
section GXCalls
variable {h0 : HI} {l : Launch} {D mc ms : Nat} {i : MT} {z : ZR} {pc : Nat} {ls st st0 : List AV} {h : HI} {Q : Option AV → HI → ZR → Prop} {j : MT} {n idx a ci : Nat} {As : List AV}
theorem gx_callV (hd : decode i.2.1 pc = .ok (.invokevirtual idx, 3)) (hm : MLv i.1.cls idx j n) (hs : SH a = .inl ci) (hcl : (vwCl[ci]?).map (fun q => q.1) = some j.1.cls) (ha : a < z.2) (hn : As.length = n) (hst0 : st0 = As.reverse ++ aP a :: st) (hst : (st.map acat).sum ≤ 8) (hr : Rt l D j z (aP a :: As) h (fun v h' => GX h0 l (D + 1) mc ms i z (pc + 3) ls (v.toList ++ st) h' Q)) : GX h0 l (D + 1) mc ms i z pc ls st0 h Q := by
  intro p e s m args below meth c H locs cells slots E ρ lsA hxt hC hS0 hR hS hl
  obtain ⟨hx, hb, hrt, hml, hown, hts, hlk, hnm⟩ := id hC
  have hM := hr E ρ
  obtain ⟨q0, hq0⟩ : ∃ q0, vwCl[ci]? = some q0 := by
    cases hh : vwCl[ci]? with
    | none => rw [hh] at hcl; cases hcl
    | some q0 => exact ⟨q0, rfl⟩
  have hq1 : q0.1 = j.1.cls := by rw [hq0] at hcl; exact Option.some.inj hcl
  have hrv := va_recv hS0.1 hR.1 hq0 (a := ρ a) (q0 := a) (ci := ci) (by rw [gW_at ha, cE_obj hs])
  rw [hq1] at hrv
  have hg : ∀ w ∈ wsV i.1.cls idx j.1.cls j.1 (gws j), w ∈ TB := by
    intro w hw
    rcases List.mem_append.mp hw with hw | hw
    · simp only [List.mem_cons, List.not_mem_nil, or_false] at hw
      rcases hw with rfl | rfl | rfl | rfl
      · exact hm.2.1
      · exact hm.2.2.1
      · exact hm.2.2.2
      · exact hm.1.1
    · exact gws_in hm.1 w hw
  refine g_go (va_runV (As := As.map (cV ρ)) (b := ρ a) (rest := st.map (cV ρ)) ⟨hx, hb, hml, hown, hts⟩ hM (cwV n hts (tb_goodIn hg) rfl rfl rfl ⟨rfl, hm.1.2.2.1, hm.1.2.2.2.1, hm.1.2.2.2.2.1⟩ ⟨Nat.le_refl _, (by have := hm.1.2.2.2.2.2.1; show 8 + (j.2.2.1 + 11) + 44 * D ≤ 44 * (D + 1); omega)⟩) ⟨gPc_blind, hrv, fun U hU hW => ⟨rfl, by rw [hU]; exact (hS0.heap hS).moved hW, by rw [hU]; exact hR⟩⟩ rfl (by simp; exact hn) hl.1 (by show st0.map (cV ρ) = _; rw [hst0]; simp [cV, cR, va_rf]) (lv_room (by rw [acat_sum]; exact hst)) hd ⟨(by show cells + 0 ≤ cells + mc; omega), (by show slots + 0 ≤ slots + ms; omega)⟩) hS (fun v h' z' ρ' H1 locs1 hq hR1 hn1 hρ hS1 => ?_)
  obtain ⟨rfl, hq⟩ := hq
  have eρ : ρ' = ρ := funext fun k => hρ k (Nat.lt_or_ge k z'.2)
  subst eρ
  have k2 := hq p e s m args below meth c H1 locs1 cells slots E ρ' lsA hxt hC hS0 hR1 hS1 hl
  cases v with
  | none => exact k2
  | some v => exact k2
theorem gx_callS (hd : decode i.2.1 pc = .ok (.invokestatic idx, 3)) (hm : MLs i.1.cls idx j n) (hn : As.length = n) (hst0 : st0 = As.reverse ++ st) (hst : (st.map acat).sum ≤ 8) (ho : j.1.cls = i.1.cls) (hr : Rt l D j z (As) h (fun v h' => GX h0 l (D + 1) mc ms i z (pc + 3) ls (v.toList ++ st) h' Q)) : GX h0 l (D + 1) mc ms i z pc ls st0 h Q := by
  intro p e s m args below meth c H locs cells slots E ρ lsA hxt hC hS0 hR hS hl
  obtain ⟨hx, hb, hrt, hml, hown, hts, hlk, hnm⟩ := id hC
  have hM := hr E ρ
  have hg : ∀ w ∈ wsS i.1.cls idx j.1 (gws j), w ∈ TB := by
    intro w hw
    rcases List.mem_append.mp hw with hw | hw
    · simp only [List.mem_cons, List.not_mem_nil, or_false] at hw
      rcases hw with rfl | rfl | rfl
      · exact hm.2.1
      · exact hm.2.2
      · rw [← ho]; exact hm.1.1
    · exact gws_in hm.1 w hw
  refine g_go (va_runS (As := As.map (cV ρ)) (rest := st.map (cV ρ)) ⟨hx, hb, hml, hown, hts⟩ hM (cwS n hts (tb_goodIn hg) rfl rfl rfl ⟨ho, hm.1.2.2.1, hm.1.2.2.2.1, hm.1.2.2.2.2.1⟩ ⟨Nat.le_refl _, (by have := hm.1.2.2.2.2.2.1; show 8 + (j.2.2.1 + 11) + 44 * D ≤ 44 * (D + 1); omega)⟩) ⟨gPc_blind, fun U hU hW => ⟨rfl, by rw [hU]; exact (hS0.heap hS).moved hW, by rw [hU]; exact hR⟩⟩ rfl (by simp; exact hn) hl.1 (by show st0.map (cV ρ) = _; rw [hst0]; simp) (lv_room (by rw [acat_sum]; exact hst)) hd ⟨(by show cells + 0 ≤ cells + mc; omega), (by show slots + 0 ≤ slots + ms; omega)⟩) hS (fun v h' z' ρ' H1 locs1 hq hR1 hn1 hρ hS1 => ?_)
  obtain ⟨rfl, hq⟩ := hq
  have eρ : ρ' = ρ := funext fun k => hρ k (Nat.lt_or_ge k z'.2)
  subst eρ
  have k2 := hq p e s m args below meth c H1 locs1 cells slots E ρ' lsA hxt hC hS0 hR1 hS1 hl
  cases v with
  | none => exact k2
  | some v => exact k2
theorem gx_callVI (hd : decode i.2.1 pc = .ok (.invokevirtual idx, 3)) (hm : MLv i.1.cls idx j n) (hs : SH a = .inl ci) (hcl : (vwCl[ci]?).map (fun q => q.1) = some j.1.cls) (ha : a < z.2) (hn : As.length = n) (hst0 : st0 = As.reverse ++ aP a :: st) (hst : (st.map acat).sum ≤ 8) (hr : RtI l D j z (aP a :: As) h (fun r h' => GX h0 l (D + 1) mc ms i z (pc + 3) ls (aI r :: st) h' Q)) : GX h0 l (D + 1) mc ms i z pc ls st0 h Q := gx_callV hd hm hs hcl ha hn hst0 hst (Ret.mono hr (fun v h' z' q => ⟨q.1, by obtain ⟨r, rfl, q2⟩ := q.2; exact q2⟩))
theorem gx_callSI (hd : decode i.2.1 pc = .ok (.invokestatic idx, 3)) (hm : MLs i.1.cls idx j n) (hn : As.length = n) (hst0 : st0 = As.reverse ++ st) (hst : (st.map acat).sum ≤ 8) (ho : j.1.cls = i.1.cls) (hr : RtI l D j z (As) h (fun r h' => GX h0 l (D + 1) mc ms i z (pc + 3) ls (aI r :: st) h' Q)) : GX h0 l (D + 1) mc ms i z pc ls st0 h Q := gx_callS hd hm hn hst0 hst ho (Ret.mono hr (fun v h' z' q => ⟨q.1, by obtain ⟨r, rfl, q2⟩ := q.2; exact q2⟩))
end GXCalls
section GHRows
variable {tbl : List ExceptionTableEntry} {l : Launch} {d mc ms : Nat} {i : MT} {z : ZR} {pc : Nat} {ls st : List AV} {h : HI} {Q : Option AV → HI → ZR → Prop}
theorem gh_iload_n {q : Fin 4} {x : Int} (hd : decode i.2.1 pc = .ok (.iload_n q, 1)) (hv : ls[(q : Nat)]? = some (aI x)) (k : GH tbl l d mc ms i z (pc + 1) ls (aI x :: st) h Q) : GH tbl l d mc ms i z (pc) ls (st) h Q := by
  intro p e s m args below meth c H locs cells slots E ρ lsA hxt hC hS0 hR hS hl
  obtain ⟨hx, hb, hr, hml, hown, hts, hlk, hnm⟩ := id hC
  exact lv_iload_n hx hb hd rfl (lk_at hl hv (by intro q; cases q)) (k p e s m args below meth c H locs cells slots E ρ lsA hxt hC hS0 hR hS hl)
theorem gh_aload_n {q : Fin 4} {a : Nat} (hd : decode i.2.1 pc = .ok (.aload_n q, 1)) (hv : ls[(q : Nat)]? = some (aP a)) (k : GH tbl l d mc ms i z (pc + 1) ls (aP a :: st) h Q) : GH tbl l d mc ms i z (pc) ls (st) h Q := by
  intro p e s m args below meth c H locs cells slots E ρ lsA hxt hC hS0 hR hS hl
  obtain ⟨hx, hb, hr, hml, hown, hts, hlk, hnm⟩ := id hC
  exact lv_aload_n hx hb hd rfl (lk_at hl hv (by intro q; cases q)) (k p e s m args below meth c H locs cells slots E ρ lsA hxt hC hS0 hR hS hl)
theorem gh_aload {q : Nat} {a : Nat} (hd : decode i.2.1 pc = .ok (.aload q, 2)) (hv : ls[q]? = some (aP a)) (k : GH tbl l d mc ms i z (pc + 2) ls (aP a :: st) h Q) : GH tbl l d mc ms i z (pc) ls (st) h Q := by
  intro p e s m args below meth c H locs cells slots E ρ lsA hxt hC hS0 hR hS hl
  obtain ⟨hx, hb, hr, hml, hown, hts, hlk, hnm⟩ := id hC
  exact lv_aload hx hb hd (lk_at hl hv (by intro q; cases q)) (k p e s m args below meth c H locs cells slots E ρ lsA hxt hC hS0 hR hS hl)
theorem gh_iconst {n : Int} (hd : decode i.2.1 pc = .ok (.iconst n, 1)) (k : GH tbl l d mc ms i z (pc + 1) ls (aI n :: st) h Q) : GH tbl l d mc ms i z (pc) ls (st) h Q := by
  intro p e s m args below meth c H locs cells slots E ρ lsA hxt hC hS0 hR hS hl
  obtain ⟨hx, hb, hr, hml, hown, hts, hlk, hnm⟩ := id hC
  exact lv_iconst hx hb hd rfl (k p e s m args below meth c H locs cells slots E ρ lsA hxt hC hS0 hR hS hl)
end GHRows
