/-- a method that makes no cell and moves no reference -/
def Rt (l : Launch) (D : Nat) (j : MT) (z : ZR) (as : List AV) (h : HI) (Q : Option AV → HI → Prop) : Prop := Ret l D 0 0 j z as h (fun v h' z' => z' = z ∧ Q v h')
def RtI (l : Launch) (D : Nat) (j : MT) (z : ZR) (as : List AV) (h : HI) (Q : Int → HI → Prop) : Prop := Rt l D j z as h (fun v h' => ∃ r : Int, v = some (aI r) ∧ Q r h')
def RtV (l : Launch) (D : Nat) (j : MT) (z : ZR) (as : List AV) (h : HI) (Q : HI → Prop) : Prop := Rt l D j z as h (fun v h' => v = none ∧ Q h')
theorem RtI.mono {l : Launch} {D : Nat} {j : MT} {z : ZR} {as : List AV} {h : HI} {Q Q' : Int → HI → Prop} (hr : RtI l D j z as h Q) (hq : ∀ r h', Q r h' → Q' r h') : RtI l D j z as h Q' := Ret.mono hr (fun v h' z' q => ⟨q.1, q.2.choose, q.2.choose_spec.1, hq _ _ q.2.choose_spec.2⟩)
theorem RtV.mono {l : Launch} {D : Nat} {j : MT} {z : ZR} {as : List AV} {h : HI} {Q Q' : HI → Prop} (hr : RtV l D j z as h Q) (hq : ∀ h', Q h' → Q' h') : RtV l D j z as h Q' := Ret.mono hr (fun v h' z' q => ⟨q.1, q.2.1, hq _ q.2.2⟩)
/-- what a method's walk ends with: an int, nothing -/
def qI (z : ZR) (Q : Int → HI → Prop) : Option AV → HI → ZR → Prop := fun v h' z' => z' = z ∧ ∃ r : Int, v = some (aI r) ∧ Q r h'
def qV (z : ZR) (Q : HI → Prop) : Option AV → HI → ZR → Prop := fun v h' z' => z' = z ∧ v = none ∧ Q h'
theorem RtI.of {l : Launch} {D : Nat} {j : MT} {z : ZR} {as : List AV} {h : HI} {Q : Int → HI → Prop} (n : Nat) (hp : plainName j.1.cls = true) (ls : List AV) (hls : apad as ++ List.replicate n aU = ls) (hn : (apad as).length + n = j.2.2.1) (k : G l D 0 0 j z 0 ls [] h (qI z Q)) : RtI l D j z as h Q := Ret.of n hp ls hls hn k
theorem RtV.of {l : Launch} {D : Nat} {j : MT} {z : ZR} {as : List AV} {h : HI} {Q : HI → Prop} (n : Nat) (hp : plainName j.1.cls = true) (ls : List AV) (hls : apad as ++ List.replicate n aU = ls) (hn : (apad as).length + n = j.2.2.1) (k : G l D 0 0 j z 0 ls [] h (qV z Q)) : RtV l D j z as h Q := Ret.of n hp ls hls hn k
section GCall
variable {l : Launch} {D mc ms : Nat} {i : MT} {z : ZR} {pc : Nat} {ls st st0 : List AV} {h : HI} {Q : Option AV → HI → ZR → Prop} {j : MT} {n idx a ci : Nat} {As : List AV}
theorem g_callV (hd : decode i.2.1 pc = .ok (.invokevirtual idx, 3)) (hm : MLv i.1.cls idx j n) (hs : SH a = .inl ci) (hcl : (vwCl[ci]?).map (fun q => q.1) = some j.1.cls) (ha : a < z.2) (hn : As.length = n) (hst0 : st0 = As.reverse ++ aP a :: st) (hst : (st.map acat).sum ≤ 8) (hr : Rt l D j z (aP a :: As) h (fun v h' => G l (D + 1) mc ms i z (pc + 3) ls (v.toList ++ st) h' Q)) : G l (D + 1) mc ms i z pc ls st0 h Q := by
  intro p e s m args below meth c H locs cells slots E ρ lsA hC hS0 hR hS hl
  obtain ⟨hx, hb, hrt, hml, hown, hts, hlk, hnm⟩ := id hC
  have hM := hr E ρ
  obtain ⟨q0, hq0⟩ : ∃ q0, vwCl[ci]? = some q0 := by
    cases hh : vwCl[ci]? with
    | none => rw [hh] at hcl; cases hcl
    | some q0 => exact ⟨q0, rfl⟩
  have hq1 : q0.1 = j.1.cls := by rw [hq0] at hcl; exact Option.some.inj hcl
  have hrv := va_recv hS0.1 hR.1 hq0 (a := ρ a) (q0 := a) (ci := ci) (by rw [gW_at ha, cE_obj hs])
  rw [hq1] at hrv
  have hg : ∀ w ∈ wsV i.1.cls idx j.1.cls j.1 (gws j), w ∈ TB := by
    intro w hw
    rcases List.mem_append.mp hw with hw | hw
    · simp only [List.mem_cons, List.not_mem_nil, or_false] at hw
      rcases hw with rfl | rfl | rfl | rfl
      · exact hm.2.1
      · exact hm.2.2.1
      · exact hm.2.2.2
      · exact hm.1.1
    · exact gws_in hm.1 w hw
  refine g_go (va_runV (As := As.map (cV ρ)) (b := ρ a) (rest := st.map (cV ρ)) ⟨hx, hb, hml, hown, hts⟩ hM (cwV n hts (tb_goodIn hg) rfl rfl rfl ⟨rfl, hm.1.2.2.1, hm.1.2.2.2.1, hm.1.2.2.2.2.1⟩ ⟨Nat.le_refl _, (by have := hm.1.2.2.2.2.2.1; show 8 + (j.2.2.1 + 11) + 44 * D ≤ 44 * (D + 1); omega)⟩) ⟨gPc_blind, hrv, fun U hU hW => ⟨rfl, by rw [hU]; exact (hS0.heap hS).moved hW, by rw [hU]; exact hR⟩⟩ rfl (by simp; exact hn) hl.1 (by show st0.map (cV ρ) = _; rw [hst0]; simp [cV, cR, va_rf]) (lv_room (by rw [acat_sum]; exact hst)) hd ⟨(by show cells + 0 ≤ cells + mc; omega), (by show slots + 0 ≤ slots + ms; omega)⟩) hS (fun v h' z' ρ' H1 locs1 hq hR1 hn1 hρ hS1 => ?_)
  obtain ⟨rfl, hq⟩ := hq
  have eρ : ρ' = ρ := funext fun k => hρ k (Nat.lt_or_ge k z'.2)
  subst eρ
  have k2 := hq p e s m args below meth c H1 locs1 cells slots E ρ' lsA hC hS0 hR1 hS1 hl
  cases v with
  | none => exact k2
  | some v => exact k2
theorem g_callS (hd : decode i.2.1 pc = .ok (.invokestatic idx, 3)) (hm : MLs i.1.cls idx j n) (hn : As.length = n) (hst0 : st0 = As.reverse ++ st) (hst : (st.map acat).sum ≤ 8) (ho : j.1.cls = i.1.cls) (hr : Rt l D j z (As) h (fun v h' => G l (D + 1) mc ms i z (pc + 3) ls (v.toList ++ st) h' Q)) : G l (D + 1) mc ms i z pc ls st0 h Q := by
  intro p e s m args below meth c H locs cells slots E ρ lsA hC hS0 hR hS hl
  obtain ⟨hx, hb, hrt, hml, hown, hts, hlk, hnm⟩ := id hC
  have hM := hr E ρ
  have hg : ∀ w ∈ wsS i.1.cls idx j.1 (gws j), w ∈ TB := by
    intro w hw
    rcases List.mem_append.mp hw with hw | hw
    · simp only [List.mem_cons, List.not_mem_nil, or_false] at hw
      rcases hw with rfl | rfl | rfl
      · exact hm.2.1
      · exact hm.2.2
      · rw [← ho]; exact hm.1.1
    · exact gws_in hm.1 w hw
  refine g_go (va_runS (As := As.map (cV ρ)) (rest := st.map (cV ρ)) ⟨hx, hb, hml, hown, hts⟩ hM (cwS n hts (tb_goodIn hg) rfl rfl rfl ⟨ho, hm.1.2.2.1, hm.1.2.2.2.1, hm.1.2.2.2.2.1⟩ ⟨Nat.le_refl _, (by have := hm.1.2.2.2.2.2.1; show 8 + (j.2.2.1 + 11) + 44 * D ≤ 44 * (D + 1); omega)⟩) ⟨gPc_blind, fun U hU hW => ⟨rfl, by rw [hU]; exact (hS0.heap hS).moved hW, by rw [hU]; exact hR⟩⟩ rfl (by simp; exact hn) hl.1 (by show st0.map (cV ρ) = _; rw [hst0]; simp) (lv_room (by rw [acat_sum]; exact hst)) hd ⟨(by show cells + 0 ≤ cells + mc; omega), (by show slots + 0 ≤ slots + ms; omega)⟩) hS (fun v h' z' ρ' H1 locs1 hq hR1 hn1 hρ hS1 => ?_)
  obtain ⟨rfl, hq⟩ := hq
  have eρ : ρ' = ρ := funext fun k => hρ k (Nat.lt_or_ge k z'.2)
  subst eρ
  have k2 := hq p e s m args below meth c H1 locs1 cells slots E ρ' lsA hC hS0 hR1 hS1 hl
  cases v with
  | none => exact k2
  | some v => exact k2
theorem g_callSN (hd : decode i.2.1 pc = .ok (.invokestatic idx, 3)) (hm : MLsN i.1.cls idx j n) (hn : As.length = n) (hst0 : st0 = As.reverse ++ st) (hst : (st.map acat).sum ≤ 8) (hr : Rt l D j z (As) h (fun v h' => G l (D + 1) mc ms i z (pc + 3) ls (v.toList ++ st) h' Q)) : G l (D + 1) mc ms i z pc ls st0 h Q := by
  intro p e s m args below meth c H locs cells slots E ρ lsA hC hS0 hR hS hl
  obtain ⟨hx, hb, hrt, hml, hown, hts, hlk, hnm⟩ := id hC
  have hM := hr E ρ
  obtain ⟨host, hho⟩ := hm.2.1
  refine g_go (va_runSN (As := As.map (cV ρ)) (rest := st.map (cV ρ)) (host := host) ⟨hx, hb, hml, hown, hts⟩ hM ⟨va_cnB n hts (tb_goodIn (gws_in hm.1)) rfl rfl rfl (hS0.nest hho) (hts _ hm.1.1) ⟨hm.1.2.2.1, hm.1.2.2.2.1, hm.1.2.2.2.2.1⟩ ⟨Nat.le_refl _, (by have := hm.1.2.2.2.2.2.1; show 8 + (j.2.2.1 + 11) + 44 * D ≤ 44 * (D + 1); omega)⟩, hts _ hm.2.2, trivial⟩ ⟨gPc_blind, fun U hU hW => ⟨rfl, by rw [hU]; exact (hS0.heap hS).moved hW, by rw [hU]; exact hR⟩⟩ rfl (by simp; exact hn) hl.1 (by show st0.map (cV ρ) = _; rw [hst0]; simp) (lv_room (by rw [acat_sum]; exact hst)) hd ⟨(by show cells + 0 ≤ cells + mc; omega), (by show slots + 0 ≤ slots + ms; omega)⟩) hS (fun v h' z' ρ' H1 locs1 hq hR1 hn1 hρ hS1 => ?_)
  obtain ⟨rfl, hq⟩ := hq
  have eρ : ρ' = ρ := funext fun k => hρ k (Nat.lt_or_ge k z'.2)
  subst eρ
  have k2 := hq p e s m args below meth c H1 locs1 cells slots E ρ' lsA hC hS0 hR1 hS1 hl
  cases v with
  | none => exact k2
  | some v => exact k2
end GCall
section GCallT
variable {l : Launch} {D mc ms : Nat} {i : MT} {z : ZR} {pc : Nat} {ls st st0 : List AV} {h : HI} {Q : Option AV → HI → ZR → Prop} {j : MT} {n idx a ci : Nat} {As : List AV}
theorem g_callVI (hd : decode i.2.1 pc = .ok (.invokevirtual idx, 3)) (hm : MLv i.1.cls idx j n) (hs : SH a = .inl ci) (hcl : (vwCl[ci]?).map (fun q => q.1) = some j.1.cls) (ha : a < z.2) (hn : As.length = n) (hst0 : st0 = As.reverse ++ aP a :: st) (hst : (st.map acat).sum ≤ 8) (hr : RtI l D j z (aP a :: As) h (fun r h' => G l (D + 1) mc ms i z (pc + 3) ls (aI r :: st) h' Q)) : G l (D + 1) mc ms i z pc ls st0 h Q := g_callV hd hm hs hcl ha hn hst0 hst (Ret.mono hr (fun v h' z' q => ⟨q.1, by obtain ⟨r, rfl, q2⟩ := q.2; exact q2⟩))
theorem g_callVV (hd : decode i.2.1 pc = .ok (.invokevirtual idx, 3)) (hm : MLv i.1.cls idx j n) (hs : SH a = .inl ci) (hcl : (vwCl[ci]?).map (fun q => q.1) = some j.1.cls) (ha : a < z.2) (hn : As.length = n) (hst0 : st0 = As.reverse ++ aP a :: st) (hst : (st.map acat).sum ≤ 8) (hr : RtV l D j z (aP a :: As) h (fun h' => G l (D + 1) mc ms i z (pc + 3) ls st h' Q)) : G l (D + 1) mc ms i z pc ls st0 h Q := g_callV hd hm hs hcl ha hn hst0 hst (Ret.mono hr (fun v h' z' q => ⟨q.1, by obtain ⟨rfl, q2⟩ := q.2; exact q2⟩))
theorem g_callSI (hd : decode i.2.1 pc = .ok (.invokestatic idx, 3)) (hm : MLs i.1.cls idx j n) (hn : As.length = n) (hst0 : st0 = As.reverse ++ st) (hst : (st.map acat).sum ≤ 8) (ho : j.1.cls = i.1.cls) (hr : RtI l D j z (As) h (fun r h' => G l (D + 1) mc ms i z (pc + 3) ls (aI r :: st) h' Q)) : G l (D + 1) mc ms i z pc ls st0 h Q := g_callS hd hm hn hst0 hst ho (Ret.mono hr (fun v h' z' q => ⟨q.1, by obtain ⟨r, rfl, q2⟩ := q.2; exact q2⟩))
theorem g_callSV (hd : decode i.2.1 pc = .ok (.invokestatic idx, 3)) (hm : MLs i.1.cls idx j n) (hn : As.length = n) (hst0 : st0 = As.reverse ++ st) (hst : (st.map acat).sum ≤ 8) (ho : j.1.cls = i.1.cls) (hr : RtV l D j z (As) h (fun h' => G l (D + 1) mc ms i z (pc + 3) ls st h' Q)) : G l (D + 1) mc ms i z pc ls st0 h Q := g_callS hd hm hn hst0 hst ho (Ret.mono hr (fun v h' z' q => ⟨q.1, by obtain ⟨rfl, q2⟩ := q.2; exact q2⟩))
theorem g_callSNI (hd : decode i.2.1 pc = .ok (.invokestatic idx, 3)) (hm : MLsN i.1.cls idx j n) (hn : As.length = n) (hst0 : st0 = As.reverse ++ st) (hst : (st.map acat).sum ≤ 8) (hr : RtI l D j z (As) h (fun r h' => G l (D + 1) mc ms i z (pc + 3) ls (aI r :: st) h' Q)) : G l (D + 1) mc ms i z pc ls st0 h Q := g_callSN hd hm hn hst0 hst (Ret.mono hr (fun v h' z' q => ⟨q.1, by obtain ⟨r, rfl, q2⟩ := q.2; exact q2⟩))
theorem g_callSNV (hd : decode i.2.1 pc = .ok (.invokestatic idx, 3)) (hm : MLsN i.1.cls idx j n) (hn : As.length = n) (hst0 : st0 = As.reverse ++ st) (hst : (st.map acat).sum ≤ 8) (hr : RtV l D j z (As) h (fun h' => G l (D + 1) mc ms i z (pc + 3) ls st h' Q)) : G l (D + 1) mc ms i z pc ls st0 h Q := g_callSN hd hm hn hst0 hst (Ret.mono hr (fun v h' z' q => ⟨q.1, by obtain ⟨rfl, q2⟩ := q.2; exact q2⟩))
theorem g_retI {x : Int} {Q0 : Int → HI → Prop} (hd : decode i.2.1 pc = .ok (.ireturn, 1)) (hr0 : i.2.2.2 = some .int) (k : Q0 x h) : G l D mc ms i z pc ls [aI x] h (qI z Q0) := g_reti hd hr0 ⟨rfl, x, rfl, k⟩
theorem g_retZ {x : Int} {Q0 : Int → HI → Prop} (hd : decode i.2.1 pc = .ok (.ireturn, 1)) (hr0 : i.2.2.2 = some .boolean) (hx : x = 0 ∨ x = 1) (k : Q0 x h) : G l D mc ms i z pc ls [aI x] h (qI z Q0) := g_retz hd hr0 hx ⟨rfl, x, rfl, k⟩
theorem g_retV {Q0 : HI → Prop} (hd : decode i.2.1 pc = .ok (.return_, 1)) (hr0 : i.2.2.2 = none) (k : Q0 h) : G l D mc ms i z pc ls [] h (qV z Q0) := g_retv hd hr0 ⟨rfl, rfl, k⟩
end GCallT
