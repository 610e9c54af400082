/-! calls that throw, caught; calls of a method with a table -/
section TH3
variable {l : Launch} {D mc ms : Nat} {i : MT} {z : ZR} {pc : Nat} {ls st st0 : List AV} {h : HI} {Q : Option AV → HI → ZR → Prop} {j : MT} {n idx a ci : Nat} {As : List AV}
theorem lk_keep {ρ : Nat → Nat} {q5 x : Nat} (hU : ls[q5]? = some aU) (hok : lnok ls q5 = true) : ∀ q ∈ lk ρ 0 ls, q ∈ ((q5, Value.ref x) :: (lk ρ 0 ls).filter (fun q => !(q.1 == q5) && !(q.1 + 1 == q5 && q.2.category == 2))) := by
  intro q hq
  obtain ⟨k, v, h1, h2, h3⟩ := lk_mem.mp hq
  rw [Nat.zero_add] at h3
  refine List.mem_cons_of_mem _ (List.mem_filter.mpr ⟨hq, ?_⟩)
  have hk : k ≠ q5 := fun e => by
    subst e
    rw [hU] at h1
    exact h2 (Option.some.inj h1).symm
  rw [h3]
  have e1 : (k == q5) = false := by simpa using hk
  simp only [e1, Bool.not_false, Bool.true_and, Bool.not_eq_true', Bool.and_eq_false_iff]
  by_cases hj1 : k + 1 = q5
  · right
    subst hj1
    match v, h1, h2 with
    | .inl x, h1, h2 => rfl
    | .inr (.inl x), h1, h2 => simp [lnok, h1] at hok
    | .inr (.inr (.inl o)), h1, h2 => cases o <;> rfl
    | .inr (.inr (.inr ())), h1, h2 => exact absurd rfl h2
  · left
    simpa using hj1
theorem gh_callX {mc' ms' mcR msR q5 : Nat} {x : ExceptionTableEntry} (hd : decode i.2.1 pc = .ok (.invokevirtual idx, 3)) (hm : MLv i.1.cls idx j n) (hs : SH a = .inl ci) (hcl : (vwCl[ci]?).map (fun q => q.1) = some j.1.cls) (ha : a < z.2) (hn : As.length = n) (hst0 : st0 = As.reverse ++ aP a :: st) (hst : (st.map acat).sum ≤ 8) (hmc : mc' + mcR = mc) (hms : ms' + msR = ms) (hi : i.1.cls = RL) (hcov : covers x pc = true) (hct : x.catchType = 13) (hd5 : decode i.2.1 x.handlerPc = .ok (.astore q5, 2)) (h5 : q5 < i.2.2.1) (hU : ls[q5]? = some aU) (hok : lnok ls q5 = true)
    (hr : RetX l D mc' ms' j z (aP a :: As) h) (k : G l (D + 1) mcR msR i z (x.handlerPc + 2) ls [] h Q) : GH [x] l (D + 1) mc ms i z pc ls st0 h Q := by
  intro p e s m args below meth c H locs cells slots E ρ lsA hxt hC hS0 hR hS hl
  obtain ⟨hx, hb, hrt, hml, hown, hts, hlk, hnm⟩ := id hC
  have hM := hr E ρ
  obtain ⟨q0, hq0⟩ : ∃ q0, vwCl[ci]? = some q0 := by
    cases hh : vwCl[ci]? with
    | none => rw [hh] at hcl; cases hcl
    | some q0 => exact ⟨q0, rfl⟩
  have hq1 : q0.1 = j.1.cls := by rw [hq0] at hcl; exact Option.some.inj hcl
  have hrv := va_recv hS0.1 hR.1 hq0 (a := ρ a) (q0 := a) (ci := ci) (by rw [gW_at ha, cE_obj hs])
  rw [hq1] at hrv
  have hg : ∀ w ∈ wsV i.1.cls idx j.1.cls j.1 (gws j), w ∈ TB := by
    intro w hw
    rcases List.mem_append.mp hw with hw | hw
    · simp only [List.mem_cons, List.not_mem_nil, or_false] at hw
      rcases hw with rfl | rfl | rfl | rfl
      · exact hm.2.1
      · exact hm.2.2.1
      · exact hm.2.2.2
      · exact hm.1.1
    · exact gws_in hm.1 w hw
  subst hmc
  subst hms
  have run := vx_runV (meth := meth) (R := gRm (D + 1) (cells + (mc' + mcR)) (slots + (ms' + msR))) (As := As.map (cV ρ)) (b := ρ a) (rest := st.map (cV ρ)) (below := below) (locs := locs) (cells := cells) (slots := slots) (e := e) (g := F0 m pc lsA (st0.map (cV ρ))) ⟨hx, hb, hml, hown, hts⟩ hM (cwV n hts (tb_goodIn hg) rfl rfl rfl ⟨rfl, hm.1.2.2.1, hm.1.2.2.2.1, hm.1.2.2.2.2.1⟩ ⟨Nat.le_refl _, (by have := hm.1.2.2.2.2.2.1; show 8 + (j.2.2.1 + 11) + 44 * D ≤ 44 * (D + 1); omega)⟩) ⟨gPc_blind, hrv, fun U hU hW => ⟨rfl, by rw [hU]; exact (hS0.heap hS).moved hW, by rw [hU]; exact hR⟩⟩ rfl (by simp; exact hn) hl.1 (by show st0.map (cV ρ) = _; rw [hst0]; simp [cV, cR, va_rf]) (lv_room (by rw [acat_sum]; exact hst)) hd ⟨(by show cells + mc' ≤ cells + (mc' + mcR); omega), (by show slots + ms' ≤ slots + (ms' + msR); omega)⟩
  intro T hT X
  rcases run T hT X with ⟨v, st₀, t, T', L, h0, X', hL, e1, e2, ⟨⟨w, h', z', ρ', hv, hp, hb', hn', hρ⟩, hF⟩, go⟩ | ⟨q, st₀, t, T', L, EX, ce, h0, X', hL, e1, e2, ⟨eE, hR1, hF⟩, hce, hcv, hclX, go⟩
  · exact hp.elim
  · subst eE
    obtain ⟨k1, k2, k3⟩ := vx_keep h0 e1 hS (fun _ _ h => h) (fun _ h => h) hL hF
    rw [hi] at hown
    have wx : vx_W p l e (gRm (D + 1) (cells + (mc' + mcR)) (slots + (ms' + msR))) s m args below meth c T'.heap (locs ++ L) (cells + mc') (slots + ms') (MQ below (gQ E ρ z.2 Q) args s (cells + (mc' + mcR)) (slots + (ms' + msR)) (gA E)) (F0 m pc lsA (st.map (cV ρ))) q := by
      refine vx_catch (own := RL) (name := nseC) (E := nseC) (ce := ce) hown [] x [] (by rw [hxt]; rfl) (fun _ h => by cases h) hcov (by rw [hct]; decide) (by rw [hct]; exact hts _ nse_link.2.2) (hS0.face nse_st.2.2.2 rfl rfl) (by rw [e1]; exact hce) hcv hclX ?_
      refine lv_astore hx hb hd5 hl h5 rfl (fun lsB hlB => ?_)
      have k2 := k p e s m args below meth c T'.heap (locs ++ L) (cells + mc') (slots + ms') E ρ lsB hC hS0 (by rw [e1]; exact hR1) k3 (lv_has_mono hlB (lk_keep hU hok))
      have a1 : cells + mc' + mcR = cells + (mc' + mcR) := by omega
      have a2 : slots + ms' + msR = slots + (ms' + msR) := by omega
      rw [a1, a2] at k2
      exact k2
    obtain ⟨t2, a1, b1⟩ := wx T' rfl X'
    exact ⟨t2, go.trans a1, b1⟩
def MLw (own : String) (idx : Nat) (j : MT) (hh : List (Nat × Nat × Nat × Nat)) (n : Nat) : Prop := Cond.initialized j.1.cls ∈ TB ∧ Cond.codeWith j.1 j.2.1 j.2.2.1 j.2.2.2 hh ∈ TB ∧ (j.1.cls ≠ "java/lang/invoke/MethodHandle" ∧ j.1.cls ≠ "java/lang/invoke/VarHandle" ∧ (parseMethodDescriptor j.1.desc).map (fun d => d.parameters.length) = some n) ∧ j.2.2.1 ≤ 25 ∧ Cond.methodLink own idx j.1 ∈ TB ∧ Cond.static j.1 ∈ TB
theorem g_callSW {mc' ms' mcR msR : Nat} {hh : List (Nat × Nat × Nat × Nat)} (hd : decode i.2.1 pc = .ok (.invokestatic idx, 3)) (hm : MLw i.1.cls idx j hh n) (hn : As.length = n) (hst0 : st0 = As.reverse ++ st) (hst : (st.map acat).sum ≤ 8) (hmc : mc' + mcR = mc) (hms : ms' + msR = ms) (hls : ls.all (avlt z.2) = true) (hsts : st.all (avlt z.2) = true)
    (hr : RetW l D mc' ms' j hh z As h (fun v h' z' => ∃ r : Int, v = some (aI r) ∧ G l (D + 1) mcR msR i z' (pc + 3) ls (aI r :: st) h' Q)) : G l (D + 1) mc ms i z pc ls st0 h Q := by
  intro p e s m args below meth c H locs cells slots E ρ lsA hC hS0 hR hS hl
  obtain ⟨hx, hb, hrt, hml, hown, hts, hlk, hnm⟩ := id hC
  have hM := hr E ρ
  have hg : ∀ w ∈ va_wsS i.1.cls idx j.1 (Cond.codeWith j.1 j.2.1 j.2.2.1 j.2.2.2 hh :: TB), w ∈ TB := by
    intro w hw
    rcases List.mem_append.mp hw with hw | hw
    · simp only [List.mem_cons, List.not_mem_nil, or_false] at hw
      rcases hw with rfl | rfl | rfl
      · exact hm.2.2.2.2.1
      · exact hm.2.2.2.2.2
      · exact hm.1
    · rcases List.mem_cons.mp hw with rfl | hw
      · exact hm.2.1
      · exact hw
  subst hmc
  subst hms
  refine g_go (vx_runSW (As := As.map (cV ρ)) (rest := st.map (cV ρ)) ⟨hx, hb, hml, hown, hts⟩ hM (vx_cwSW n hts (tb_goodIn hg) rfl rfl rfl hm.2.2.1 ⟨Nat.le_refl _, (by have := hm.2.2.2.1; show 8 + (j.2.2.1 + 11) + 44 * D ≤ 44 * (D + 1); omega)⟩) ⟨gPc_blind, fun U hU hW => ⟨rfl, by rw [hU]; exact (hS0.heap hS).moved hW, by rw [hU]; exact hR⟩⟩ rfl (by simp; exact hn) hl.1 (by show st0.map (cV ρ) = _; rw [hst0]; simp) (lv_room (by rw [acat_sum]; exact hst)) hd ⟨(by show cells + mc' ≤ cells + (mc' + mcR); omega), (by show slots + ms' ≤ slots + (ms' + msR); omega)⟩) hS (fun v h' z' ρ' H1 locs1 hq hR1 hn1 hρ hS1 => ?_)
  obtain ⟨r, rfl, hG⟩ := hq
  have hz1 := hR1.2.2.1
  have k2 := hG p e s m args below meth c H1 locs1 (cells + mc') (slots + ms') E ρ' lsA hC hS0 hR1 hS1 (lk_rho hz1 hρ hls hl)
  have e1 : cells + mc' + mcR = cells + (mc' + mcR) := by omega
  have e2 : slots + ms' + msR = slots + (ms' + msR) := by omega
  rw [e1, e2, List.map_cons, st_rho hz1 hρ hsts] at k2
  exact W.postm (fun t => MQ_rho hn1 hρ) k2
end TH3
