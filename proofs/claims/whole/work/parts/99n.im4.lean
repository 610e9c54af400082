/-! image at a new place: tools, the walk -/
theorem SR_cp2 {u v : Nat} {h h' : HI} {s s' nm nm' : Int → Int} (c : cpd u v h h') (i : SR (stk u h) s nm) (zr : ∀ j : Int, j < 0 ∨ 200 ≤ j → stk v h 20 j = 0 ∧ stk v h 21 j = 0 ∧ stk v h 22 j = 0 ∧ stk v h 23 j = 0) (es : agS 0 2818 s s') (en : agS 6 13 nm nm') : SR (stk v h') s' nm' := by
  obtain ⟨_, cA, cN⟩ := c
  have A : ∀ (k : Nat) (n : Int), (k, n) ∈ cpA → k < 30 → agR n (stk u h k) (stk v h' k) := fun k n m hk j j0 j1 => by
    rw [stk_at _ _ hk, stk_at _ _ hk]; exact (cA _ m j).1 j0 j1
  have N : ∀ (k : Nat) (j : Int), (k, j) ∈ cpN → k < 30 → stk v h' k j = stk u h k j := fun k j m hk => by
    rw [stk_at _ _ hk, stk_at _ _ hk]; exact cN _ m
  have E : ∀ (a b : Int), 0 ≤ a → b ≤ 2818 → agS a b s s' := fun a b a0 b1 j j0 j1 => es j (by omega) (by omega)
  have ev : ∀ j : Int, 0 ≤ j → j ≤ 2818 → s' j = s j := es
  have F : ∀ k : Nat, (k, (200 : Int)) ∈ cpA → k < 30 → (∀ j : Int, j < 0 ∨ 200 ≤ j → stk u h k j = 0 ∧ stk v h k j = 0) → stk v h' k = stk u h k := by
    intro k m hk zz
    funext j
    by_cases e : 0 ≤ j ∧ j < 200
    · exact A k 200 m hk j e.1 e.2
    · have q := zz j (by omega)
      rw [q.1, stk_at _ _ hk]
      have := (cA _ m j).2 (by simp only; omega)
      simp only at this
      rw [this]
      have q2 := q.2
      rw [stk_at _ _ hk] at q2
      exact q2
  obtain ⟨ia, ic, ir, is, ip, iu⟩ := i
  have e20 := F 20 (by decide) (by decide) (fun j hj => ⟨(ir.2.2.2 j hj).1, (zr j hj).1⟩)
  have e21 := F 21 (by decide) (by decide) (fun j hj => ⟨(ir.2.2.2 j hj).2.1, (zr j hj).2.1⟩)
  have e22 := F 22 (by decide) (by decide) (fun j hj => ⟨(ir.2.2.2 j hj).2.2.1, (zr j hj).2.2.1⟩)
  have e23 := F 23 (by decide) (by decide) (fun j hj => ⟨(ir.2.2.2 j hj).2.2.2, (zr j hj).2.2.2⟩)
  have n13 := N 1 3 (by decide) (by decide)
  have n14 := N 1 4 (by decide) (by decide)
  have n03 := N 0 3 (by decide) (by decide)
  have n05 := N 0 5 (by decide) (by decide)
  have n010 := N 0 10 (by decide) (by decide)
  have et : td (stk v h') = td (stk u h) := td_eq e20 e21 e22 e23 n05 n03 n13
  have c60 := ic.1.2.1
  refine ⟨ia.to n13 n14 (A 3 8 (by decide) (by decide)) (A 4 9 (by decide) (by decide)) (E 0 10 (by decide) (by decide)) en, ic.to n03 n14 (A 19 60 (by decide) (by decide)) (ev 11 (by decide) (by decide)) (E 17 76 (by decide) (by decide)), ir.to e20 e21 e22 e23 n05 n03 n13 (ev 12 (by decide) (by decide)) (E 77 876 (by decide) (by decide)), is.to n010 n03 (A 24 60 (by decide) (by decide)) (A 25 60 (by decide) (by decide)) (A 26 60 (by decide) (by decide)) (A 27 60 (by decide) (by decide)) (A 28 60 (by decide) (by decide)) (A 29 60 (by decide) (by decide)) c60 (ev 9 (by decide) (by decide)) (ev 10 (by decide) (by decide)) (ev 13 (by decide) (by decide)) (E 877 1676 (by decide) (by decide)), ?_, iu.to (N 5 1 (by decide) (by decide)) (N 5 2 (by decide) (by decide)) (A 6 40 (by decide) (by decide)) (ev 16 (by decide) (by decide)) (E 2627 2818 (by decide) (by decide))⟩
  refine ip.to (N 7 0 (by decide) (by decide)) (N 7 7 (by decide) (by decide)) c60 (by rw [n03]; exact Int.le_refl _) (fun c c0 c1 => by rw [n03] at c1; omega) (fun c c0 c1 => A 8 60 (by decide) (by decide) c c0 (by omega)) (A 9 400 (by decide) (by decide)) (A 10 10 (by decide) (by decide)) (A 11 10 (by decide) (by decide)) (A 12 10 (by decide) (by decide)) (A 13 10 (by decide) (by decide)) (A 14 30 (by decide) (by decide)) (A 15 30 (by decide) (by decide)) (A 16 30 (by decide) (by decide)) (A 17 30 (by decide) (by decide)) (fun c q => by rw [et]; exact q) (ev 14 (by decide) (by decide)) (ev 15 (by decide) (by decide)) (E 1677 2626 (by decide) (by decide))
theorem evf_keep : ∀ (ev : List (Nat × Nat × Nat × Nat)) (n a j : Nat) (acc : Option Nat), a < n → ev.all (fun e => e.1 == 0 || !(e.2.1 == a)) = true → evf ev n a j acc = acc
  | [], _, _, _, _, _, _ => rfl
  | (k, a', j', v) :: ev, n, a, j, acc, h, q => by
    simp only [List.all_cons, Bool.and_eq_true] at q
    cases k with
    | zero =>
      show evf ev (n + 1) a j (if a = n then none else acc) = acc
      rw [if_neg (by omega)]
      exact evf_keep ev (n + 1) a j acc (by omega) q.2
    | succ k =>
      have ha : ¬ a = a' := by
        intro z
        subst z
        simp at q
      show evf ev n a j (if a = a' ∧ j = j' then some v else acc) = acc
      rw [if_neg (fun z => ha z.1)]
      exact evf_keep ev n a j acc h q.2
theorem evf_new : ∀ (ev : List (Nat × Nat × Nat × Nat)) (n a j : Nat) (acc acc' : Option Nat), n ≤ a → a < evn ev n → evf ev n a j acc = evf ev n a j acc'
  | [], n, a, j, acc, acc', h, q => by
    have : a < n := q
    omega
  | (k, a', j', v) :: ev, n, a, j, acc, acc', h, q => by
    cases k with
    | zero =>
      show evf ev (n + 1) a j (if a = n then none else acc) = evf ev (n + 1) a j (if a = n then none else acc')
      have q' : a < evn ev (n + 1) := q
      by_cases c : a = n
      · rw [if_pos c, if_pos c]
      · rw [if_neg c, if_neg c]
        exact evf_new ev (n + 1) a j acc acc' (by omega) q'
    | succ k =>
      show evf ev n a j (if a = a' ∧ j = j' then some v else acc) = evf ev n a j (if a = a' ∧ j = j' then some v else acc')
      have q' : a < evn ev n := q
      by_cases c : a = a' ∧ j = j'
      · rw [if_pos c, if_pos c]
      · rw [if_neg c, if_neg c]
        exact evf_new ev n a j acc acc' h q'
/-- the heap with nothing beyond its cells -/
def hcl (h : HI) (n : Nat) : HI := fun a b => if n ≤ a ∧ a < 1000000 then 0 else h a b
theorem hcl_lo {h : HI} {n a : Nat} (ha : a < n ∨ 1000000 ≤ a) : hcl h n a = h a := by
  funext b
  unfold hcl
  rw [if_neg (by omega)]
theorem hcl_far {h : HI} {n N : Nat} (hN : n ≤ N) : ∀ a q, N ≤ a → a < 1000000 → hcl h n a q = 0 := fun a q h1 h2 => by
  unfold hcl
  rw [if_pos ⟨by omega, h2⟩]
/-- a new stock at u -/
def hnw (h : HI) (u : Nat) : HI := fun a b => if a < u ∨ u + 30 ≤ a then h a b else if a = u + 4 then lawv 2 b else 0
section GHC
variable {l : Launch} {d mc ms : Nat} {i : MT} {z : ZR} {pc : Nat} {ls st : List AV} {h h' : HI} {Q : Option AV → HI → ZR → Prop}
theorem g_hc (hz1 : z.2 ≤ 1000000) (hh : ∀ a, a < z.2 ∨ 1000000 ≤ a → h' a = h a) (k : G l d mc ms i z pc ls st h' Q) : G l d mc ms i z pc ls st h Q := by
  intro p e s m args below meth c H locs cells slots E ρ lsA hC hS0 hR hS hl
  have eW : gW (geC E) ρ h' z = gW (geC E) ρ h z := by
    unfold gW
    apply List.map_congr_left
    intro a ha
    rw [cE_same (hh a (Or.inl (List.mem_range.mp ha))) rfl]
  refine k p e s m args below meth c H locs cells slots E ρ lsA hC hS0 ⟨by rw [eW]; exact hR.1, by rw [eW]; exact hR.2.1, hR.2.2.1, hR.2.2.2.1, hR.2.2.2.2.1, ?_⟩ hS hl
  have q := hR.2.2.2.2.2
  exact ⟨by rw [hh 1000004 (Or.inr (by decide))]; exact q.1, fun j hj => by rw [hh 1000003 (Or.inr (by decide))]; exact q.2 j hj⟩
end GHC
section GCVM
variable {l : Launch} {D mc ms : Nat} {i : MT} {z : ZR} {pc : Nat} {ls st st0 : List AV} {h : HI} {Q : Option AV → HI → ZR → Prop} {j : MT} {n idx a ci : Nat} {As : List AV}
theorem g_callVM {mc' ms' mcR msR : Nat} (hd : decode i.2.1 pc = .ok (.invokevirtual idx, 3)) (hm : MLv i.1.cls idx j n) (hs : SH a = .inl ci) (hcl : (vwCl[ci]?).map (fun q => q.1) = some j.1.cls) (ha : a < z.2) (hn : As.length = n) (hst0 : st0 = As.reverse ++ aP a :: st) (hst : (st.map acat).sum ≤ 8) (hmc : mc' + mcR = mc) (hms : ms' + msR = ms) (hls : ls.all (avlt z.2) = true) (hsts : st.all (avlt z.2) = true)
    (hr : Ret l D mc' ms' j z (aP a :: As) h (fun v h' z' => ∃ r : Int, v = some (aI r) ∧ G l (D + 1) mcR msR i z' (pc + 3) ls (aI r :: st) h' Q)) : G l (D + 1) mc ms i z pc ls st0 h Q := by
  intro p e s m args below meth c H locs cells slots E ρ lsA hC hS0 hR hS hl
  obtain ⟨hx, hb, hrt, hml, hown, hts, hlk, hnm⟩ := id hC
  have hM := hr E ρ
  obtain ⟨q0, hq0⟩ : ∃ q0, vwCl[ci]? = some q0 := by
    cases hh : vwCl[ci]? with
    | none => rw [hh] at hcl; cases hcl
    | some q0 => exact ⟨q0, rfl⟩
  have hq1 : q0.1 = j.1.cls := by rw [hq0] at hcl; exact Option.some.inj hcl
  have hrv := va_recv hS0.1 hR.1 hq0 (a := ρ a) (q0 := a) (ci := ci) (by rw [gW_at ha, cE_obj hs])
  rw [hq1] at hrv
  have hg : ∀ w ∈ wsV i.1.cls idx j.1.cls j.1 (gws j), w ∈ TB := by
    intro w hw
    rcases List.mem_append.mp hw with hw | hw
    · simp only [List.mem_cons, List.not_mem_nil, or_false] at hw
      rcases hw with rfl | rfl | rfl | rfl
      · exact hm.2.1
      · exact hm.2.2.1
      · exact hm.2.2.2
      · exact hm.1.1
    · exact gws_in hm.1 w hw
  subst hmc
  subst hms
  refine g_go (va_runV (As := As.map (cV ρ)) (b := ρ a) (rest := st.map (cV ρ)) ⟨hx, hb, hml, hown, hts⟩ hM (cwV n hts (tb_goodIn hg) rfl rfl rfl ⟨rfl, hm.1.2.2.1, hm.1.2.2.2.1, hm.1.2.2.2.2.1⟩ ⟨Nat.le_refl _, (by have := hm.1.2.2.2.2.2.1; show 8 + (j.2.2.1 + 11) + 44 * D ≤ 44 * (D + 1); omega)⟩) ⟨gPc_blind, hrv, fun U hU hW => ⟨rfl, by rw [hU]; exact (hS0.heap hS).moved hW, by rw [hU]; exact hR⟩⟩ rfl (by simp; exact hn) hl.1 (by show st0.map (cV ρ) = _; rw [hst0]; simp [cV, cR, va_rf]) (lv_room (by rw [acat_sum]; exact hst)) hd ⟨(by show cells + mc' ≤ cells + (mc' + mcR); omega), (by show slots + ms' ≤ slots + (ms' + msR); omega)⟩) hS (fun v h' z' ρ' H1 locs1 hq hR1 hn1 hρ hS1 => ?_)
  obtain ⟨r, rfl, hG⟩ := hq
  have hz1 := hR1.2.2.1
  have k2 := hG p e s m args below meth c H1 locs1 (cells + mc') (slots + ms') E ρ' lsA hC hS0 hR1 hS1 (lk_rho hz1 hρ hls hl)
  have e1 : cells + mc' + mcR = cells + (mc' + mcR) := by omega
  have e2 : slots + ms' + msR = slots + (ms' + msR) := by omega
  rw [e1, e2, List.map_cons, st_rho hz1 hρ hsts] at k2
  exact W.postm (fun t => MQ_rho hn1 hρ) k2
end GCVM
set_option maxRecDepth 20000 in
theorem ev_len144 : EV144.length = 59 := by decide +kernel
set_option maxRecDepth 20000 in
theorem zi_tab144 : (List.range 30).all (fun q => match SH (144 + q) with | .inl ci => (List.range (fN ci)).all (fun j => evf EV144 144 (144 + q) j none == rlA (144 + q) j) | .inr (t, _) => Nat.ble t 3) = true := by decide +kernel
set_option maxRecDepth 20000 in
theorem zi_old144 : EV144.all (fun e => e.1 == 0 || Nat.ble 144 e.2.1) = true ∧ evn EV144 144 = 174 := by decide +kernel
theorem zi_end144 {ζ : ZP} (a j : Nat) : (zi144 ζ 59).1 a j = evf EV144 144 a j ((zz ζ).1 a j) := by
  have h := zev_evf EV144 ((zz ζ).1, 144) a j
  rw [ev_len144] at h
  exact h
theorem zi_lo144 {ζ : ZP} {a : Nat} (ha : a < 144) (j : Nat) : (zi144 ζ 59).1 a j = (zz ζ).1 a j := by
  rw [zi_end144, evf_keep EV144 144 a j _ ha]
  refine List.all_eq_true.mpr (fun e he => ?_)
  have := List.all_eq_true.mp zi_old144.1 e he
  simp only [Bool.or_eq_true, beq_iff_eq, Nat.ble_eq, Bool.not_eq_true', beq_eq_false_iff_ne] at this ⊢
  omega
set_option maxRecDepth 20000 in
theorem sh_t144 : (List.range 144).all (fun a => match SH a with | .inl _ => !(a == 33) | .inr (t, _) => Nat.ble t 3 || a == 33) = true := by decide +kernel
theorem zi_zz144 {ζ ζ1 : ZP} {y : Nat} (e1 : ζ1.1 = ζ.1) (e2 : ζ1.2.1 = ζ.2.1) (e3 : ∀ j : Nat, (if j = 0 then ζ1.2.2.1 else if j = 1 then ζ1.2.2.2.1 else none) = if j = y then some 144 else (if j = 0 then ζ.2.2.1 else if j = 1 then ζ.2.2.2.1 else none)) : ∀ a, a < 174 → (∀ ci, SH a = .inl ci → ∀ j, j < fN ci → (zz ζ1).1 a j = ru (zi144 ζ 59).1 33 y (some 144) a j) ∧ (∀ t len, SH a = .inr (t, len) → 3 < t → ∀ j, (zz ζ1).1 a j = ru (zi144 ζ 59).1 33 y (some 144) a j) := by
  intro a ha
  by_cases c : a < 144
  · have tab := List.all_eq_true.mp sh_t144 a (List.mem_range.mpr c)
    constructor
    · intro ci hs j hj
      rw [hs] at tab
      simp only [Bool.not_eq_true', beq_eq_false_iff_ne] at tab
      unfold ru
      rw [if_neg (fun q => tab q.1), zi_lo144 c]
      unfold zz
      simp only
      rw [if_neg tab, if_neg tab, e1, e2]
    · intro t len hs ht j
      rw [hs] at tab
      simp only [Bool.or_eq_true, Nat.ble_eq, beq_iff_eq] at tab
      have h33 : a = 33 := by omega
      subst h33
      unfold ru
      rw [zi_lo144 (by decide)]
      unfold zz
      simp only [if_true, true_and]
      exact e3 j
  · obtain ⟨q, rfl⟩ : ∃ q, a = 144 + q := ⟨a - 144, by omega⟩
    have tab := List.all_eq_true.mp zi_tab144 q (List.mem_range.mpr (by omega))
    have ne : 144 + q ≠ 33 := by omega
    have ne0 : ¬ (144 + q = 0 ∧ True) := by omega
    constructor
    · intro ci hs j hj
      rw [hs] at tab
      have t2 := beq_iff_eq.mp (List.all_eq_true.mp tab j (List.mem_range.mpr hj))
      unfold ru
      rw [if_neg (fun z => ne z.1), zi_end144, evf_new EV144 144 (144 + q) j _ none (by omega) (by rw [zi_old144.2]; omega), t2]
      unfold zz
      simp only
      rw [if_neg ne, if_neg (by omega), if_neg (by omega)]
    · intro t len hs ht j
      rw [hs] at tab
      simp only [Nat.ble_eq] at tab
      omega
theorem e_X11_image_new144 {l : Launch} {D y : Nat} {ζ ζ1 : ZP} {h : HI} {Q : HI → Prop} (hn : ζ.2.2.2.2 = 144) (hz : zb ((zz ζ).1, 144)) (hy : y < 2) (ho : (zz ζ).1 33 y = none) (hn1 : ζ1.2.2.2.2 = 174) (ho1 : (zz ζ1).1 33 y = some 144) (conv : ∀ a, a < 174 → (∀ ci, SH a = .inl ci → ∀ j, j < fN ci → (zz ζ1).1 a j = ru (zi144 ζ 59).1 33 y (some 144) a j) ∧ (∀ t len, SH a = .inr (t, len) → 3 < t → ∀ j, (zz ζ1).1 a j = ru (zi144 ζ 59).1 33 y (some 144) a j)) (w : RtV l (D + 2) mX5_copyFrom (zz ζ1) [aP 144, aP 3] (hnw h 144) Q) : Ret l (D + 3) 30 1984 mX11_image (zz ζ) [aP 0, aI y] h (fun v h' z' => v = some (aI 1) ∧ z' = zz ζ1 ∧ Q h') := by
  have hm : 144 ≤ ζ.2.2.2.2 := by omega
  have hm1 : 144 ≤ ζ1.2.2.2.2 := by omega
  refine Ret.of 0 pn_X11 [aP 0, aI y] rfl rfl ?_
  refine g_iload_n dX11_image_0 rfl ?_
  refine g_iconst dX11_image_1 ?_
  refine g_iconst dX11_image_2 ?_
  refine g_callSI (n := 3) (As := [aI y, aI 0, aI 1]) (st := []) dX11_image_3 ml_X11_145 rfl rfl (Nat.le_of_ble_eq_true rfl) rfl (s_within hm (by constructor <;> omega) (by decide) (by decide) ?_)
  rw [if_pos (by omega)]
  refine g_if_ne (tgt := 11) dX11_image_6 rfl (by decide) (iteP (by decide) ?_)
  refine g_aload_n dX11_image_11 rfl ?_
  refine g_getR dX11_image_12 fl_X11_23 sh_0 (al_0 hm) (fun _ _ _ => rfl) rf_0_2 ?_
  refine g_iload_n dX11_image_15 rfl ?_
  refine g_aald (v := none) dX11_image_16 sh_33 (al_33 hm) (Nat.le_of_ble_eq_true rfl) ⟨by omega, by omega⟩ ho ?_
  refine g_nonnullN dX11_image_17 ?_
  refine g_aload_n dX11_image_20 rfl ?_
  refine g_getR dX11_image_21 fl_X11_23 sh_0 (al_0 hm) (fun _ _ _ => rfl) rf_0_2 ?_
  refine g_iload_n dX11_image_24 rfl ?_
  refine g_zc (z' := zi144 ζ 0) hn.symm (fun _ _ => rfl) ?_
  refine g_hc (h' := hcl h 144) (by rw [zn_zi144_0]; decide) (fun a ha => hcl_lo (by rw [zn_zi144_0] at ha; exact ha)) ?_
  refine g_new0 (n := 144) (z' := zi144 ζ 1) (mc' := 29) (ms' := 1967) zn_zi144_0 zi144_1 dX11_image_25 nw_X11_16 sh_144 (zb_zi144 hz 0) (by decide) (fun q => hcl_far (Nat.le_refl _) 144 q (by decide) (by decide)) rfl rfl rfl rfl ?_
  refine g_dup dX11_image_28 rfl ?_
  refine g_callIN (n := 0) (As := []) (st := [aP 144, aI y, aP 33]) (mc' := 29) (ms' := 1967) (mcR := 0) (msR := 0) dX11_image_29 ml_X11_18 rfl rfl (Nat.le_of_ble_eq_true rfl) rfl rfl rfl rfl (Ret.mono (k_X5_init_i_144 hz (hcl_far (by decide))) (fun v h' z' q => ?_))
  obtain ⟨rfl, rfl, rfl⟩ := q
  refine ⟨rfl, ?_⟩
  refine g_aast (x := y) (len := 2) dX11_image_32 sh_33 (by rw [zn_zi144_59]; decide) (by decide) hy sh_144 (by rw [zn_zi144_59]; decide) ?_
  refine g_zc2 (z' := zz ζ1) (by show ζ1.2.2.2.2 = (zi144 ζ 59).2; rw [zn_zi144_59]; exact hn1) (fun a ha => conv a (by have : a < (zi144 ζ 59).2 := ha; rw [zn_zi144_59] at this; exact this)) ?_
  refine g_hc (h' := hnw h 144) (by show ζ1.2.2.2.2 ≤ 1000000; omega) (fun a ha => ?_) ?_
  · have ha' : a < 174 ∨ 1000000 ≤ a := by
      rcases ha with q | q
      · have : a < ζ1.2.2.2.2 := q
        omega
      · omega
    funext b
    unfold hnw hlu hcl
    by_cases c1 : a < 144 ∨ 144 + 30 ≤ a
    · rw [if_pos c1, if_neg (by omega), if_neg (by omega)]
    · rw [if_neg c1]
      by_cases c2 : a = 144 + 4
      · rw [if_pos c2, if_pos (by omega)]
      · rw [if_neg c2, if_neg (by omega), if_pos (by omega)]
  refine g_aload_n dX11_image_33 rfl ?_
  refine g_getR dX11_image_34 fl_X11_23 sh_0 (al_0 hm1) (fun _ _ _ => rfl) rf_0_2 ?_
  refine g_iload_n dX11_image_37 rfl ?_
  refine g_aald (v := some 144) dX11_image_38 sh_33 (al_33 hm1) (Nat.le_of_ble_eq_true rfl) ⟨by omega, by omega⟩ ho1 ?_
  refine g_aload_n dX11_image_39 rfl ?_
  refine g_getR dX11_image_40 fl_X11_19 sh_0 (al_0 hm1) (fun _ _ _ => rfl) rf_0_1 ?_
  refine g_callVV (n := 1) (As := [aP 3]) (st := []) dX11_image_43 ml_X11_395 sh_144 rfl (by show 144 < ζ1.2.2.2.2; omega) rfl rfl (Nat.le_of_ble_eq_true rfl) (RtV.mono w (fun h2 w3 => ?_))
  refine g_iconst dX11_image_46 ?_
  exact g_retz dX11_image_47 rfl (Or.inr rfl) ⟨rfl, rfl, w3⟩
set_option maxRecDepth 20000 in
theorem ev_len174 : EV174.length = 59 := by decide +kernel
set_option maxRecDepth 20000 in
theorem zi_tab174 : (List.range 30).all (fun q => match SH (174 + q) with | .inl ci => (List.range (fN ci)).all (fun j => evf EV174 174 (174 + q) j none == rlA (174 + q) j) | .inr (t, _) => Nat.ble t 3) = true := by decide +kernel
set_option maxRecDepth 20000 in
theorem zi_old174 : EV174.all (fun e => e.1 == 0 || Nat.ble 174 e.2.1) = true ∧ evn EV174 174 = 204 := by decide +kernel
theorem zi_end174 {ζ : ZP} (a j : Nat) : (zi174 ζ 59).1 a j = evf EV174 174 a j ((zz ζ).1 a j) := by
  have h := zev_evf EV174 ((zz ζ).1, 174) a j
  rw [ev_len174] at h
  exact h
theorem zi_lo174 {ζ : ZP} {a : Nat} (ha : a < 174) (j : Nat) : (zi174 ζ 59).1 a j = (zz ζ).1 a j := by
  rw [zi_end174, evf_keep EV174 174 a j _ ha]
  refine List.all_eq_true.mpr (fun e he => ?_)
  have := List.all_eq_true.mp zi_old174.1 e he
  simp only [Bool.or_eq_true, beq_iff_eq, Nat.ble_eq, Bool.not_eq_true', beq_eq_false_iff_ne] at this ⊢
  omega
set_option maxRecDepth 20000 in
theorem sh_t174 : (List.range 174).all (fun a => match SH a with | .inl _ => !(a == 33) | .inr (t, _) => Nat.ble t 3 || a == 33) = true := by decide +kernel
theorem zi_zz174 {ζ ζ1 : ZP} {y : Nat} (e1 : ζ1.1 = ζ.1) (e2 : ζ1.2.1 = ζ.2.1) (e3 : ∀ j : Nat, (if j = 0 then ζ1.2.2.1 else if j = 1 then ζ1.2.2.2.1 else none) = if j = y then some 174 else (if j = 0 then ζ.2.2.1 else if j = 1 then ζ.2.2.2.1 else none)) : ∀ a, a < 204 → (∀ ci, SH a = .inl ci → ∀ j, j < fN ci → (zz ζ1).1 a j = ru (zi174 ζ 59).1 33 y (some 174) a j) ∧ (∀ t len, SH a = .inr (t, len) → 3 < t → ∀ j, (zz ζ1).1 a j = ru (zi174 ζ 59).1 33 y (some 174) a j) := by
  intro a ha
  by_cases c : a < 174
  · have tab := List.all_eq_true.mp sh_t174 a (List.mem_range.mpr c)
    constructor
    · intro ci hs j hj
      rw [hs] at tab
      simp only [Bool.not_eq_true', beq_eq_false_iff_ne] at tab
      unfold ru
      rw [if_neg (fun q => tab q.1), zi_lo174 c]
      unfold zz
      simp only
      rw [if_neg tab, if_neg tab, e1, e2]
    · intro t len hs ht j
      rw [hs] at tab
      simp only [Bool.or_eq_true, Nat.ble_eq, beq_iff_eq] at tab
      have h33 : a = 33 := by omega
      subst h33
      unfold ru
      rw [zi_lo174 (by decide)]
      unfold zz
      simp only [if_true, true_and]
      exact e3 j
  · obtain ⟨q, rfl⟩ : ∃ q, a = 174 + q := ⟨a - 174, by omega⟩
    have tab := List.all_eq_true.mp zi_tab174 q (List.mem_range.mpr (by omega))
    have ne : 174 + q ≠ 33 := by omega
    have ne0 : ¬ (174 + q = 0 ∧ True) := by omega
    constructor
    · intro ci hs j hj
      rw [hs] at tab
      have t2 := beq_iff_eq.mp (List.all_eq_true.mp tab j (List.mem_range.mpr hj))
      unfold ru
      rw [if_neg (fun z => ne z.1), zi_end174, evf_new EV174 174 (174 + q) j _ none (by omega) (by rw [zi_old174.2]; omega), t2]
      unfold zz
      simp only
      rw [if_neg ne, if_neg (by omega), if_neg (by omega)]
    · intro t len hs ht j
      rw [hs] at tab
      simp only [Nat.ble_eq] at tab
      omega
theorem e_X11_image_new174 {l : Launch} {D y : Nat} {ζ ζ1 : ZP} {h : HI} {Q : HI → Prop} (hn : ζ.2.2.2.2 = 174) (hz : zb ((zz ζ).1, 174)) (hy : y < 2) (ho : (zz ζ).1 33 y = none) (hn1 : ζ1.2.2.2.2 = 204) (ho1 : (zz ζ1).1 33 y = some 174) (conv : ∀ a, a < 204 → (∀ ci, SH a = .inl ci → ∀ j, j < fN ci → (zz ζ1).1 a j = ru (zi174 ζ 59).1 33 y (some 174) a j) ∧ (∀ t len, SH a = .inr (t, len) → 3 < t → ∀ j, (zz ζ1).1 a j = ru (zi174 ζ 59).1 33 y (some 174) a j)) (w : RtV l (D + 2) mX5_copyFrom (zz ζ1) [aP 174, aP 3] (hnw h 174) Q) : Ret l (D + 3) 30 1984 mX11_image (zz ζ) [aP 0, aI y] h (fun v h' z' => v = some (aI 1) ∧ z' = zz ζ1 ∧ Q h') := by
  have hm : 144 ≤ ζ.2.2.2.2 := by omega
  have hm1 : 144 ≤ ζ1.2.2.2.2 := by omega
  refine Ret.of 0 pn_X11 [aP 0, aI y] rfl rfl ?_
  refine g_iload_n dX11_image_0 rfl ?_
  refine g_iconst dX11_image_1 ?_
  refine g_iconst dX11_image_2 ?_
  refine g_callSI (n := 3) (As := [aI y, aI 0, aI 1]) (st := []) dX11_image_3 ml_X11_145 rfl rfl (Nat.le_of_ble_eq_true rfl) rfl (s_within hm (by constructor <;> omega) (by decide) (by decide) ?_)
  rw [if_pos (by omega)]
  refine g_if_ne (tgt := 11) dX11_image_6 rfl (by decide) (iteP (by decide) ?_)
  refine g_aload_n dX11_image_11 rfl ?_
  refine g_getR dX11_image_12 fl_X11_23 sh_0 (al_0 hm) (fun _ _ _ => rfl) rf_0_2 ?_
  refine g_iload_n dX11_image_15 rfl ?_
  refine g_aald (v := none) dX11_image_16 sh_33 (al_33 hm) (Nat.le_of_ble_eq_true rfl) ⟨by omega, by omega⟩ ho ?_
  refine g_nonnullN dX11_image_17 ?_
  refine g_aload_n dX11_image_20 rfl ?_
  refine g_getR dX11_image_21 fl_X11_23 sh_0 (al_0 hm) (fun _ _ _ => rfl) rf_0_2 ?_
  refine g_iload_n dX11_image_24 rfl ?_
  refine g_zc (z' := zi174 ζ 0) hn.symm (fun _ _ => rfl) ?_
  refine g_hc (h' := hcl h 174) (by rw [zn_zi174_0]; decide) (fun a ha => hcl_lo (by rw [zn_zi174_0] at ha; exact ha)) ?_
  refine g_new0 (n := 174) (z' := zi174 ζ 1) (mc' := 29) (ms' := 1967) zn_zi174_0 zi174_1 dX11_image_25 nw_X11_16 sh_174 (zb_zi174 hz 0) (by decide) (fun q => hcl_far (Nat.le_refl _) 174 q (by decide) (by decide)) rfl rfl rfl rfl ?_
  refine g_dup dX11_image_28 rfl ?_
  refine g_callIN (n := 0) (As := []) (st := [aP 174, aI y, aP 33]) (mc' := 29) (ms' := 1967) (mcR := 0) (msR := 0) dX11_image_29 ml_X11_18 rfl rfl (Nat.le_of_ble_eq_true rfl) rfl rfl rfl rfl (Ret.mono (k_X5_init_i_174 hz (hcl_far (by decide))) (fun v h' z' q => ?_))
  obtain ⟨rfl, rfl, rfl⟩ := q
  refine ⟨rfl, ?_⟩
  refine g_aast (x := y) (len := 2) dX11_image_32 sh_33 (by rw [zn_zi174_59]; decide) (by decide) hy sh_174 (by rw [zn_zi174_59]; decide) ?_
  refine g_zc2 (z' := zz ζ1) (by show ζ1.2.2.2.2 = (zi174 ζ 59).2; rw [zn_zi174_59]; exact hn1) (fun a ha => conv a (by have : a < (zi174 ζ 59).2 := ha; rw [zn_zi174_59] at this; exact this)) ?_
  refine g_hc (h' := hnw h 174) (by show ζ1.2.2.2.2 ≤ 1000000; omega) (fun a ha => ?_) ?_
  · have ha' : a < 204 ∨ 1000000 ≤ a := by
      rcases ha with q | q
      · have : a < ζ1.2.2.2.2 := q
        omega
      · omega
    funext b
    unfold hnw hlu hcl
    by_cases c1 : a < 174 ∨ 174 + 30 ≤ a
    · rw [if_pos c1, if_neg (by omega), if_neg (by omega)]
    · rw [if_neg c1]
      by_cases c2 : a = 174 + 4
      · rw [if_pos c2, if_pos (by omega)]
      · rw [if_neg c2, if_neg (by omega), if_pos (by omega)]
  refine g_aload_n dX11_image_33 rfl ?_
  refine g_getR dX11_image_34 fl_X11_23 sh_0 (al_0 hm1) (fun _ _ _ => rfl) rf_0_2 ?_
  refine g_iload_n dX11_image_37 rfl ?_
  refine g_aald (v := some 174) dX11_image_38 sh_33 (al_33 hm1) (Nat.le_of_ble_eq_true rfl) ⟨by omega, by omega⟩ ho1 ?_
  refine g_aload_n dX11_image_39 rfl ?_
  refine g_getR dX11_image_40 fl_X11_19 sh_0 (al_0 hm1) (fun _ _ _ => rfl) rf_0_1 ?_
  refine g_callVV (n := 1) (As := [aP 3]) (st := []) dX11_image_43 ml_X11_395 sh_174 rfl (by show 174 < ζ1.2.2.2.2; omega) rfl rfl (Nat.le_of_ble_eq_true rfl) (RtV.mono w (fun h2 w3 => ?_))
  refine g_iconst dX11_image_46 ?_
  exact g_retz dX11_image_47 rfl (Or.inr rfl) ⟨rfl, rfl, w3⟩
