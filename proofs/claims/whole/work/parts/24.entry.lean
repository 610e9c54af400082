def evf : List (Nat × Nat × Nat × Nat) → Nat → Nat → Nat → Option Nat → Option Nat
  | [], _, _, _, acc => acc
  | (0, _, _, _) :: t, n, a, j, acc => evf t (n + 1) a j (if a = n then none else acc)
  | (_ + 1, a', j', v) :: t, n, a, j, acc => evf t n a j (if a = a' ∧ j = j' then some v else acc)
theorem zev_evf : ∀ (ev : List (Nat × Nat × Nat × Nat)) (z0 : ZR) (a j : Nat), (zev z0 ev ev.length).1 a j = evf ev z0.2 a j (z0.1 a j)
  | [], _, _, _ => rfl
  | (k, a', j', v) :: ev, z0, a, j => by
    show (zev z0 ((k, a', j', v) :: ev) (ev.length + 1)).1 a j = _
    rw [zev_cons, zev_evf ev (zstep z0 (k, a', j', v)) a j]
    cases k with
    | zero => rfl
    | succ k => rfl
theorem evf_none : ∀ (ev : List (Nat × Nat × Nat × Nat)) (n a j : Nat), ev.all (fun e => !(e.2.1 == a) || e.1 == 0) = true → evf ev n a j none = none
  | [], _, _, _, _ => rfl
  | (k, a', j', v) :: ev, n, a, j, h => by
    simp only [List.all_cons, Bool.and_eq_true] at h
    cases k with
    | zero =>
      show evf ev (n + 1) a j (if a = n then none else none) = none
      rw [ite_self]
      exact evf_none ev (n + 1) a j h.2
    | succ k =>
      have ha : ¬ a = a' := by
        intro q
        subst q
        simp at h
      show evf ev n a j (if a = a' ∧ j = j' then some v else none) = none
      rw [if_neg (fun q => ha q.1)]
      exact evf_none ev n a j h.2
/-- another writing of the references, the same at the fields that there are -/
theorem g_zc2 {l : Launch} {d mc ms : Nat} {i : MT} {z z' : ZR} {pc : Nat} {ls st : List AV} {h : HI} {Q : Option AV → HI → ZR → Prop} (hn : z'.2 = z.2) (hr : ∀ a, a < z.2 → (∀ ci, SH a = .inl ci → ∀ j, j < fN ci → z'.1 a j = z.1 a j) ∧ (∀ t len, SH a = .inr (t, len) → 3 < t → ∀ j, z'.1 a j = z.1 a j)) (k : G l d mc ms i z' pc ls st h Q) : G l d mc ms i z pc ls st h Q := by
  intro p e s m args below meth c H locs cells slots E ρ lsA hC hS0 hR hS hl
  have eW : gW (geC E) ρ h z' = gW (geC E) ρ h z := by
    unfold gW
    rw [hn]
    apply List.map_congr_left
    intro a ha
    have hra := hr a (List.mem_range.mp ha)
    congr 1
    unfold cE
    cases hs : SH a with
    | inl ci =>
      simp only
      congr 2
      apply List.map_congr_left
      intro j hj
      rw [hra.1 ci hs j (List.mem_range.mp hj)]
    | inr q =>
      obtain ⟨t, len⟩ := q
      simp only
      congr 2
      unfold aC
      match t, hs with
      | 0, _ => rfl
      | 1, _ => rfl
      | 2, _ => rfl
      | 3, _ => rfl
      | t + 4, hs =>
        simp only
        have : (fun j => Option.map ρ (z'.1 a j)) = fun j => Option.map ρ (z.1 a j) := by
          funext j
          rw [hra.2 _ _ hs (by omega) j]
        rw [this]
  have := k p e s m args below meth c H locs cells slots E ρ lsA hC hS0 ⟨by rw [eW]; exact hR.1, by rw [eW]; exact hR.2.1, by rw [hn]; exact hR.2.2.1, hR.2.2.2⟩ hS hl
  rw [hn] at this
  exact this
abbrev ζ0 : ZP := (75, 83, none, none, 144)
set_option maxRecDepth 20000 in
theorem ev_len : EVM.length = 285 := by decide +kernel
theorem zt_end (a j : Nat) : (zt 285).1 a j = evf EVM 0 a j none := by
  have h := zev_evf EVM (fun _ _ => none, 0) a j
  rw [ev_len] at h
  exact h
set_option maxRecDepth 20000 in
theorem zt_tab : (List.range 144).all (fun a => match SH a with | .inl ci => (List.range (fN ci)).all (fun j => evf EVM 0 a j none == (zz ζ0).1 a j) | .inr _ => true) = true := by decide +kernel
theorem zt_zz : ∀ a, a < (zt 285).2 → (∀ ci, SH a = .inl ci → ∀ j, j < fN ci → (zz ζ0).1 a j = (zt 285).1 a j) ∧ (∀ t len, SH a = .inr (t, len) → 3 < t → ∀ j, (zz ζ0).1 a j = (zt 285).1 a j) := by
  intro a ha
  rw [zn_zt_285] at ha
  constructor
  · intro ci hs j hj
    rw [zt_end]
    have h1 := List.all_eq_true.mp zt_tab a (List.mem_range.mpr ha)
    rw [hs] at h1
    have h2 := List.all_eq_true.mp h1 j (List.mem_range.mpr hj)
    exact (beq_iff_eq.mp h2).symm
  · intro t len hs ht j
    have h33 : a = 33 := by
      have hall : (List.range 144).all (fun a => match SH a with | .inl _ => true | .inr (t, _) => Nat.ble t 3 || a == 33) = true := by decide +kernel
      have h1 := List.all_eq_true.mp hall a (List.mem_range.mpr ha)
      rw [hs] at h1
      simp only [Bool.or_eq_true, Nat.ble_eq, beq_iff_eq] at h1
      omega
    subst h33
    rw [zt_end, evf_none EVM 0 33 j (by decide +kernel)]
    show (if j = 0 then none else if j = 1 then none else none) = none
    split
    · rfl
    · split <;> rfl
/-- the numbers behind the two constructors -/
def hini (h : HI) : HI := (hu (hu (hu (hu (hu (hu (hu (hu (hu (hu (hu (hu (hu (hu (hu (hu (hu (hu (hu (hu (hu (hu (hu (hu (hu (hu (hu (hu (hu (hu (hu (hu (hu (hu (hu (hu (hu (hu (hu (hu (hu (hu (hu (hu (hu (hu (hu (hu (hu (hu (hlu (hlu (hu h 1 7 (-1)) 7) 37) 40 0 1) 0 10 (-1)) 0 11 (-1)) 0 12 (-1)) 97 62 (-1)) 102 0 422608528232) 102 1 6451064) 102 2 1717658725) 102 3 439905906546) 102 4 422725379428) 102 5 1718973285) 102 6 474315584357) 102 7 1818583403) 102 8 1786080624) 102 9 2002874989) 102 10 28530) 102 11 6385252) 102 12 7237492) 102 13 26990) 102 14 1818846579) 102 15 1970496868) 102 16 1752132708) 102 17 1885434739) 102 18 126926792778084) 102 19 1667591276) 102 20 495874894192) 102 21 418330731890) 102 22 1852137842) 100 0 0) 100 1 0) 100 2 2) 100 3 1) 100 4 100) 100 5 5) 100 6 100) 100 7 2) 100 8 3) 100 9 20) 100 10 40) 99 0 0) 99 1 0) 99 2 2) 99 3 1) 99 4 100) 99 5 5) 99 6 100) 99 7 2) 99 8 3) 99 9 20) 99 10 40)
set_option maxRecDepth 40000 in
theorem e_law {l : Launch} {D mc ms : Nat} {h : HI} {Q : Option AV → HI → ZR → Prop} (h0 : ∀ a q, 0 ≤ a → a < 1000000 → h a q = 0) (w : G l (D + 4) mc ms mL_law (zz ζ0) 23 [aP 1000003, aP 0, aP 97, aP 143, aI 0, aU, aU] [] (hini h) Q) : G l (D + 4) (mc + 144) (ms + 22056) mL_law (zt 0) 0 [aP 1000003, aU, aU, aU, aU, aU, aU] [] h Q := by
  refine g_new0 (n := 0) (z' := zt 1) (mc' := mc + 143) (ms' := ms + 22040) zn_zt_0 zt_1 dL_law_0 nw_L_8 sh_0 (zb_zt 0) (by decide) (fun q => far_le (N2 := 0) (by decide) h0 0 q (by decide) (by decide)) (by omega) (by show _ + 16 = _; omega) rfl rfl ?_
  refine g_dup dL_law_3 rfl ?_
  refine g_callI (n := 0) (As := []) (st := [aP 0]) (mc' := 96) (ms' := 6635) (mcR := mc + 47) (msR := ms + 15405) dL_law_4 ml_L_25 rfl rfl (Nat.le_of_ble_eq_true rfl) (by omega) (by omega) rfl rfl (Ret.mono (k_X11_init_0 (far_le (N2 := 1) (by decide) h0)) (fun v h' z' q => ?_))
  obtain ⟨rfl, rfl, rfl⟩ := q
  refine ⟨rfl, ?_⟩
  refine g_astore_n (ls' := [aP 1000003, aP 0, aU, aU, aU, aU, aU]) dL_law_7 (Nat.le_of_ble_eq_true rfl) rfl rfl ?_
  refine g_new0 (n := 97) (z' := zt 194) (mc' := mc + 46) (ms' := ms + 15323) zn_zt_193 zt_194 dL_law_8 nw_L_26 sh_97 (zb_zt 193) (by decide) (fun q => (hu_far (by decide) (hu_far (by decide) (hu_far (by decide) (hu_far (by decide) (hlu_far (by decide) (hlu_far (by decide) (hu_far (by decide) (far_le (N2 := 97) (by decide) h0)))))))) 97 q (by decide) (by decide)) (by omega) (by show _ + 82 = _; omega) rfl rfl ?_
  refine g_dup dL_law_11 rfl ?_
  refine g_callI (n := 0) (As := []) (st := [aP 97]) (mc' := 45) (ms' := 15322) (mcR := mc + 1) (msR := ms + 1) dL_law_12 ml_L_28 rfl rfl (Nat.le_of_ble_eq_true rfl) (by omega) (by omega) rfl rfl (Ret.mono (k_X12_init_97 (hu_far (by decide) (hu_far (by decide) (hu_far (by decide) (hu_far (by decide) (hlu_far (by decide) (hlu_far (by decide) (hu_far (by decide) (far_le (N2 := 98) (by decide) h0))))))))) (fun v h' z' q => ?_))
  obtain ⟨rfl, rfl, rfl⟩ := q
  refine ⟨rfl, ?_⟩
  refine g_astore_n (ls' := [aP 1000003, aP 0, aP 97, aU, aU, aU, aU]) dL_law_15 (Nat.le_of_ble_eq_true rfl) rfl rfl ?_
  refine g_iconst dL_law_16 ?_
  refine g_newarr0 (N := 1) (n := 143) (z' := zt 285) (mc' := mc) (ms' := ms) zn_zt_284 zt_285 dL_law_17 ac_2 rfl (by decide) sh_143 (by decide) rfl (zb_zt 284) (by decide) (fun q => (hu_far (by decide) (hu_far (by decide) (hu_far (by decide) (hu_far (by decide) (hu_far (by decide) (hu_far (by decide) (hu_far (by decide) (hu_far (by decide) (hu_far (by decide) (hu_far (by decide) (hu_far (by decide) (hu_far (by decide) (hu_far (by decide) (hu_far (by decide) (hu_far (by decide) (hu_far (by decide) (hu_far (by decide) (hu_far (by decide) (hu_far (by decide) (hu_far (by decide) (hu_far (by decide) (hu_far (by decide) (hu_far (by decide) (hu_far (by decide) (hu_far (by decide) (hu_far (by decide) (hu_far (by decide) (hu_far (by decide) (hu_far (by decide) (hu_far (by decide) (hu_far (by decide) (hu_far (by decide) (hu_far (by decide) (hu_far (by decide) (hu_far (by decide) (hu_far (by decide) (hu_far (by decide) (hu_far (by decide) (hu_far (by decide) (hu_far (by decide) (hu_far (by decide) (hu_far (by decide) (hu_far (by decide) (hu_far (by decide) (hu_far (by decide) (hu_far (by decide) (hu_far (by decide) (hu_far (by decide) (hu_far (by decide) (hu_far (by decide) (hlu_far (by decide) (hlu_far (by decide) (hu_far (by decide) (far_le (N2 := 143) (by decide) h0)))))))))))))))))))))))))))))))))))))))))))))))))))))) 143 q (by decide) (by decide)) (by omega) (by omega) rfl rfl ?_
  refine g_astore_n (ls' := [aP 1000003, aP 0, aP 97, aP 143, aU, aU, aU]) dL_law_19 (Nat.le_of_ble_eq_true rfl) rfl rfl ?_
  refine g_iconst dL_law_20 ?_
  refine g_istore (ls' := [aP 1000003, aP 0, aP 97, aP 143, aI 0, aU, aU]) dL_law_21 (Nat.le_of_ble_eq_true rfl) rfl rfl ?_
  exact g_zc2 zn_zt_285.symm zt_zz w
