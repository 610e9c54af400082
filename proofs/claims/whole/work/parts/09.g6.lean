/-! cells that are made -/
/-- references among the cells that there are lead to such cells -/
def zb (z : ZR) : Prop := ∀ a j v, a < z.2 → z.1 a j = some v → v < z.2
def avlt (n : Nat) (v : AV) : Bool := match v with
  | .inr (.inr (.inl (some k))) => Nat.blt k n || Nat.ble 1000000 k
  | _ => true
theorem cV_rho {ρ ρ' : Nat → Nat} {n n' : Nat} (hn : n' ≤ 1000000) (hρ : ∀ k, k < n ∨ n' ≤ k → ρ' k = ρ k) {v : AV} (hv : avlt n v = true) : cV ρ' v = cV ρ v := by
  match v, hv with
  | .inl x, _ => rfl
  | .inr (.inl x), _ => rfl
  | .inr (.inr (.inl none)), _ => rfl
  | .inr (.inr (.inl (some k))), hv =>
    have : k < n ∨ n' ≤ k := by
      simp only [avlt, Bool.or_eq_true, Nat.blt_eq, Nat.ble_eq] at hv
      omega
    simp [cV, cR, hρ k this]
  | .inr (.inr (.inr ())), _ => rfl
theorem st_rho {ρ ρ' : Nat → Nat} {n n' : Nat} (hn : n' ≤ 1000000) (hρ : ∀ k, k < n ∨ n' ≤ k → ρ' k = ρ k) {st : List AV} (hv : st.all (avlt n) = true) : st.map (cV ρ') = st.map (cV ρ) := by
  apply List.map_congr_left
  intro v h
  exact cV_rho hn hρ (List.all_eq_true.mp hv v h)
theorem lk_rho {ρ ρ' : Nat → Nat} {n n' : Nat} (hn : n' ≤ 1000000) (hρ : ∀ k, k < n ∨ n' ≤ k → ρ' k = ρ k) {ls : List AV} (hv : ls.all (avlt n) = true) {lsA : Array Slot} {nL : Nat} (hl : lv_has lsA nL (lk ρ 0 ls)) : lv_has lsA nL (lk ρ' 0 ls) := by
  refine lv_has_mono hl (fun q hq => ?_)
  obtain ⟨j, v, h1, h2, h3⟩ := lk_mem.mp hq
  refine lk_mem.mpr ⟨j, v, h1, h2, ?_⟩
  rw [h3, cV_rho hn hρ (List.all_eq_true.mp hv v (List.mem_of_getElem? h1))]
theorem fV_rho {ρ ρ' : Nat → Nat} {ty : FieldType} {x : Int} {o : Option Nat} (h : ∀ v, o = some v → ρ' v = ρ v) : fV ρ' ty x o = fV ρ ty x o := by
  have e : cR ρ' o = cR ρ o := by
    cases o with
    | none => rfl
    | some v => simp [cR, h v rfl]
  unfold fV
  split <;> first | rfl | exact e
theorem cE_rho {ca : Nat → ClassId} {ρ ρ' : Nat → Nat} {h : HI} {r : Nat → Nat → Option Nat} {k : Nat} (hr : ∀ j v, r k j = some v → ρ' v = ρ v) : cE ca ρ' h r k = cE ca ρ h r k := by
  unfold cE
  cases SH k with
  | inl ci =>
    simp only
    congr 2
    apply List.map_congr_left
    intro j _
    exact fV_rho (hr j)
  | inr p =>
    obtain ⟨t, len⟩ := p
    simp only
    congr 2
    unfold aC
    have e : (fun j => Option.map ρ' (r k j)) = fun j => Option.map ρ (r k j) := by
      funext j
      cases hq : r k j with
      | none => rfl
      | some v => simp [hr j v hq]
    split <;> first | rfl | (rw [e])
def okt (ty : FieldType) : Bool := match ty with
  | .float => false
  | .double => false
  | _ => true
theorem dv_okt {ρ : Nat → Nat} {ty : FieldType} (h : okt ty = true) : defaultValue ty = fV ρ ty 0 none := by
  cases ty <;> first | rfl | (simp [okt] at h)
theorem gW_push {ca : Nat → ClassId} {ρ : Nat → Nat} {h : HI} {z : ZR} {q : Nat} {h' : HI} {r' : Nat → Nat → Option Nat} (hzb : zb z) (hh : ∀ a, a ≠ z.2 → h' a = h a) (hr : ∀ a, a ≠ z.2 → r' a = z.1 a) :
    gW ca (fun k => if k = z.2 then q else ρ k) h' (r', z.2 + 1) = gW ca ρ h z ++ [(q, cE ca (fun k => if k = z.2 then q else ρ k) h' r' z.2)] := by
  unfold gW
  rw [List.range_succ, List.map_append]
  congr 1
  · apply List.map_congr_left
    intro k hk
    have hk' : k < z.2 := List.mem_range.mp hk
    have hne : k ≠ z.2 := Nat.ne_of_lt hk'
    show ((if k = z.2 then q else ρ k), cE ca (fun k => if k = z.2 then q else ρ k) h' r' k) = (ρ k, cE ca ρ h z.1 k)
    rw [if_neg hne, cE_same (hh k hne) (hr k hne), cE_rho (ρ := ρ)]
    intro j v hv
    exact if_neg (Nat.ne_of_lt (hzb k j v hk' hv))
  · simp
theorem hz_ne {h : HI} {k : Nat} : ∀ a, a ≠ k → hz h k a = h a := by
  intro a ha
  funext b
  simp [hz, ha]
theorem rz_ne {r : Nat → Nat → Option Nat} {k : Nat} : ∀ a, a ≠ k → rz r k a = r a := by
  intro a ha
  funext b
  simp [rz, ha]
def NewW (own : String) (idx ci : Nat) : Prop := ∃ (C : String) (T : u_T), CF ci C T ∧ Cond.classLink own idx C ∈ TB ∧ Cond.instantiable C (fN ci) ∈ TB ∧ Cond.initialized C ∈ TB ∧ ∀ j, j < fN ci → okt (fT ci j) = true
section GNew
variable {l : Launch} {d mc ms : Nat} {i : MT} {z : ZR} {pc : Nat} {ls st : List AV} {h : HI} {Q : Option AV → HI → ZR → Prop}
theorem gR_push {E : GE} {ρ : Nat → Nat} {q : Nat} {H1 : Heap} {H : Heap} {h' : HI} (hh : ∀ a, a ≠ z.2 → h' a = h a) (hR : gR E ρ h z H) (hzb : zb z) (hz1 : z.2 < 1000000) {e1 : va_E} (he : cE (geC E) (fun k => if k = z.2 then q else ρ k) h' (rz z.1 z.2) z.2 = e1) (hP : va_P (geD E) vwCl (gW (geC E) ρ h z ++ [(q, e1)]) H1) (hD : va_D (gA E) (gW (geC E) ρ h z ++ [(q, e1)])) : gR E (fun k => if k = z.2 then q else ρ k) h' (rz z.1 z.2, z.2 + 1) H1 := by
  have eW := gW_push (ca := geC E) (ρ := ρ) (q := q) (h' := h') (r' := rz z.1 z.2) hzb hh rz_ne
  rw [he] at eW
  obtain ⟨-, -, g3, g4, g5, g6⟩ := hR
  refine ⟨by rw [eW]; exact hP, by rw [eW]; exact hD, hz1, fun t ht => ?_, ?_, gSc_to (k := z.2) (n := z.2 + 1) (Nat.lt_succ_self _) hz1 hh g6⟩
  · have : ¬ (1000000 + t = z.2) := by omega
    simp only [this, if_false]
    exact g4 t ht
  · have : ¬ (1000003 = z.2) := by omega
    simp only [this, if_false]
    exact g5
theorem gA_of {E : GE} {s : State} (h : gS E s s.heap) : ∀ q, s.heap.size ≤ q → gA E q := fun _ hq => Nat.le_trans h.2.1 hq
theorem MQ_rho {below : List Frame} {E : GE} {ρ ρ' : Nat → Nat} {n n' : Nat} {args : Array Value} {s : State} {c1 s1 : Nat} (hn : n ≤ n') (hρ : ∀ k, k < n ∨ n' ≤ k → ρ' k = ρ k) {t : State} (hq : MQ below (gQ E ρ' n' Q) args s c1 s1 (gA E) t) : MQ below (gQ E ρ n Q) args s c1 s1 (gA E) t := by
  obtain ⟨o, a1, a2, ⟨⟨v, h', z', ρ'', b1, b2, b3, b4, b5⟩, b6⟩, a4⟩ := hq
  exact ⟨o, a1, a2, ⟨⟨v, h', z', ρ'', b1, b2, b3, Nat.le_trans hn b4, fun k hk => by
    rw [b5 k (by omega), hρ k (by omega)]⟩, b6⟩, a4⟩
theorem W.postm {p : Program} {l : Launch} {e : Env} {R : Room} {s : State} {m : MethodId} {args : Array Value} {below : List Frame} {meth : Method} {c : Code} {H : Heap} {locs : List Loc} {cells slots : Nat} {Q1 Q2 : State → Prop} {g : JFrame} (hq : ∀ t, Q1 t → Q2 t) (k : W p l e R s m args below meth c H locs cells slots Q1 g) : W p l e R s m args below meth c H locs cells slots Q2 g := by
  intro T hT X
  obtain ⟨t, a, b⟩ := k T hT X
  exact ⟨t, a, hq t b⟩
theorem g_new {idx ci mc' ms' : Nat} (hd : decode i.2.1 pc = .ok (.new idx, 3)) (hw : NewW i.1.cls idx ci) (hs : SH z.2 = .inl ci) (hzb : zb z) (hz1 : z.2 < 1000000) (hmc : mc' + 1 = mc) (hms : ms' + fN ci = ms) (hls : ls.all (avlt z.2) = true) (hst : st.all (avlt z.2) = true)
    (k : G l d mc' ms' i (rz z.1 z.2, z.2 + 1) (pc + 3) ls (aP z.2 :: st) (hz h z.2) Q) : G l d mc ms i z pc ls st h Q := by
  intro p e s m args below meth c H locs cells slots E ρ lsA hC hS0 hR hS hl
  obtain ⟨hx, hb, hr, hml, hown, hts, hlk, hnm⟩ := id hC
  obtain ⟨C, T, ⟨hc, hin, hty, hnn⟩, hw1, hw2, hw3, hok⟩ := hw
  subst hmc
  subst hms
  refine va_new hx hb hts hin (fT ci) hty hown (hts _ hw1) (hts _ hw2) (hts _ hw3) hS0.1 hR.1 hR.2.1 hS (gA_of hS0) hc (fs := (List.range (fN ci)).map (fun j => fV ρ (fT ci j) 0 none)) (fun j hj => by rw [dv_okt (ρ := ρ) (hok j hj)]; simp [vp_V, hj]) (by show cells + 1 ≤ cells + (mc' + 1); omega) (by show slots + fN ci ≤ slots + (ms' + fN ci); omega) hd (fun q H1 hP1 hD1 hS1 => ?_)
  have hρ : ∀ k, k < z.2 ∨ z.2 + 1 ≤ k → (fun k => if k = z.2 then q else ρ k) k = ρ k := fun k hk => if_neg (by omega)
  have he : cE (geC E) (fun k => if k = z.2 then q else ρ k) (hz h z.2) (rz z.1 z.2) z.2 = .inr (ci, (List.range (fN ci)).map (fun j => fV ρ (fT ci j) 0 none)) := by
    rw [cE_obj hs]
    congr 2
    apply List.map_congr_left
    intro j _
    simp only [hz, rz, if_true]
    exact fV_rho (fun v hv => by cases hv)
  have k2 := k p e s m args below meth c H1 locs (cells + 1) (slots + fN ci) E (fun k => if k = z.2 then q else ρ k) lsA hC hS0 (gR_push hz_ne hR hzb hz1 he hP1 hD1) hS1 (lk_rho hz1 hρ hls hl)
  have e1 : cells + 1 + mc' = cells + (mc' + 1) := by omega
  have e2 : slots + fN ci + ms' = slots + (ms' + fN ci) := by omega
  rw [e1, e2, List.map_cons, st_rho hz1 hρ hst] at k2
  have e3 : cV (fun k => if k = z.2 then q else ρ k) (aP z.2) = .ref q := by simp [cV, cR, va_rf]
  rw [e3] at k2
  exact W.postm (fun t => MQ_rho (Nat.le_succ _) hρ) k2
theorem va_RA_uni {U : State} {cA cB : ClassId} {ty : FieldType} (h1 : va_RA U cA ty) (h2 : va_RA U cB ty) : cA = cB := by
  unfold va_RA at h1 h2
  cases ty <;> first | (obtain ⟨k1, c1, a1, a2, a3, a4⟩ := h1; obtain ⟨k2, c2, b1, b2, b3, b4⟩ := h2; exact Option.some.inj (a4.symm.trans b4)) | exact Option.some.inj (h1.symm.trans h2)
theorem gT_at (ca : Nat → ClassId) {t : Nat} (ht : t < 5) : (gT ca)[t]? = some (ca t, aty t) := by
  match t, ht with
  | 0, _ => rfl
  | 1, _ => rfl
  | 2, _ => rfl
  | 3, _ => rfl
  | 4, _ => rfl
theorem ca_uni {E : GE} {s : State} {t : Nat} {cA : ClassId} (ht : t < 5) (hK : va_K (geD E) vwCl (gT (geC E)) s) (hK2 : va_K (geD E) vwCl (gT (geC E) ++ [(cA, aty t)]) s) : cA = geC E t := by
  have h1 := (hK2.2 5 (cA, aty t) rfl).2
  have h2 := (hK.2 t (geC E t, aty t) (gT_at _ ht)).2
  exact va_RA_uni h1 h2
/-- behind any making of a cell -/
theorem g_made {mc' ms' N : Nat} {p : Program} {e : Env} {s : State} {m : MethodId} {args : Array Value} {below : List Frame} {meth : Method} {c : Code} {H H1 : Heap} {locs : List Loc} {cells slots : Nat} {E : GE} {ρ : Nat → Nat} {lsA : Array Slot} {pc' q : Nat} {e1 : va_E} {h' : HI} (hh : ∀ a, a ≠ z.2 → h' a = h a)
    (hC : gC p s m args meth c i) (hS0 : gS E s s.heap) (hR : gR E ρ h z H) (hl : lv_has lsA i.2.2.1 (lk ρ 0 ls)) (hzb : zb z) (hz1 : z.2 < 1000000) (hls : ls.all (avlt z.2) = true) (hst : st.all (avlt z.2) = true)
    (he : cE (geC E) (fun k => if k = z.2 then q else ρ k) h' (rz z.1 z.2) z.2 = e1) (hP1 : va_P (geD E) vwCl (gW (geC E) ρ h z ++ [(q, e1)]) H1) (hD1 : va_D (gA E) (gW (geC E) ρ h z ++ [(q, e1)])) (hS1 : va_S (gA E) s.heap H1 locs)
    (k : G l d mc' ms' i (rz z.1 z.2, z.2 + 1) pc' ls (aP z.2 :: st) h' Q) : W p l e (gRm d (cells + (mc' + 1)) (slots + (ms' + N))) s m args below meth c H1 locs (cells + 1) (slots + N) (MQ below (gQ E ρ z.2 Q) args s (cells + (mc' + 1)) (slots + (ms' + N)) (gA E)) (F0 m pc' lsA (.ref q :: st.map (cV ρ))) := by
  have hρ : ∀ k, k < z.2 ∨ z.2 + 1 ≤ k → (fun k => if k = z.2 then q else ρ k) k = ρ k := fun k hk => if_neg (by omega)
  have k2 := k p e s m args below meth c H1 locs (cells + 1) (slots + N) E (fun k => if k = z.2 then q else ρ k) lsA hC hS0 (gR_push hh hR hzb hz1 he hP1 hD1) hS1 (lk_rho hz1 hρ hls hl)
  have e1 : cells + 1 + mc' = cells + (mc' + 1) := by omega
  have e2 : slots + N + ms' = slots + (ms' + N) := by omega
  rw [e1, e2, List.map_cons, st_rho hz1 hρ hst] at k2
  have e3 : cV (fun k => if k = z.2 then q else ρ k) (aP z.2) = .ref q := by simp [cV, cR, va_rf]
  rw [e3] at k2
  exact W.postm (fun t => MQ_rho (Nat.le_succ _) hρ) k2
theorem g_newarr {at' : ArrayType} {t N mc' ms' : Nat} (hd : decode i.2.1 pc = .ok (.newarray at', 2)) (hw : Cond.arrayClass (aty t) ∈ TB) (hat : newarray.typeOf at' = aty t) (ht : t < 4) (hs : SH z.2 = .inr (t, N)) (hN : N ≤ 100000) (hzb : zb z) (hz1 : z.2 < 1000000) (hmc : mc' + 1 = mc) (hms : ms' + N = ms) (hls : ls.all (avlt z.2) = true) (hst : st.all (avlt z.2) = true)
    (k : G l d mc' ms' i (rz z.1 z.2, z.2 + 1) (pc + 2) ls (aP z.2 :: st) (hz h z.2) Q) : G l d mc ms i z pc ls (aI N :: st) h Q := by
  intro p e s m args below meth c H locs cells slots E ρ lsA hC hS0 hR hS hl
  obtain ⟨hx, hb, hr, hml, hown, hts, hlk, hnm⟩ := id hC
  subst hmc
  subst hms
  have hv : ∀ cA : ClassId, vp_cell cA (N, aC ρ t (fun _ => 0) (fun _ => none)) = arrV cA N (fun _ => defaultValue (aty t)) := by
    intro cA
    match t, ht with
    | 0, _ => rfl
    | 1, _ => rfl
    | 2, _ => rfl
    | 3, _ => rfl
  have hcb : componentBytes (aty t) ≤ 8 := by
    match t, ht with
    | 0, _ => decide
    | 1, _ => decide
    | 2, _ => decide
    | 3, _ => decide
  refine va_newa hx hb (by rw [hat]; exact hts _ hw) hat hS0.1 hR.1 hR.2.1 hS (gA_of hS0) (n := Int32.ofInt N) (N' := N) (a0 := (N, aC ρ t (fun _ => 0) (fun _ => none))) hv (fun q => by rw [i32_0, i32_lt ⟨by omega, by omega⟩ rg_0] at q; omega) (by rw [i32_nat (by omega) (by omega)]; omega) (by have : N * componentBytes (aty t) ≤ 100000 * 8 := Nat.mul_le_mul hN hcb; omega) (by show cells + 1 ≤ cells + (mc' + 1); omega) (by show slots + N ≤ slots + (ms' + N); omega) hd (fun q cA H1 hK1 hP1 hD1 hS1 => ?_)
  have hcA := ca_uni (by omega) hS0.1 hK1
  subst hcA
  refine g_made hz_ne hC hS0 hR hl hzb hz1 hls hst ?_ hP1 hD1 hS1 k
  rw [cE_arr hs]
  congr 2
  congr 1
  unfold aC
  match t, ht with
  | 0, _ => simp [hz]
  | 1, _ => simp [hz]
  | 2, _ => simp [hz]
  | 3, _ => simp [hz]
end GNew
section GCtor
variable {l : Launch} {D mc ms : Nat} {i : MT} {z : ZR} {pc : Nat} {ls st st0 : List AV} {h : HI} {Q : Option AV → HI → ZR → Prop} {j : MT} {n idx a ci : Nat} {As : List AV}
theorem g_ctor_back {mc' ms' mcR msR : Nat} {p : Program} {e : Env} {s : State} {m : MethodId} {args : Array Value} {below : List Frame} {meth : Method} {c : Code} {H : Heap} {locs : List Loc} {cells slots : Nat} {E : GE} {ρ : Nat → Nat} {lsA : Array Slot} {av : Array Value}
    (hC : gC p s m args meth c i) (hS0 : gS E s s.heap) (hS : va_S (gA E) s.heap H locs) (hl : lv_has lsA i.2.2.1 (lk ρ 0 ls)) (hmc : mc' + mcR = mc) (hms : ms' + msR = ms) (hls : ls.all (avlt z.2) = true) (hsts : st.all (avlt z.2) = true)
    (hrun : va_Run p l e (gRm (D + 1) (cells + mc) (slots + ms)) s m args below meth c H locs cells slots mc' ms' (F0 m pc lsA (st0.map (cV ρ))) (st.map (cV ρ)) (gQ E ρ z.2 (fun v h' z' => v = none ∧ G l (D + 1) mcR msR i z' (pc + 3) ls st h' Q) av) (gA E)) :
    W p l e (gRm (D + 1) (cells + mc) (slots + ms)) s m args below meth c H locs cells slots (MQ below (gQ E ρ z.2 Q) args s (cells + mc) (slots + ms) (gA E)) (F0 m pc lsA (st0.map (cV ρ))) := by
  subst hmc
  subst hms
  refine g_go hrun hS (fun v h' z' ρ' H1 locs1 hq hR1 hn1 hρ hS1 => ?_)
  obtain ⟨rfl, hG⟩ := hq
  have hz1 := hR1.2.2.1
  have k2 := hG p e s m args below meth c H1 locs1 (cells + mc') (slots + ms') E ρ' lsA hC hS0 hR1 hS1 (lk_rho hz1 hρ hls hl)
  have e1 : cells + mc' + mcR = cells + (mc' + mcR) := by omega
  have e2 : slots + ms' + msR = slots + (ms' + msR) := by omega
  rw [e1, e2, st_rho hz1 hρ hsts] at k2
  exact W.postm (fun t => MQ_rho hn1 hρ) k2
theorem g_callIN {mc' ms' mcR msR : Nat} (hd : decode i.2.1 pc = .ok (.invokespecial idx, 3)) (hm : MLiN i.1.cls idx j n) (hn : As.length = n) (hst0 : st0 = As.reverse ++ aP a :: st) (hst : (st.map acat).sum ≤ 8) (hmc : mc' + mcR = mc) (hms : ms' + msR = ms) (hls : ls.all (avlt z.2) = true) (hsts : st.all (avlt z.2) = true)
    (hr : Ret l D mc' ms' j z (aP a :: As) h (fun v h' z' => v = none ∧ G l (D + 1) mcR msR i z' (pc + 3) ls st h' Q)) : G l (D + 1) mc ms i z pc ls st0 h Q := by
  intro p e s m args below meth c H locs cells slots E ρ lsA hC hS0 hR hS hl
  obtain ⟨hx, hb, hrt, hml, hown, hts, hlk, hnm⟩ := id hC
  have hM := hr E ρ
  obtain ⟨host, hho⟩ := hm.2.1
  have hw : gws j = Cond.code j.1 j.2.1 j.2.2.1 none :: TB := by unfold gws; rw [hm.2.2.2.2]
  exact g_ctor_back hC hS0 hS hl hmc hms hls hsts (va_runIN (As := As.map (cV ρ)) (b := ρ a) (rest := st.map (cV ρ)) (host := host) ⟨hx, hb, hml, hown, hts⟩ hM ⟨va_cnB n hts (tb_goodIn (gws_in hm.1)) hw rfl rfl (hS0.nest hho) (hts _ hm.1.1) ⟨hm.1.2.2.1, hm.1.2.2.2.1, hm.1.2.2.2.2.1⟩ ⟨Nat.le_refl _, (by have := hm.1.2.2.2.2.2.1; show 8 + (j.2.2.1 + 11) + 44 * D ≤ 44 * (D + 1); omega)⟩, hm.2.2.2.1, hts _ hm.2.2.1⟩ ⟨gPc_blind, fun U hU hW => ⟨rfl, by rw [hU]; exact (hS0.heap hS).moved hW, by rw [hU]; exact hR⟩⟩ rfl (by simp; exact hn) hl.1 (by show st0.map (cV ρ) = _; rw [hst0]; simp [cV, cR, va_rf]) (lv_room (by rw [acat_sum]; exact hst)) hd ⟨(by show cells + mc' ≤ cells + mc; omega), (by show slots + ms' ≤ slots + ms; omega)⟩)
theorem g_callI {mc' ms' mcR msR : Nat} (hd : decode i.2.1 pc = .ok (.invokespecial idx, 3)) (hm : MLi i.1.cls idx j n) (hn : As.length = n) (hst0 : st0 = As.reverse ++ aP a :: st) (hst : (st.map acat).sum ≤ 8) (hmc : mc' + mcR = mc) (hms : ms' + msR = ms) (hls : ls.all (avlt z.2) = true) (hsts : st.all (avlt z.2) = true)
    (hr : Ret l D mc' ms' j z (aP a :: As) h (fun v h' z' => v = none ∧ G l (D + 1) mcR msR i z' (pc + 3) ls st h' Q)) : G l (D + 1) mc ms i z pc ls st0 h Q := by
  intro p e s m args below meth c H locs cells slots E ρ lsA hC hS0 hR hS hl
  obtain ⟨hx, hb, hrt, hml, hown, hts, hlk, hnm⟩ := id hC
  have hM := hr E ρ
  have hw : gws j = Cond.code j.1 j.2.1 j.2.2.1 none :: TB := by unfold gws; rw [hm.2.2.2.2]
  exact g_ctor_back hC hS0 hS hl hmc hms hls hsts (va_runI (As := As.map (cV ρ)) (b := ρ a) (rest := st.map (cV ρ)) ⟨hx, hb, hml, hown, hts⟩ hM (cwI n hts (tb_goodIn (gws_in hm.1)) hw rfl rfl (hts _ hm.1.1) (hts _ hm.2.1) (hts _ hm.2.2.1) hm.2.2.2.1 ⟨hm.1.2.2.1, hm.1.2.2.2.1, hm.1.2.2.2.2.1⟩ ⟨Nat.le_refl _, (by have := hm.1.2.2.2.2.2.1; show 8 + (j.2.2.1 + 11) + 44 * D ≤ 44 * (D + 1); omega)⟩) ⟨gPc_blind, fun U hU hW => ⟨rfl, by rw [hU]; exact (hS0.heap hS).moved hW, by rw [hU]; exact hR⟩⟩ rfl (by simp; exact hn) hl.1 (by show st0.map (cV ρ) = _; rw [hst0]; simp [cV, cR, va_rf]) (lv_room (by rw [acat_sum]; exact hst)) hd ⟨(by show cells + mc' ≤ cells + mc; omega), (by show slots + ms' ≤ slots + ms; omega)⟩)
def ObjW (own : String) (idx : Nat) : Prop := Cond.methodLink own idx Lib.objectInit ∈ TB ∧ Cond.instanceMethod Lib.objectInit ∈ TB ∧ Cond.code Lib.objectInit ⟨#[0xb1]⟩ 1 none ∈ TB
theorem g_obj (hd : decode i.2.1 pc = .ok (.invokespecial idx, 3)) (hm : ObjW i.1.cls idx) (hst : (st.map acat).sum ≤ 8) (k : G l (D + 1) mc ms i z (pc + 3) ls st h Q) : G l (D + 1) mc ms i z pc ls (aP a :: st) h Q := by
  intro p e s m args below meth c H locs cells slots E ρ lsA hC hS0 hR hS hl
  obtain ⟨hx, hb, hrt, hml, hown, hts, hlk, hnm⟩ := id hC
  refine W.objInit hx hb hown (hts _ hm.1) (hts _ hm.2.1) (hts _ hm.2.2) (g := F0 m pc lsA ((aP a :: st).map (cV ρ))) (a := ρ a) (rest := st.map (cV ρ)) rfl (hl.1.trans hml.symm) rfl hd (by show 1 ≤ D + 1; omega) (by rw [acat_sum]; show 2 * 0 + _ + 12 ≤ 44 * (D + 1); omega) ?_
  exact k p e s m args below meth c H locs cells slots E ρ lsA hC hS0 hR hS hl
theorem g_anew {N mc' ms' : Nat} (hd : decode i.2.1 pc = .ok (.anewarray idx, 3)) (hw : Cond.classLink i.1.cls idx "DeadPacks$Stock" ∈ TB) (hw2 : Cond.arrayOver (.object "DeadPacks$Stock") ∈ lw_tbl) (hs : SH z.2 = .inr (4, N)) (hN : N ≤ 1000) (hzb : zb z) (hz1 : z.2 < 1000000) (hmc : mc' + 1 = mc) (hms : ms' + N = ms) (hls : ls.all (avlt z.2) = true) (hst : st.all (avlt z.2) = true)
    (k : G l D mc' ms' i (rz z.1 z.2, z.2 + 1) (pc + 3) ls (aP z.2 :: st) (hz h z.2) Q) : G l D mc ms i z pc ls (aI N :: st) h Q := by
  intro p e s m args below meth c H locs cells slots E ρ lsA hC hS0 hR hS hl
  obtain ⟨hx, hb, hr, hml, hown, hts, hlk, hnm⟩ := id hC
  obtain ⟨-, -, s0, h0, hW, -⟩ := id hS0
  subst hmc
  subst hms
  have hov : va_AO "DeadPacks$Stock" s := va_AO.moved hW.alike (va_AO.of (h0.2.2.2.2.1 _ hw2))
  refine va_newq hx hb hown (hts _ hw) hov hS0.1 hR.1 hR.2.1 hS (gA_of hS0) (n := Int32.ofInt N) (N' := N) (fun q => by rw [i32_0, i32_lt ⟨by omega, by omega⟩ rg_0] at q; omega) (by rw [i32_nat (by omega) (by omega)]; omega) (by omega) (by show cells + 1 ≤ cells + (mc' + 1); omega) (by show slots + N ≤ slots + (ms' + N); omega) hd (fun q cA H1 hK1 hP1 hD1 hS1 => ?_)
  have hcA := ca_uni (t := 4) (by omega) hS0.1 hK1
  subst hcA
  refine g_made hz_ne hC hS0 hR hl hzb hz1 hls hst ?_ hP1 hD1 hS1 k
  rw [cE_arr hs]
  congr 2
  congr 1
  unfold aC
  simp [rz]
theorem g_aast {a b x len : Nat} (hd : decode i.2.1 pc = .ok (.aastore, 1)) (hs : SH a = .inr (4, len)) (ha : a < z.2) (hlen : len ≤ 2147483647) (hx1 : x < len) (hsb : SH b = .inl 5) (hbb : b < z.2)
    (k : G l D mc ms i (ru z.1 a x (some b), z.2) (pc + 1) ls st h Q) : G l D mc ms i z pc ls (aP b :: aI x :: aP a :: st) h Q := by
  intro p e s m args below meth c H locs cells slots E ρ lsA hC hS0 hR hS hl
  obtain ⟨hx, hb, hr, hml, hown, hts, hlk, hnm⟩ := id hC
  refine va_astq hx hb hS0.1 hR.1 hR.2.1 hS a 4 b 5 (r := (RX5, TX5, fN 5)) (by rw [gW_at ha, cE_arr hs]; rfl) rfl (by rw [gW_at hbb, cE_obj hsb]) rfl (i := Int32.ofInt x) (vp_in_of_int (by omega) (by omega) hlen) hd (fun H1 locs1 hP1 hD1 hS1 => ?_)
  have e1 : (Int32.ofInt x).toNatClampNeg = x := by rw [i32_nat (by omega) (by omega)]; omega
  rw [e1] at hP1 hD1
  have eW : gW (geC E) ρ h (ru z.1 a x (some b), z.2) = (gW (geC E) ρ h z).set a (ρ a, .inl (geC E 4, len, .inr (.inr (.inr (.inr (va_up (fun j => (z.1 a j).map ρ) x (some (ρ b)))))))) := by
    have e9 := gW_set (ca := geC E) (ρ := ρ) (h := h) (h' := h) (r := z.1) (r' := ru z.1 a x (some b)) (n := z.2) (k := a) (fun _ _ => rfl) ru_ne
    refine e9.trans ?_
    rw [cE_arr hs]
    congr 4
    unfold aC
    simp only
    congr 4
    congr 1
    funext q
    by_cases hq : q = x
    · simp [ru, va_up, hq]
    · simp [ru, va_up, hq]
  exact k p e s m args below meth c H1 locs1 cells slots E ρ lsA hC hS0 ⟨by rw [eW]; exact hP1, by rw [eW]; exact hD1, hR.2.2⟩ hS1 hl
end GCtor
/-- LAW_USUAL's copy in the cell k -/
def hlu (h : HI) (k : Nat) : HI := fun a b => if a = k then lawv 2 b else h a b
theorem hlu_ne {h : HI} {k : Nat} : ∀ a, a ≠ k → hlu h k a = h a := by
  intro a ha
  funext b
  simp [hlu, ha]
def CloneW (own : String) (idx : Nat) : Prop := Cond.methodLink own idx ⟨"[I", "clone", "()Ljava/lang/Object;"⟩ ∈ TB ∧ Cond.sameMethod "[I" "java/lang/Object" "clone" "()Ljava/lang/Object;" ∈ TB ∧ Cond.native ⟨"java/lang/Object", "clone", "()Ljava/lang/Object;"⟩ ∈ TB ∧ Cond.instanceMethod ⟨"java/lang/Object", "clone", "()Ljava/lang/Object;"⟩ ∈ TB ∧ Cond.selects "[I" ⟨"[I", "clone", "()Ljava/lang/Object;"⟩ ⟨"java/lang/Object", "clone", "()Ljava/lang/Object;"⟩ ∈ TB ∧ Cond.castable "[I" "java/lang/Cloneable" ∈ lw_tbl
theorem strI : ("[" ++ FieldType.int.toString) = "[I" := by decide +kernel
theorem findI {E : GE} {s : State} (hK : va_K (geD E) vwCl (gT (geC E)) s) : s.vm.findClass "[I" = some (geC E 0) := by
  have h := (hK.2 0 (geC E 0, .int) rfl).2
  unfold va_RA at h
  simp only at h
  rw [strI] at h
  exact h
theorem lawExact : Cond.exactly (.static "DeadPacks" "LAW_USUAL" "[I") "[I" ∈ flatC (Jvm.Cond.and given_1 narrow_1) := by decide +kernel
theorem law_cls {E : GE} {s0 : State} (h0 : gS0 E s0) {scr : Cell} (hs : s0.heap[geS E 2]? = some scr) : scr.cls = geC E 0 := by
  have hex := flat_of_before _ h0.2.2.2.2.2.1 _ lawExact
  obtain ⟨a, c, cell, k, hev, hfc, hcell, -, -, hcls, -⟩ := Cond.exactly_spec hex
  obtain ⟨cf, kf, fi, f, aa, cell2, z1, z2, z3, z4, z5, z6, z7, z8⟩ := (h0.2.2.2.2.2.2 2 (by decide)).1
  obtain ⟨-, a', cell', ha', hcell', -, hslot⟩ := Term.static_spec z1 hev
  cases z4.symm.trans ha'
  cases z5.symm.trans hcell'
  have e1 := z7.symm.trans hslot
  simp only [Option.some.injEq, Value.ref.injEq] at e1
  rw [e1] at hs
  cases hs.symm.trans hcell
  rw [hcls]
  exact Option.some.inj (hfc.symm.trans (findI h0.1))
section GClone
variable {l : Launch} {D mc ms : Nat} {i : MT} {z : ZR} {pc : Nat} {ls st : List AV} {h : HI} {Q : Option AV → HI → ZR → Prop} {idx : Nat}
theorem g_clone {mc' ms' : Nat} (hd : decode i.2.1 pc = .ok (.invokevirtual idx, 3)) (hw : CloneW i.1.cls idx) (hs : SH z.2 = .inr (0, 9)) (hzb : zb z) (hz1 : z.2 < 1000000) (hmc : mc' + 1 = mc) (hms : ms' + 9 = ms) (hls : ls.all (avlt z.2) = true) (hst : st.all (avlt z.2) = true) (hsm : (st.map acat).sum ≤ 8)
    (k : G l (D + 1) mc' ms' i (rz z.1 z.2, z.2 + 1) (pc + 3) ls (aP z.2 :: st) (hlu h z.2) Q) : G l (D + 1) mc ms i z pc ls (aP 1000002 :: st) h Q := by
  intro p e s m args below meth c H locs cells slots E ρ lsA hC hS0 hR hS hl
  obtain ⟨hx, hb, hr, hml, hown, hts, hlk, hnm⟩ := id hC
  obtain ⟨-, hB, s0, h0, hW, hq⟩ := id hS0
  subst hmc
  subst hms
  obtain ⟨w1, w2, w3, w4, w5, w6⟩ := hw
  have hlt : geS E 2 < geB E := (h0.2.2.2.2.2.2 2 (by decide)).2.2.2
  obtain ⟨scr, c1, c2, c3, c4, c5⟩ := (h0.2.2.2.2.2.2 2 (by decide)).2.2.1
  have hcls := law_cls h0 c1
  have hH : H[geS E 2]? = some scr := by
    rw [hS.2.1 _ (Nat.lt_of_lt_of_le hlt hB) (Nat.not_le.mpr hlt), hq _ hlt]
    exact c1
  have c2' := State.isArrayOf_alike hW.alike c2
  have hca : va_Nw (.castable "[I" "java/lang/Cloneable") s := va_Nw.warmC hW (va_Nw.of rfl (h0.2.2.2.2.1 _ w6))
  obtain ⟨cc0, ccl, f1, f2, f3⟩ := Cond.castable_spec (va_Nw.use (A := args) rfl hca)
  have f0 := findI hS0.1
  cases f0.symm.trans f1
  have hv : (({ cls := scr.cls, slots := scr.slots } : Cell)) = vp_cell (geC E 0) (9, .inl (fun j => Int32.ofInt (lawv 2 j))) := by
    rw [hcls]
    show (_ : Cell) = arrV (geC E 0) 9 (fun j => .int (Int32.ofInt (lawv 2 j)))
    unfold arrV
    congr 1
    apply Array.ext
    · simp [c4]
    · intro q q1 q2
      have := c5 q (by rw [← c4]; exact q1)
      rw [Array.getElem?_eq_getElem q1] at this
      simp only [Array.getElem_ofFn]
      exact Option.some.inj this
  intro T hT X
  obtain ⟨kS, hkS, compS, hkindS⟩ := c2'.2
  obtain ⟨-, kA, hkA, comp, hkind⟩ := State.isArrayOf_alike X.warmed.alike c2'
  have hstk : List.map (cV ρ) (aP 1000002 :: st) = .ref (geS E 2) :: st.map (cV ρ) := by
    simp only [List.map_cons, cV, cR, Option.map_some, va_rf]
    rw [hR.2.2.2.1 2 (by decide)]
  obtain ⟨vm', X', stp⟩ := X.cloneArray hx hown (hts _ w1) (hts _ w2) (hts _ w3) (hts _ w4) (hts _ w5) (a := geS E 2) (cell := scr) (by rw [hT]; exact hH) c2'.1 c3 (by rw [hcls]; exact f0) f2 (by rw [hcls]; exact f3)
    (fun q v hv => by
      have hk' : T.vm.classes[scr.cls]? = some kA := hkA
      have hq9 : q < 9 := by
        rw [← c4]
        exact (Array.getElem?_eq_some_iff.mp hv).1
      rw [c5 q hq9] at hv
      cases hv
      simp [State.fitsSlot, State.slotType?, hk', hkind, fits])
    (g := F0 m pc lsA (List.map (cV ρ) (aP 1000002 :: st))) rfl (hl.1.trans hml.symm) hstk (by rw [hb]; exact hd) (by show 1 ≤ D + 1; omega) (by rw [acat_sum]; show 2 * 0 + _ + 14 ≤ 44 * (D + 1); omega) (by show cells + 1 ≤ cells + (mc' + 1); omega) (by rw [c4]; show slots + 9 ≤ slots + (ms' + 9); omega) (hloader := Vm.clonesLoader_of_array hkS hkindS)
  rw [hv] at X' stp
  rw [c4] at X'
  generalize hH1 : H.push (vp_cell (geC E 0) (9, .inl (fun j => Int32.ofInt (lawv 2 j)))) = H1
  have z1 : H1.size = H.size + 1 := by rw [← hH1, Array.size_push]
  have e1 : H1[H.size]? = some (vp_cell (geC E 0) (9, .inl (fun j => Int32.ofInt (lawv 2 j)))) := by rw [← hH1, Array.getElem?_push_size]
  have o1 : ∀ q : Nat, q < H.size → H1[q]? = H[q]? := fun q hq => by rw [← hH1, Array.getElem?_push, if_neg (Nat.ne_of_lt hq)]
  have hk : ∀ (k : Nat) (y : Nat × va_E), (gW (geC E) ρ h z)[k]? = some y → H1[y.1]? = H[y.1]? := fun k y hy => o1 y.1 ((hR.1 k y hy).lt)
  have hP1 : va_P (geD E) vwCl (gW (geC E) ρ h z ++ [(H.size, .inl (geC E 0, 9, .inl (fun j => Int32.ofInt (lawv 2 j))))]) H1 := (hR.1.kept hk).app (fun k y hy => by
      have hz : k < 1 := (List.getElem?_eq_some_iff.mp hy).1
      rw [show k = 0 by omega] at hy
      cases hy
      exact e1)
  have hD1 : va_D (gA E) (gW (geC E) ρ h z ++ [(H.size, .inl (geC E 0, 9, .inl (fun j => Int32.ofInt (lawv 2 j))))]) := hR.2.1.push hR.1 rfl (gA_of hS0 _ hS.1)
  have hS1 : va_S (gA E) s.heap H1 locs := ⟨Nat.le_trans hS.1 (by omega), fun y h1 h2 => (o1 y (Nat.lt_of_lt_of_le h1 hS.1)).trans (hS.2.1 y h1 h2), hS.2.2⟩
  have he : cE (geC E) (fun k => if k = z.2 then H.size else ρ k) (hlu h z.2) (rz z.1 z.2) z.2 = .inl (geC E 0, 9, .inl (fun j => Int32.ofInt (lawv 2 j))) := by
    rw [cE_arr hs]
    congr 2
    congr 1
    unfold aC
    simp [hlu]
  have k2 := g_made (l := l) (e := e) (below := below) (cells := cells) (slots := slots) (N := 9) hlu_ne hC hS0 hR hl hzb hz1 hls hst he hP1 hD1 hS1 k
  obtain ⟨t, b1, b2⟩ := k2 ((T.setVm vm').pushCell (vp_cell (geC E 0) (9, .inl (fun j => Int32.ofInt (lawv 2 j))))) (by rw [← hH1, ← hT]; rfl) X'
  refine ⟨t, stp t ?_, b2⟩
  rw [hT]
  exact b1
theorem g_castI {a len : Nat} (hd : decode i.2.1 pc = .ok (.checkcast idx, 3)) (hw : Cond.classLink i.1.cls idx "[I" ∈ TB) (hs : SH a = .inr (0, len)) (ha : a < z.2) (k : G l D mc ms i z (pc + 3) ls (aP a :: st) h Q) : G l D mc ms i z pc ls (aP a :: st) h Q := by
  intro p e s m args below meth c H locs cells slots E ρ lsA hC hS0 hR hS hl
  obtain ⟨hx, hb, hr, hml, hown, hts, hlk, hnm⟩ := id hC
  exact va_castA hx hb hown (hts _ hw) hR.1 a (by rw [gW_at ha, cE_arr hs]) (findI hS0.1) hd (k p e s m args below meth c H locs cells slots E ρ lsA hC hS0 hR hS hl)
end GClone
