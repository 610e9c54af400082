/-! cells in their order: the references after so many steps (0: a cell is made; 1: a reference is put) -/
def zstep (z : ZR) (e : Nat × Nat × Nat × Nat) : ZR := match e with
  | (0, _, _, _) => (rz z.1 z.2, z.2 + 1)
  | (_, a, j, v) => (ru z.1 a j (some v), z.2)
def zev (z0 : ZR) (ev : List (Nat × Nat × Nat × Nat)) : Nat → ZR
  | 0 => z0
  | t + 1 => match ev[t]? with
    | some e => zstep (zev z0 ev t) e
    | none => zev z0 ev t
theorem hz_of {h : HI} {k : Nat} (hh : ∀ j, h k j = 0) : hz h k = h := by
  funext a b
  by_cases q : a = k
  · subst q; simp [hz, hh]
  · simp [hz, q]
theorem zb_alloc {z : ZR} (h : zb z) : zb (rz z.1 z.2, z.2 + 1) := by
  intro a j v ha hv
  simp only [rz] at hv ha ⊢
  by_cases q : a = z.2
  · rw [if_pos q] at hv; cases hv
  · rw [if_neg q] at hv
    have := h a j v (by omega) hv
    omega
theorem zb_put {z : ZR} {a j v : Nat} (h : zb z) (hv : v < z.2) : zb (ru z.1 a j (some v), z.2) := by
  intro a' j' v' ha hq
  simp only [ru] at hq ha ⊢
  split at hq
  · cases hq; exact hv
  · exact h a' j' v' ha hq
/-- each put leads to a cell that there is -/
def evok : List (Nat × Nat × Nat × Nat) → Nat → Bool
  | [], _ => true
  | (0, _, _, _) :: t, n => evok t (n + 1)
  | (_, _, _, v) :: t, n => Nat.blt v n && evok t n
def evn : List (Nat × Nat × Nat × Nat) → Nat → Nat
  | [], n => n
  | (0, _, _, _) :: t, n => evn t (n + 1)
  | (_ + 1, _, _, _) :: t, n => evn t n
theorem zev_take {z0 : ZR} {ev : List (Nat × Nat × Nat × Nat)} {x : Nat × Nat × Nat × Nat} {e2 : List (Nat × Nat × Nat × Nat)} : ∀ {t : Nat}, t ≤ ev.length → zev z0 (ev ++ e2) t = zev z0 ev t
  | 0, _ => rfl
  | t + 1, h => by
    have ih := zev_take (z0 := z0) (ev := ev) (x := x) (e2 := e2) (t := t) (by omega)
    have e1 : (ev ++ e2)[t]? = ev[t]? := List.getElem?_append_left (by omega)
    simp only [zev, e1, ih]
theorem zev_cons {z0 : ZR} {e : Nat × Nat × Nat × Nat} {ev : List (Nat × Nat × Nat × Nat)} : ∀ {t : Nat}, zev z0 (e :: ev) (t + 1) = zev (zstep z0 e) ev t
  | 0 => rfl
  | t + 1 => by
    have ih := zev_cons (z0 := z0) (e := e) (ev := ev) (t := t)
    show (match (e :: ev)[t + 1]? with | some x => zstep (zev z0 (e :: ev) (t + 1)) x | none => zev z0 (e :: ev) (t + 1)) = _
    rw [ih, List.getElem?_cons_succ]
    rfl
theorem zb_zev : ∀ {ev : List (Nat × Nat × Nat × Nat)} {z0 : ZR}, zb z0 → evok ev z0.2 = true → ∀ t, zb (zev z0 ev t)
  | [], z0, h, _, t => by
    induction t with
    | zero => exact h
    | succ t ih => exact ih
  | (k, a, j, v) :: ev, z0, h, hok, t => by
    cases t with
    | zero => exact h
    | succ t =>
      rw [zev_cons]
      cases k with
      | zero => exact zb_zev (zb_alloc h) hok t
      | succ k =>
        simp only [evok, Bool.and_eq_true, Nat.blt_eq] at hok
        exact zb_zev (zb_put h hok.1) hok.2 t
section GNew0
variable {l : Launch} {d mc ms : Nat} {i : MT} {z z' : ZR} {pc n : Nat} {ls st : List AV} {h : HI} {Q : Option AV → HI → ZR → Prop}
theorem g_new0 {idx ci mc' ms' : Nat} (hn : z.2 = n) (hz' : z' = (rz z.1 z.2, z.2 + 1)) (hd : decode i.2.1 pc = .ok (.new idx, 3)) (hw : NewW i.1.cls idx ci) (hs : SH n = .inl ci) (hzb : zb z) (hz1 : n < 1000000) (hh : ∀ j, h n j = 0) (hmc : mc' + 1 = mc) (hms : ms' + fN ci = ms) (hls : ls.all (avlt n) = true) (hst : st.all (avlt n) = true)
    (k : G l d mc' ms' i z' (pc + 3) ls (aP n :: st) h Q) : G l d mc ms i z pc ls st h Q := by
  subst hn
  subst hz'
  refine g_new hd hw hs hzb hz1 hmc hms hls hst ?_
  rw [hz_of hh]
  exact k
theorem g_newarr0 {at' : ArrayType} {t N mc' ms' : Nat} {N' : Int} (hn : z.2 = n) (hz' : z' = (rz z.1 z.2, z.2 + 1)) (hd : decode i.2.1 pc = .ok (.newarray at', 2)) (hw : Cond.arrayClass (aty t) ∈ TB) (hat : newarray.typeOf at' = aty t) (ht : t < 4) (hs : SH n = .inr (t, N)) (hN : N ≤ 100000) (hN' : N' = N) (hzb : zb z) (hz1 : n < 1000000) (hh : ∀ j, h n j = 0) (hmc : mc' + 1 = mc) (hms : ms' + N = ms) (hls : ls.all (avlt n) = true) (hst : st.all (avlt n) = true)
    (k : G l d mc' ms' i z' (pc + 2) ls (aP n :: st) h Q) : G l d mc ms i z pc ls (aI N' :: st) h Q := by
  subst hn
  subst hz'
  subst hN'
  refine g_newarr hd hw hat ht hs hN hzb hz1 hmc hms hls hst ?_
  rw [hz_of hh]
  exact k
theorem g_anew0 {idx N mc' ms' : Nat} {N' : Int} (hn : z.2 = n) (hz' : z' = (rz z.1 z.2, z.2 + 1)) (hd : decode i.2.1 pc = .ok (.anewarray idx, 3)) (hw : Cond.classLink i.1.cls idx "DeadPacks$Stock" ∈ TB) (hw2 : Cond.arrayOver (.object "DeadPacks$Stock") ∈ lw_tbl) (hs : SH n = .inr (4, N)) (hN : N ≤ 1000) (hN' : N' = N) (hzb : zb z) (hz1 : n < 1000000) (hh : ∀ j, h n j = 0) (hmc : mc' + 1 = mc) (hms : ms' + N = ms) (hls : ls.all (avlt n) = true) (hst : st.all (avlt n) = true)
    (k : G l d mc' ms' i z' (pc + 3) ls (aP n :: st) h Q) : G l d mc ms i z pc ls (aI N' :: st) h Q := by
  subst hn
  subst hz'
  subst hN'
  refine g_anew hd hw hw2 hs hN hzb hz1 hmc hms hls hst ?_
  rw [hz_of hh]
  exact k
theorem g_clone0 {idx mc' ms' : Nat} (hn : z.2 = n) (hz' : z' = (rz z.1 z.2, z.2 + 1)) (hd : decode i.2.1 pc = .ok (.invokevirtual idx, 3)) (hw : CloneW i.1.cls idx) (hs : SH n = .inr (0, 9)) (hzb : zb z) (hz1 : n < 1000000) (hmc : mc' + 1 = mc) (hms : ms' + 9 = ms) (hls : ls.all (avlt n) = true) (hst : st.all (avlt n) = true) (hsm : (st.map acat).sum ≤ 8)
    (k : G l (d + 1) mc' ms' i z' (pc + 3) ls (aP n :: st) (hlu h n) Q) : G l (d + 1) mc ms i z pc ls (aP 1000002 :: st) h Q := by
  subst hn
  subst hz'
  exact g_clone hd hw hs hzb hz1 hmc hms hls hst hsm k
theorem g_putF0 {idx ci j a v : Nat} (hz' : z' = (ru z.1 a j (some v), z.2)) (hd : decode i.2.1 pc = .ok (.putfield idx, 3)) (hf : FLk i.1.cls idx ci j true) (hs : SH a = .inl ci) (ha : a < z.2) (ht : ∀ (ρ : Nat → Nat) (x : Int) (o : Option Nat), fV ρ (fT ci j) x o = cR ρ o) (hn : ∀ (ρ : Nat → Nat) (o : Option Nat), narrow (fT ci j) (cR ρ o) = cR ρ o ∧ fits (fT ci j) (cR ρ o) = true) (hi : i.1.name = "<init>") (hi2 : (vwCl[ci]?).map (fun q => q.1) = some i.1.cls) (kk : G l d mc ms i z' (pc + 3) ls st h Q) : G l d mc ms i z pc ls (aP v :: aP a :: st) h Q := by
  subst hz'
  exact g_putF hd hf hs ha ht hn hi hi2 kk
theorem g_putR0 {idx ci j a v : Nat} (hz' : z' = (ru z.1 a j (some v), z.2)) (hd : decode i.2.1 pc = .ok (.putfield idx, 3)) (hf : FLk i.1.cls idx ci j false) (hs : SH a = .inl ci) (ha : a < z.2) (ht : ∀ (ρ : Nat → Nat) (x : Int) (o : Option Nat), fV ρ (fT ci j) x o = cR ρ o) (hn : ∀ (ρ : Nat → Nat) (o : Option Nat), narrow (fT ci j) (cR ρ o) = cR ρ o ∧ fits (fT ci j) (cR ρ o) = true) (kk : G l d mc ms i z' (pc + 3) ls st h Q) : G l d mc ms i z pc ls (aP v :: aP a :: st) h Q := by
  subst hz'
  exact g_putR hd hf hs ha ht hn kk
/-- another writing of the references, the same at the cells that there are -/
theorem g_zc (hn : z'.2 = z.2) (hr : ∀ a, a < z.2 → z'.1 a = z.1 a) (k : G l d mc ms i z' pc ls st h Q) : G l d mc ms i z pc ls st h Q := by
  intro p e s m args below meth c H locs cells slots E ρ lsA hC hS0 hR hS hl
  have eW : gW (geC E) ρ h z' = gW (geC E) ρ h z := by
    unfold gW
    rw [hn]
    apply List.map_congr_left
    intro a ha
    rw [cE_same rfl (hr a (List.mem_range.mp ha))]
  have := k p e s m args below meth c H locs cells slots E ρ lsA hC hS0 ⟨by rw [eW]; exact hR.1, by rw [eW]; exact hR.2.1, by rw [hn]; exact hR.2.2.1, hR.2.2.2⟩ hS hl
  rw [hn] at this
  exact this
end GNew0
theorem narR {ty : FieldType} (h : (match ty with | .object _ => true | .array _ => true | _ => false) = true) (ρ : Nat → Nat) (o : Option Nat) : narrow ty (cR ρ o) = cR ρ o ∧ fits ty (cR ρ o) = true := by
  cases ty <;> first | (cases o <;> exact ⟨rfl, rfl⟩) | (cases h)
