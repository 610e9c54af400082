section GHeap
variable {l : Launch} {d mc ms : Nat} {i : MT} {z : ZR} {pc : Nat} {ls st : List AV} {h : HI} {Q : Option AV → HI → ZR → Prop}
theorem g_getI {idx ci j a : Nat} {fin : Bool} {J : Int} (hd : decode i.2.1 pc = .ok (.getfield idx, 3)) (hf : FLk i.1.cls idx ci j fin) (hs : SH a = .inl ci) (ha : a < z.2) (ht : ∀ (ρ : Nat → Nat) (x : Int) (o : Option Nat), fV ρ (fT ci j) x o = .int (Int32.ofInt x)) (hJ : (j : Int) = J) (kk : G l d mc ms i z (pc + 3) ls (aI (h a J) :: st) h Q) : G l d mc ms i z (pc) ls (aP a :: st) h Q := by
  intro p e s m args below meth c H locs cells slots E ρ lsA hC hS0 hR hS hl
  obtain ⟨hx, hb, hr, hml, hown, hts, hlk, hnm⟩ := id hC
  obtain ⟨C, T, ⟨hc, hin, hty, hnn⟩, hj, -, -, hw⟩ := hf
  refine va_get hx hb hts hin hown hS0.1 hR.1 a (by rw [gW_at ha, cE_obj hs]) hc j hj (hts _ hw) (fun _ q => q) (v := cV ρ (aI (h a J))) ?_ hd (kk p e s m args below meth c H locs cells slots E ρ lsA hC hS0 hR hS hl)
  rw [← hJ]
  simp [hj, ht, cV]
theorem g_getJ {idx ci j a : Nat} {fin : Bool} {J : Int} (hd : decode i.2.1 pc = .ok (.getfield idx, 3)) (hf : FLk i.1.cls idx ci j fin) (hs : SH a = .inl ci) (ha : a < z.2) (ht : ∀ (ρ : Nat → Nat) (x : Int) (o : Option Nat), fV ρ (fT ci j) x o = .long (Int64.ofInt x)) (hJ : (j : Int) = J) (kk : G l d mc ms i z (pc + 3) ls (aL (h a J) :: st) h Q) : G l d mc ms i z (pc) ls (aP a :: st) h Q := by
  intro p e s m args below meth c H locs cells slots E ρ lsA hC hS0 hR hS hl
  obtain ⟨hx, hb, hr, hml, hown, hts, hlk, hnm⟩ := id hC
  obtain ⟨C, T, ⟨hc, hin, hty, hnn⟩, hj, -, -, hw⟩ := hf
  refine va_get hx hb hts hin hown hS0.1 hR.1 a (by rw [gW_at ha, cE_obj hs]) hc j hj (hts _ hw) (fun _ q => q) (v := cV ρ (aL (h a J))) ?_ hd (kk p e s m args below meth c H locs cells slots E ρ lsA hC hS0 hR hS hl)
  rw [← hJ]
  simp [hj, ht, cV]
theorem g_getR {idx ci j a : Nat} {fin : Bool} {v : Option Nat} (hd : decode i.2.1 pc = .ok (.getfield idx, 3)) (hf : FLk i.1.cls idx ci j fin) (hs : SH a = .inl ci) (ha : a < z.2) (ht : ∀ (ρ : Nat → Nat) (x : Int) (o : Option Nat), fV ρ (fT ci j) x o = cR ρ o) (hv : z.1 a j = v) (kk : G l d mc ms i z (pc + 3) ls (aR v :: st) h Q) : G l d mc ms i z (pc) ls (aP a :: st) h Q := by
  intro p e s m args below meth c H locs cells slots E ρ lsA hC hS0 hR hS hl
  obtain ⟨hx, hb, hr, hml, hown, hts, hlk, hnm⟩ := id hC
  obtain ⟨C, T, ⟨hc, hin, hty, hnn⟩, hj, -, -, hw⟩ := hf
  refine va_get hx hb hts hin hown hS0.1 hR.1 a (by rw [gW_at ha, cE_obj hs]) hc j hj (hts _ hw) (fun _ q => q) (v := cV ρ (aR v)) ?_ hd (kk p e s m args below meth c H locs cells slots E ρ lsA hC hS0 hR hS hl)
  simp [hj, ht, cV, hv]
theorem g_putI {idx ci j a : Nat} {J x : Int} (hd : decode i.2.1 pc = .ok (.putfield idx, 3)) (hf : FLk i.1.cls idx ci j false) (hs : SH a = .inl ci) (ha : a < z.2) (ht : fT ci j = .int) (hJ : (j : Int) = J) (kk : G l d mc ms i z (pc + 3) ls (st) (hu h a J x) Q) : G l d mc ms i z (pc) ls (aI x :: aP a :: st) h Q := by
  intro p e s m args below meth c H locs cells slots E ρ lsA hC hS0 hR hS hl
  obtain ⟨hx, hb, hr, hml, hown, hts, hlk, hnm⟩ := id hC
  obtain ⟨C, T, ⟨hc, hin, hty, hnn⟩, hj, hfin, -, hw⟩ := hf
  refine va_put hx hb hts hin (fT ci) hty hnn hown hS0.1 hR.1 hR.2.1 hS a (by rw [gW_at ha, cE_obj hs]) hc j hj (hts _ hw) (fun _ q => q) hfin (v := .int (Int32.ofInt x)) ((hty j hj).trans (congrArg some ht)) rfl rfl (by simp; exact hj) hd (fun H1 locs1 hP1 hD1 hS1 => ?_)
  have eW : gW (geC E) ρ (hu h a J x) z = (gW (geC E) ρ h z).set a (ρ a, .inr (ci, ((List.range (fN ci)).map (fun i => fV ρ (fT ci i) (h a i) (z.1 a i))).set j (.int (Int32.ofInt x)))) := by
    have e1 := gW_set (ca := geC E) (ρ := ρ) (h := h) (h' := hu h a J x) (r := z.1) (r' := z.1) (n := z.2) (k := a) hu_ne (fun _ _ => rfl)
    rw [← hJ, cE_put hs hj, ht] at e1
    rw [← hJ]
    exact e1
  exact kk p e s m args below meth c H1 locs1 cells slots E ρ lsA hC hS0 ⟨by rw [eW]; exact hP1, by rw [eW]; exact hD1, hR.2.2.1, hR.2.2.2.1, hR.2.2.2.2.1, gSc_to ha hR.2.2.1 hu_ne hR.2.2.2.2.2⟩ hS1 hl
theorem g_putZ {idx ci j a : Nat} {J x : Int} (hd : decode i.2.1 pc = .ok (.putfield idx, 3)) (hf : FLk i.1.cls idx ci j false) (hs : SH a = .inl ci) (ha : a < z.2) (ht : fT ci j = .boolean) (hJ : (j : Int) = J) (hz : x = 0 ∨ x = 1) (kk : G l d mc ms i z (pc + 3) ls (st) (hu h a J x) Q) : G l d mc ms i z (pc) ls (aI x :: aP a :: st) h Q := by
  intro p e s m args below meth c H locs cells slots E ρ lsA hC hS0 hR hS hl
  obtain ⟨hx, hb, hr, hml, hown, hts, hlk, hnm⟩ := id hC
  obtain ⟨C, T, ⟨hc, hin, hty, hnn⟩, hj, hfin, -, hw⟩ := hf
  refine va_put hx hb hts hin (fT ci) hty hnn hown hS0.1 hR.1 hR.2.1 hS a (by rw [gW_at ha, cE_obj hs]) hc j hj (hts _ hw) (fun _ q => q) hfin (v := .int (Int32.ofInt x)) ((hty j hj).trans (congrArg some ht)) (nar_z hz) (by rcases hz with rfl | rfl <;> rfl) (by simp; exact hj) hd (fun H1 locs1 hP1 hD1 hS1 => ?_)
  have eW : gW (geC E) ρ (hu h a J x) z = (gW (geC E) ρ h z).set a (ρ a, .inr (ci, ((List.range (fN ci)).map (fun i => fV ρ (fT ci i) (h a i) (z.1 a i))).set j (.int (Int32.ofInt x)))) := by
    have e1 := gW_set (ca := geC E) (ρ := ρ) (h := h) (h' := hu h a J x) (r := z.1) (r' := z.1) (n := z.2) (k := a) hu_ne (fun _ _ => rfl)
    rw [← hJ, cE_put hs hj, ht] at e1
    rw [← hJ]
    exact e1
  exact kk p e s m args below meth c H1 locs1 cells slots E ρ lsA hC hS0 ⟨by rw [eW]; exact hP1, by rw [eW]; exact hD1, hR.2.2.1, hR.2.2.2.1, hR.2.2.2.2.1, gSc_to ha hR.2.2.1 hu_ne hR.2.2.2.2.2⟩ hS1 hl
theorem g_putJ {idx ci j a : Nat} {J x : Int} (hd : decode i.2.1 pc = .ok (.putfield idx, 3)) (hf : FLk i.1.cls idx ci j false) (hs : SH a = .inl ci) (ha : a < z.2) (ht : fT ci j = .long) (hJ : (j : Int) = J) (kk : G l d mc ms i z (pc + 3) ls (st) (hu h a J x) Q) : G l d mc ms i z (pc) ls (aL x :: aP a :: st) h Q := by
  intro p e s m args below meth c H locs cells slots E ρ lsA hC hS0 hR hS hl
  obtain ⟨hx, hb, hr, hml, hown, hts, hlk, hnm⟩ := id hC
  obtain ⟨C, T, ⟨hc, hin, hty, hnn⟩, hj, hfin, -, hw⟩ := hf
  refine va_put hx hb hts hin (fT ci) hty hnn hown hS0.1 hR.1 hR.2.1 hS a (by rw [gW_at ha, cE_obj hs]) hc j hj (hts _ hw) (fun _ q => q) hfin (v := .long (Int64.ofInt x)) ((hty j hj).trans (congrArg some ht)) rfl rfl (by simp; exact hj) hd (fun H1 locs1 hP1 hD1 hS1 => ?_)
  have eW : gW (geC E) ρ (hu h a J x) z = (gW (geC E) ρ h z).set a (ρ a, .inr (ci, ((List.range (fN ci)).map (fun i => fV ρ (fT ci i) (h a i) (z.1 a i))).set j (.long (Int64.ofInt x)))) := by
    have e1 := gW_set (ca := geC E) (ρ := ρ) (h := h) (h' := hu h a J x) (r := z.1) (r' := z.1) (n := z.2) (k := a) hu_ne (fun _ _ => rfl)
    rw [← hJ, cE_put hs hj, ht] at e1
    rw [← hJ]
    exact e1
  exact kk p e s m args below meth c H1 locs1 cells slots E ρ lsA hC hS0 ⟨by rw [eW]; exact hP1, by rw [eW]; exact hD1, hR.2.2.1, hR.2.2.2.1, hR.2.2.2.2.1, gSc_to ha hR.2.2.1 hu_ne hR.2.2.2.2.2⟩ hS1 hl
theorem g_putR {idx ci j a : Nat} {v : Option Nat} (hd : decode i.2.1 pc = .ok (.putfield idx, 3)) (hf : FLk i.1.cls idx ci j false) (hs : SH a = .inl ci) (ha : a < z.2) (ht : ∀ (ρ : Nat → Nat) (x : Int) (o : Option Nat), fV ρ (fT ci j) x o = cR ρ o) (hn : ∀ (ρ : Nat → Nat) (o : Option Nat), narrow (fT ci j) (cR ρ o) = cR ρ o ∧ fits (fT ci j) (cR ρ o) = true) (kk : G l d mc ms i (ru z.1 a j v, z.2) (pc + 3) ls (st) h Q) : G l d mc ms i z (pc) ls (aR v :: aP a :: st) h Q := by
  intro p e s m args below meth c H locs cells slots E ρ lsA hC hS0 hR hS hl
  obtain ⟨hx, hb, hr, hml, hown, hts, hlk, hnm⟩ := id hC
  obtain ⟨C, T, ⟨hc, hin, hty, hnn⟩, hj, hfin, hdecl, hw⟩ := hf
  refine va_put hx hb hts hin (fT ci) hty hnn hown hS0.1 hR.1 hR.2.1 hS a (by rw [gW_at ha, cE_obj hs]) hc j hj (hts _ hw) (fun _ q => q) hfin (v := cR ρ v) (hty j hj) (hn ρ v).1 (hn ρ v).2 (by simp; exact hj) hd (fun H1 locs1 hP1 hD1 hS1 => ?_)
  have eW : gW (geC E) ρ h (ru z.1 a j v, z.2) = (gW (geC E) ρ h z).set a (ρ a, .inr (ci, ((List.range (fN ci)).map (fun i => fV ρ (fT ci i) (h a i) (z.1 a i))).set j (cR ρ v))) := by
    have e1 := gW_set (ca := geC E) (ρ := ρ) (h := h) (h' := h) (r := z.1) (r' := ru z.1 a j v) (n := z.2) (k := a) (fun _ _ => rfl) ru_ne
    rw [cE_putR hs hj, ht] at e1
    exact e1
  exact kk p e s m args below meth c H1 locs1 cells slots E ρ lsA hC hS0 ⟨by rw [eW]; exact hP1, by rw [eW]; exact hD1, hR.2.2⟩ hS1 hl
theorem g_putF {idx ci j a : Nat} {v : Option Nat} (hd : decode i.2.1 pc = .ok (.putfield idx, 3)) (hf : FLk i.1.cls idx ci j true) (hs : SH a = .inl ci) (ha : a < z.2) (ht : ∀ (ρ : Nat → Nat) (x : Int) (o : Option Nat), fV ρ (fT ci j) x o = cR ρ o) (hn : ∀ (ρ : Nat → Nat) (o : Option Nat), narrow (fT ci j) (cR ρ o) = cR ρ o ∧ fits (fT ci j) (cR ρ o) = true) (hi : i.1.name = "<init>") (hi2 : (vwCl[ci]?).map (fun q => q.1) = some i.1.cls) (kk : G l d mc ms i (ru z.1 a j v, z.2) (pc + 3) ls (st) h Q) : G l d mc ms i z (pc) ls (aR v :: aP a :: st) h Q := by
  intro p e s m args below meth c H locs cells slots E ρ lsA hC hS0 hR hS hl
  obtain ⟨hx, hb, hr, hml, hown, hts, hlk, hnm⟩ := id hC
  obtain ⟨C, T, ⟨hc, hin, hty, hnn⟩, hj, hfin, hdecl, hw⟩ := hf
  refine va_putF hx hb hts hin (fT ci) hty hnn hown hS0.1 hR.1 hR.2.1 hS a (by rw [gW_at ha, cE_obj hs]) hc j hj (hts _ hw) (fun _ q => q) hfin (hnm.trans hi) (hdecl.trans (by rw [hc] at hi2; exact Option.some.inj hi2)) (v := cR ρ v) (hty j hj) (hn ρ v).1 (hn ρ v).2 (by simp; exact hj) hd (fun H1 locs1 hP1 hD1 hS1 => ?_)
  have eW : gW (geC E) ρ h (ru z.1 a j v, z.2) = (gW (geC E) ρ h z).set a (ρ a, .inr (ci, ((List.range (fN ci)).map (fun i => fV ρ (fT ci i) (h a i) (z.1 a i))).set j (cR ρ v))) := by
    have e1 := gW_set (ca := geC E) (ρ := ρ) (h := h) (h' := h) (r := z.1) (r' := ru z.1 a j v) (n := z.2) (k := a) (fun _ _ => rfl) ru_ne
    rw [cE_putR hs hj, ht] at e1
    exact e1
  exact kk p e s m args below meth c H1 locs1 cells slots E ρ lsA hC hS0 ⟨by rw [eW]; exact hP1, by rw [eW]; exact hD1, hR.2.2⟩ hS1 hl
theorem g_iald {a len : Nat} {x : Int} (hd : decode i.2.1 pc = .ok (.iaload, 1)) (hs : SH a = .inr (0, len)) (ha : a < z.2) (hlen : len ≤ 2147483647) (h1 : 0 ≤ x ∧ x < len) (kk : G l d mc ms i z (pc + 1) ls (aI (h a x) :: st) h Q) : G l d mc ms i z (pc) ls (aI x :: aP a :: st) h Q := by
  intro p e s m args below meth c H locs cells slots E ρ lsA hC hS0 hR hS hl
  obtain ⟨hx, hb, hr, hml, hown, hts, hlk, hnm⟩ := id hC
  refine va_iald hx hb hS0.1 hR.1 a 0 (by rw [gW_at ha, cE_arr hs]; rfl) rfl (vp_in_of_int h1.1 h1.2 hlen) hd ?_
  rw [i32_nat h1.1 (by omega), Int.toNat_of_nonneg h1.1]
  exact kk p e s m args below meth c H locs cells slots E ρ lsA hC hS0 hR hS hl
theorem g_bald {a len : Nat} {x : Int} (hd : decode i.2.1 pc = .ok (.baload, 1)) (hs : SH a = .inr (1, len)) (ha : a < z.2) (hlen : len ≤ 2147483647) (h1 : 0 ≤ x ∧ x < len) (kk : G l d mc ms i z (pc + 1) ls (aI (h a x) :: st) h Q) : G l d mc ms i z (pc) ls (aI x :: aP a :: st) h Q := by
  intro p e s m args below meth c H locs cells slots E ρ lsA hC hS0 hR hS hl
  obtain ⟨hx, hb, hr, hml, hown, hts, hlk, hnm⟩ := id hC
  refine va_bald hx hb hS0.1 hR.1 a 1 (by rw [gW_at ha, cE_arr hs]; rfl) rfl (vp_in_of_int h1.1 h1.2 hlen) hd ?_
  rw [i32_nat h1.1 (by omega), Int.toNat_of_nonneg h1.1]
  exact kk p e s m args below meth c H locs cells slots E ρ lsA hC hS0 hR hS hl
theorem g_zald {a len : Nat} {x : Int} (hd : decode i.2.1 pc = .ok (.baload, 1)) (hs : SH a = .inr (3, len)) (ha : a < z.2) (hlen : len ≤ 2147483647) (h1 : 0 ≤ x ∧ x < len) (kk : G l d mc ms i z (pc + 1) ls (aI (h a x) :: st) h Q) : G l d mc ms i z (pc) ls (aI x :: aP a :: st) h Q := by
  intro p e s m args below meth c H locs cells slots E ρ lsA hC hS0 hR hS hl
  obtain ⟨hx, hb, hr, hml, hown, hts, hlk, hnm⟩ := id hC
  refine va_zald hx hb hS0.1 hR.1 a 3 (by rw [gW_at ha, cE_arr hs]; rfl) rfl (vp_in_of_int h1.1 h1.2 hlen) hd ?_
  rw [i32_nat h1.1 (by omega), Int.toNat_of_nonneg h1.1]
  exact kk p e s m args below meth c H locs cells slots E ρ lsA hC hS0 hR hS hl
theorem g_lald {a len : Nat} {x : Int} (hd : decode i.2.1 pc = .ok (.laload, 1)) (hs : SH a = .inr (2, len)) (ha : a < z.2) (hlen : len ≤ 2147483647) (h1 : 0 ≤ x ∧ x < len) (kk : G l d mc ms i z (pc + 1) ls (aL (h a x) :: st) h Q) : G l d mc ms i z (pc) ls (aI x :: aP a :: st) h Q := by
  intro p e s m args below meth c H locs cells slots E ρ lsA hC hS0 hR hS hl
  obtain ⟨hx, hb, hr, hml, hown, hts, hlk, hnm⟩ := id hC
  refine va_lald hx hb hS0.1 hR.1 a 2 (by rw [gW_at ha, cE_arr hs]; rfl) rfl (vp_in_of_int h1.1 h1.2 hlen) hd ?_
  rw [i32_nat h1.1 (by omega), Int.toNat_of_nonneg h1.1]
  exact kk p e s m args below meth c H locs cells slots E ρ lsA hC hS0 hR hS hl
theorem g_aald {a len : Nat} {x : Int} {v : Option Nat} (hd : decode i.2.1 pc = .ok (.aaload, 1)) (hs : SH a = .inr (4, len)) (ha : a < z.2) (hlen : len ≤ 2147483647) (h1 : 0 ≤ x ∧ x < len) (hv : z.1 a x.toNat = v) (kk : G l d mc ms i z (pc + 1) ls (aR v :: st) h Q) : G l d mc ms i z (pc) ls (aI x :: aP a :: st) h Q := by
  intro p e s m args below meth c H locs cells slots E ρ lsA hC hS0 hR hS hl
  obtain ⟨hx, hb, hr, hml, hown, hts, hlk, hnm⟩ := id hC
  refine va_aldq hx hb hS0.1 hR.1 a 4 (by rw [gW_at ha, cE_arr hs]; rfl) rfl (vp_in_of_int h1.1 h1.2 hlen) hd ?_
  rw [i32_nat h1.1 (by omega), hv]
  exact kk p e s m args below meth c H locs cells slots E ρ lsA hC hS0 hR hS hl
theorem g_iast {a len : Nat} {x v : Int} (hd : decode i.2.1 pc = .ok (.iastore, 1)) (hs : SH a = .inr (0, len)) (ha : a < z.2) (hlen : len ≤ 2147483647) (h1 : 0 ≤ x ∧ x < len) (kk : G l d mc ms i z (pc + 1) ls (st) (hu h a x (v)) Q) : G l d mc ms i z (pc) ls (aI v :: aI x :: aP a :: st) h Q := by
  intro p e s m args below meth c H locs cells slots E ρ lsA hC hS0 hR hS hl
  obtain ⟨hx, hb, hr, hml, hown, hts, hlk, hnm⟩ := id hC
  refine va_iast hx hb hS0.1 hR.1 hR.2.1 hS a 0 (by rw [gW_at ha, cE_arr hs]; rfl) rfl (vp_in_of_int h1.1 h1.2 hlen) hd (fun H1 locs1 hP1 hD1 hS1 => ?_)
  have eW : gW (geC E) ρ (hu h a x (v)) z = (gW (geC E) ρ h z).set a (ρ a, .inl (geC E 0, len, .inl (upd (fun j : Nat => Int32.ofInt (h a j)) (Int32.ofInt x).toNatClampNeg (Int32.ofInt v)))) := by
    have e1 := gW_set (ca := geC E) (ρ := ρ) (h := h) (h' := hu h a x (v)) (r := z.1) (r' := z.1) (n := z.2) (k := a) hu_ne (fun _ _ => rfl)
    refine e1.trans ?_
    rw [cE_arr hs]
    rw [i32_nat h1.1 (by omega), ← upd_int h1.1]
    rfl
  exact kk p e s m args below meth c H1 locs1 cells slots E ρ lsA hC hS0 ⟨by rw [eW]; exact hP1, by rw [eW]; exact hD1, hR.2.2.1, hR.2.2.2.1, hR.2.2.2.2.1, gSc_to ha hR.2.2.1 hu_ne hR.2.2.2.2.2⟩ hS1 hl
theorem g_bast {a len : Nat} {x v : Int} (hd : decode i.2.1 pc = .ok (.bastore, 1)) (hs : SH a = .inr (1, len)) (ha : a < z.2) (hlen : len ≤ 2147483647) (h1 : 0 ≤ x ∧ x < len) (kk : G l d mc ms i z (pc + 1) ls (st) (hu h a x (b8 v)) Q) : G l d mc ms i z (pc) ls (aI v :: aI x :: aP a :: st) h Q := by
  intro p e s m args below meth c H locs cells slots E ρ lsA hC hS0 hR hS hl
  obtain ⟨hx, hb, hr, hml, hown, hts, hlk, hnm⟩ := id hC
  refine va_bast hx hb hS0.1 hR.1 hR.2.1 hS a 1 (by rw [gW_at ha, cE_arr hs]; rfl) rfl (vp_in_of_int h1.1 h1.2 hlen) hd (fun H1 locs1 hP1 hD1 hS1 => ?_)
  have eW : gW (geC E) ρ (hu h a x (b8 v)) z = (gW (geC E) ρ h z).set a (ρ a, .inl (geC E 1, len, .inl (upd (fun j : Nat => Int32.ofInt (h a j)) (Int32.ofInt x).toNatClampNeg (vp_nar .byte (Int32.ofInt v))))) := by
    have e1 := gW_set (ca := geC E) (ρ := ρ) (h := h) (h' := hu h a x (b8 v)) (r := z.1) (r' := z.1) (n := z.2) (k := a) hu_ne (fun _ _ => rfl)
    refine e1.trans ?_
    rw [cE_arr hs]
    have e3 : vp_nar .byte (Int32.ofInt v) = Int32.ofInt (b8 v) := by rw [vp_nar_byte]; exact (i32_back _).symm
    rw [e3]
    rw [i32_nat h1.1 (by omega), ← upd_int h1.1]
    rfl
  exact kk p e s m args below meth c H1 locs1 cells slots E ρ lsA hC hS0 ⟨by rw [eW]; exact hP1, by rw [eW]; exact hD1, hR.2.2.1, hR.2.2.2.1, hR.2.2.2.2.1, gSc_to ha hR.2.2.1 hu_ne hR.2.2.2.2.2⟩ hS1 hl
theorem g_zast {a len : Nat} {x v : Int} (hd : decode i.2.1 pc = .ok (.bastore, 1)) (hs : SH a = .inr (3, len)) (ha : a < z.2) (hlen : len ≤ 2147483647) (h1 : 0 ≤ x ∧ x < len) (hz : v = 0 ∨ v = 1) (kk : G l d mc ms i z (pc + 1) ls (st) (hu h a x (v)) Q) : G l d mc ms i z (pc) ls (aI v :: aI x :: aP a :: st) h Q := by
  intro p e s m args below meth c H locs cells slots E ρ lsA hC hS0 hR hS hl
  obtain ⟨hx, hb, hr, hml, hown, hts, hlk, hnm⟩ := id hC
  refine va_zast hx hb hS0.1 hR.1 hR.2.1 hS a 3 (by rw [gW_at ha, cE_arr hs]; rfl) rfl (vp_in_of_int h1.1 h1.2 hlen) hd (fun H1 locs1 hP1 hD1 hS1 => ?_)
  have eW : gW (geC E) ρ (hu h a x (v)) z = (gW (geC E) ρ h z).set a (ρ a, .inl (geC E 3, len, .inl (upd (fun j : Nat => Int32.ofInt (h a j)) (Int32.ofInt x).toNatClampNeg (vp_nar .boolean (Int32.ofInt v))))) := by
    have e1 := gW_set (ca := geC E) (ρ := ρ) (h := h) (h' := hu h a x (v)) (r := z.1) (r' := z.1) (n := z.2) (k := a) hu_ne (fun _ _ => rfl)
    refine e1.trans ?_
    rw [cE_arr hs]
    have e3 : vp_nar .boolean (Int32.ofInt v) = Int32.ofInt v := by rcases hz with rfl | rfl <;> rfl
    rw [e3]
    rw [i32_nat h1.1 (by omega), ← upd_int h1.1]
    rfl
  exact kk p e s m args below meth c H1 locs1 cells slots E ρ lsA hC hS0 ⟨by rw [eW]; exact hP1, by rw [eW]; exact hD1, hR.2.2.1, hR.2.2.2.1, hR.2.2.2.2.1, gSc_to ha hR.2.2.1 hu_ne hR.2.2.2.2.2⟩ hS1 hl
theorem g_last {a len : Nat} {x v : Int} (hd : decode i.2.1 pc = .ok (.lastore, 1)) (hs : SH a = .inr (2, len)) (ha : a < z.2) (hlen : len ≤ 2147483647) (h1 : 0 ≤ x ∧ x < len) (kk : G l d mc ms i z (pc + 1) ls (st) (hu h a x (v)) Q) : G l d mc ms i z (pc) ls (aL v :: aI x :: aP a :: st) h Q := by
  intro p e s m args below meth c H locs cells slots E ρ lsA hC hS0 hR hS hl
  obtain ⟨hx, hb, hr, hml, hown, hts, hlk, hnm⟩ := id hC
  refine va_last hx hb hS0.1 hR.1 hR.2.1 hS a 2 (by rw [gW_at ha, cE_arr hs]; rfl) rfl (vp_in_of_int h1.1 h1.2 hlen) hd (fun H1 locs1 hP1 hD1 hS1 => ?_)
  have eW : gW (geC E) ρ (hu h a x (v)) z = (gW (geC E) ρ h z).set a (ρ a, .inl (geC E 2, len, .inr (.inl (vp_updL (fun j : Nat => Int64.ofInt (h a j)) (Int32.ofInt x).toNatClampNeg (Int64.ofInt v))))) := by
    have e1 := gW_set (ca := geC E) (ρ := ρ) (h := h) (h' := hu h a x (v)) (r := z.1) (r' := z.1) (n := z.2) (k := a) hu_ne (fun _ _ => rfl)
    refine e1.trans ?_
    rw [cE_arr hs]
    rw [i32_nat h1.1 (by omega), ← upd_long h1.1]
    rfl
  exact kk p e s m args below meth c H1 locs1 cells slots E ρ lsA hC hS0 ⟨by rw [eW]; exact hP1, by rw [eW]; exact hD1, hR.2.2.1, hR.2.2.2.1, hR.2.2.2.2.1, gSc_to ha hR.2.2.1 hu_ne hR.2.2.2.2.2⟩ hS1 hl
theorem g_alen {a len t : Nat} {n : Int} (hd : decode i.2.1 pc = .ok (.arraylength, 1)) (hs : SH a = .inr (t, len)) (ha : a < z.2) (ht : t < 5) (hn : (len : Int) = n) (kk : G l d mc ms i z (pc + 1) ls (aI n :: st) h Q) : G l d mc ms i z (pc) ls (aP a :: st) h Q := by
  intro p e s m args below meth c H locs cells slots E ρ lsA hC hS0 hR hS hl
  obtain ⟨hx, hb, hr, hml, hown, hts, hlk, hnm⟩ := id hC
  obtain ⟨q, hq⟩ : ∃ q, (gT (geC E))[t]? = some q := by
    match t, ht with
    | 0, _ => exact ⟨_, rfl⟩
    | 1, _ => exact ⟨_, rfl⟩
    | 2, _ => exact ⟨_, rfl⟩
    | 3, _ => exact ⟨_, rfl⟩
    | 4, _ => exact ⟨_, rfl⟩
  have hq1 : q.1 = geC E t := by
    match t, ht, hq with
    | 0, _, hq => cases hq; rfl
    | 1, _, hq => cases hq; rfl
    | 2, _, hq => cases hq; rfl
    | 3, _, hq => cases hq; rfl
    | 4, _, hq => cases hq; rfl
  refine va_alen hx hb hS0.1 hR.1 a t (cA := geC E t) (x := (len, aC ρ t (h a) (z.1 a))) (by rw [gW_at ha, cE_arr hs]) (ty := q.2) (by rw [hq, ← hq1]) (v := Int32.ofInt n) (by rw [← hn]; rfl) hd (kk p e s m args below meth c H locs cells slots E ρ lsA hC hS0 hR hS hl)
end GHeap
