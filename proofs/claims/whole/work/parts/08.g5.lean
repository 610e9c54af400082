/-- a part of an array copied into another -/
def hcp (h : HI) (a : Nat) (sp : Int) (b : Nat) (dp n : Int) : HI := fun k j => if k = b ∧ dp ≤ j ∧ j < dp + n then h a (sp + (j - dp)) else h k j
/-- a static array's part copied into another -/
def hcs (h : HI) (t : Nat) (sp : Int) (b : Nat) (dp n : Int) : HI := fun k j => if k = b ∧ dp ≤ j ∧ j < dp + n then lawv t (sp + (j - dp)) else h k j
section GMore
variable {l : Launch} {d mc ms : Nat} {i : MT} {z : ZR} {pc : Nat} {ls st : List AV} {h : HI} {Q : Option AV → HI → ZR → Prop}
theorem imax_eq (x y : Int) : (if x < y then y else x) = max x y := by omega
theorem imin_eq (x y : Int) : (if y < x then y else x) = min x y := by omega
def MaxW (own : String) (idx : Nat) : Prop := Cond.methodLink own idx Lib.Math.max.name ∈ TB ∧ Cond.static Lib.Math.max.name ∈ TB ∧ Cond.initialized "java/lang/Math" ∈ TB ∧ Cond.code Lib.Math.max.name Lib.Math.max.code 2 (some .int) ∈ TB
def MinW (own : String) (idx : Nat) : Prop := Cond.methodLink own idx Lib.Math.min.name ∈ TB ∧ Cond.static Lib.Math.min.name ∈ TB ∧ Cond.initialized "java/lang/Math" ∈ TB ∧ Cond.code Lib.Math.min.name Lib.Math.min.code 2 (some .int) ∈ TB
def CopyW (own : String) (idx : Nat) : Prop := Cond.methodLink own idx arraycopyName ∈ TB ∧ Cond.native arraycopyName ∈ TB ∧ Cond.static arraycopyName ∈ TB ∧ Cond.initialized "java/lang/System" ∈ TB
theorem g_max {idx : Nat} {x y : Int} (hd : decode i.2.1 pc = .ok (.invokestatic idx, 3)) (hm : MaxW i.1.cls idx) (hst : (st.map acat).sum ≤ 8) (h1 : rg x) (h2 : rg y) (kk : G l (d + 1) mc ms i z (pc + 3) ls (aI (max x y) :: st) h Q) : G l (d + 1) mc ms i z pc ls (aI y :: aI x :: st) h Q := by
  intro p e s m args below meth c H locs cells slots E ρ lsA hC hS0 hR hS hl
  obtain ⟨hx, hb, hr, hml, hown, hts, hlk, hnm⟩ := id hC
  refine va_mmax hx hb (hml.trans hl.1.symm) hown (hts _ hm.1) (hts _ hm.2.1) (hts _ hm.2.2.1) (hts _ hm.2.2.2) (by show 1 ≤ d + 1; omega) (by rw [acat_sum]; show _ + 13 ≤ 44 * (d + 1); omega) (by show cells ≤ cells + mc; omega) (by show slots ≤ slots + ms; omega) hd ?_
  have e1 : (if Int32.ofInt x < Int32.ofInt y then Int32.ofInt y else Int32.ofInt x) = Int32.ofInt (max x y) := by
    rw [← imax_eq]
    by_cases q : x < y
    · rw [if_pos ((i32_lt h1 h2).mpr q), if_pos q]
    · rw [if_neg (fun z => q ((i32_lt h1 h2).mp z)), if_neg q]
  rw [e1]
  exact kk p e s m args below meth c H locs cells slots E ρ lsA hC hS0 hR hS hl
theorem g_min {idx : Nat} {x y : Int} (hd : decode i.2.1 pc = .ok (.invokestatic idx, 3)) (hm : MinW i.1.cls idx) (hst : (st.map acat).sum ≤ 8) (h1 : rg x) (h2 : rg y) (kk : G l (d + 1) mc ms i z (pc + 3) ls (aI (min x y) :: st) h Q) : G l (d + 1) mc ms i z pc ls (aI y :: aI x :: st) h Q := by
  intro p e s m args below meth c H locs cells slots E ρ lsA hC hS0 hR hS hl
  obtain ⟨hx, hb, hr, hml, hown, hts, hlk, hnm⟩ := id hC
  refine va_mmin hx hb (hml.trans hl.1.symm) hown (hts _ hm.1) (hts _ hm.2.1) (hts _ hm.2.2.1) (hts _ hm.2.2.2) (by show 1 ≤ d + 1; omega) (by rw [acat_sum]; show _ + 13 ≤ 44 * (d + 1); omega) (by show cells ≤ cells + mc; omega) (by show slots ≤ slots + ms; omega) hd ?_
  have e1 : (if Int32.ofInt y < Int32.ofInt x then Int32.ofInt y else Int32.ofInt x) = Int32.ofInt (min x y) := by
    rw [← imin_eq]
    by_cases q : y < x
    · rw [if_pos ((i32_lt h2 h1).mpr q), if_pos q]
    · rw [if_neg (fun z => q ((i32_lt h2 h1).mp z)), if_neg q]
  rw [e1]
  exact kk p e s m args below meth c H locs cells slots E ρ lsA hC hS0 hR hS hl
theorem cpy_int {h : HI} {a b : Nat} {sp dp n : Int} (h1 : 0 ≤ sp) (h2 : 0 ≤ dp) (h3 : 0 ≤ n) : (fun j : Nat => Int32.ofInt (hcp h a sp b dp n b j)) = va_cpy (fun j : Nat => Int32.ofInt (h a j)) (fun j : Nat => Int32.ofInt (h b j)) sp.toNat dp.toNat n.toNat := by
  funext j
  unfold va_cpy hcp
  by_cases q : dp.toNat ≤ j ∧ j < dp.toNat + n.toNat
  · rw [if_pos q, if_pos ⟨rfl, by omega, by omega⟩]
    congr 2
    omega
  · rw [if_neg q, if_neg (by omega)]
theorem cps_int {h : HI} {t b : Nat} {sp dp n : Int} (h1 : 0 ≤ sp) (h2 : 0 ≤ dp) (h3 : 0 ≤ n) : (fun j : Nat => Int32.ofInt (hcs h t sp b dp n b j)) = va_cpy (fun j : Nat => Int32.ofInt (lawv t j)) (fun j : Nat => Int32.ofInt (h b j)) sp.toNat dp.toNat n.toNat := by
  funext j
  unfold va_cpy hcs
  by_cases q : dp.toNat ≤ j ∧ j < dp.toNat + n.toNat
  · rw [if_pos q, if_pos ⟨rfl, by omega, by omega⟩]
    congr 2
    omega
  · rw [if_neg q, if_neg (by omega)]
theorem g_copy {idx a b la lb : Nat} {sp dp n : Int} (hd : decode i.2.1 pc = .ok (.invokestatic idx, 3)) (hm : CopyW i.1.cls idx) (hst : (st.map acat).sum ≤ 8) (hsa : SH a = .inr (0, la)) (haa : a < z.2) (hsb : SH b = .inr (0, lb)) (hab : b < z.2) (hla : la ≤ 1000000) (hlb : lb ≤ 1000000) (h1 : 0 ≤ sp ∧ 0 ≤ dp ∧ 0 ≤ n ∧ sp + n ≤ la ∧ dp + n ≤ lb) (kk : G l (d + 1) mc ms i z (pc + 3) ls st (hcp h a sp b dp n) Q) : G l (d + 1) mc ms i z pc ls (aI n :: aI dp :: aP b :: aI sp :: aP a :: st) h Q := by
  intro p e s m args below meth c H locs cells slots E ρ lsA hC hS0 hR hS hl
  obtain ⟨hx, hb, hr, hml, hown, hts, hlk, hnm⟩ := id hC
  obtain ⟨q1, q2, q3, q4, q5⟩ := h1
  have e1 : (Int32.ofInt sp).toNatClampNeg = sp.toNat := i32_nat q1 (by omega)
  have e2 : (Int32.ofInt dp).toNatClampNeg = dp.toNat := i32_nat q2 (by omega)
  have e3 : (Int32.ofInt n).toNatClampNeg = n.toNat := i32_nat q3 (by omega)
  have nn : ∀ x : Int, 0 ≤ x → x ≤ 1000000 → ¬ Int32.ofInt x < 0 := fun x a1 a2 q => by
    rw [i32_0, i32_lt ⟨by omega, by omega⟩ rg_0] at q
    omega
  refine va_copyi hx hb (hml.trans hl.1.symm) hown (hts _ hm.1) (hts _ hm.2.1) (hts _ hm.2.2.1) (hts _ hm.2.2.2) hS0.1 hR.1 hR.2.1 hS a b 0 0 (ty := .int) (by rw [gW_at haa, cE_arr hsa]; rfl) (by rw [gW_at hab, cE_arr hsb]; rfl) rfl rfl rfl (nn sp q1 (by omega)) (nn dp q2 (by omega)) (nn n q3 (by omega)) (by rw [e1, e3]; omega) (by rw [e2, e3]; omega) (fun _ _ => rfl) (by show 1 ≤ d + 1; omega) ?_ hd (fun H1 locs1 hP1 hD1 hS1 => ?_)
  · rw [acat_sum]
    have : nativeFrameWords "java/lang/System" "arraycopy" 5 + 11 ≤ 36 := by decide +kernel
    show _ ≤ 44 * (d + 1)
    omega
  · have eW : gW (geC E) ρ (hcp h a sp b dp n) z = (gW (geC E) ρ h z).set b (ρ b, .inl (geC E 0, lb, .inl (va_cpy (fun j : Nat => Int32.ofInt (h a j)) (fun j : Nat => Int32.ofInt (h b j)) (Int32.ofInt sp).toNatClampNeg (Int32.ofInt dp).toNatClampNeg (Int32.ofInt n).toNatClampNeg))) := by
      have e9 := gW_set (ca := geC E) (ρ := ρ) (h := h) (h' := hcp h a sp b dp n) (r := z.1) (r' := z.1) (n := z.2) (k := b) (fun c hc => by funext j; simp [hcp, hc]) (fun _ _ => rfl)
      refine e9.trans ?_
      rw [cE_arr hsb, e1, e2, e3, ← cpy_int q1 q2 q3]
      rfl
    exact kk p e s m args below meth c H1 locs1 cells slots E ρ lsA hC hS0 ⟨by rw [eW]; exact hP1, by rw [eW]; exact hD1, hR.2.2.1, hR.2.2.2.1, hR.2.2.2.2.1, gSc_to hab hR.2.2.1 (fun c hc => by funext j; simp [hcp, hc]) hR.2.2.2.2.2⟩ hS1 hl
theorem g_law {idx t : Nat} {host : String} (hd : decode i.2.1 pc = .ok (.getstatic idx, 3)) (hw : Cond.fieldLinkNest i.1.cls idx "DeadPacks" (lawN t) "[I" host ∈ lw_tbl) (ht : t < 3) (kk : G l d mc ms i z (pc + 3) ls (aP (1000000 + t) :: st) h Q) : G l d mc ms i z pc ls st h Q := by
  intro p e s m args below meth c H locs cells slots E ρ lsA hC hS0 hR hS hl
  obtain ⟨hx, hb, hr, hml, hown, hts, hlk, hnm⟩ := id hC
  obtain ⟨-, hB, s0, h0, hW, hq⟩ := id hS0
  have hZ := ((h0.2.2.2.2.2.2 t ht).1.moved hW.alike).kept (H1 := s.heap) (fun a ha _ => hq a (by rw [← h0.2.2.2.1]; exact ha))
  refine va_getsN hx hb hZ hS hown (va_Nw.use rfl (hS0.nestF hw)) (fun _ q => q) hd ?_
  have := kk p e s m args below meth c H locs cells slots E ρ lsA hC hS0 hR hS hl
  simp only [List.map_cons, cV, cR, Option.map_some, va_rf, hR.2.2.2.1 t ht] at this
  exact this
theorem g_lawld {t : Nat} {x : Int} (hd : decode i.2.1 pc = .ok (.iaload, 1)) (ht : t < 3) (h1 : 0 ≤ x ∧ x < 9) (kk : G l d mc ms i z (pc + 1) ls (aI (lawv t x) :: st) h Q) : G l d mc ms i z pc ls (aI x :: aP (1000000 + t) :: st) h Q := by
  intro p e s m args below meth c H locs cells slots E ρ lsA hC hS0 hR hS hl
  obtain ⟨hx, hb, hr, hml, hown, hts, hlk, hnm⟩ := id hC
  obtain ⟨-, hB, s0, h0, hW, hq⟩ := id hS0
  have hT := ((h0.2.2.2.2.2.2 t ht).2.1.moved hW.alike).kept (H1 := s.heap) (fun a ha _ => hq a (by rw [← h0.2.2.2.1]; exact ha))
  have := va_ti hx hb hT hS (i := Int32.ofInt x) (vp_in_of_int h1.1 h1.2 (by decide)) (v := .int (Int32.ofInt (lawv t x))) (by rw [i32_nat h1.1 (by omega), Int.toNat_of_nonneg h1.1]) hd (kk p e s m args below meth c H locs cells slots E ρ lsA hC hS0 hR hS hl)
  simp only [List.map_cons, cV, cR, Option.map_some, va_rf, hR.2.2.2.1 t ht]
  exact this
theorem g_copyS {idx t b lb : Nat} {sp dp n : Int} (hd : decode i.2.1 pc = .ok (.invokestatic idx, 3)) (hm : CopyW i.1.cls idx) (hst : (st.map acat).sum ≤ 8) (ht : t < 3) (hsb : SH b = .inr (0, lb)) (hab : b < z.2) (hlb : lb ≤ 1000000) (h1 : 0 ≤ sp ∧ 0 ≤ dp ∧ 0 ≤ n ∧ sp + n ≤ 9 ∧ dp + n ≤ lb) (kk : G l (d + 1) mc ms i z (pc + 3) ls st (hcs h t sp b dp n) Q) : G l (d + 1) mc ms i z pc ls (aI n :: aI dp :: aP b :: aI sp :: aP (1000000 + t) :: st) h Q := by
  intro p e s m args below meth c H locs cells slots E ρ lsA hC hS0 hR hS hl
  obtain ⟨hx, hb, hr, hml, hown, hts, hlk, hnm⟩ := id hC
  obtain ⟨-, hB, s0, h0, hW, hq⟩ := id hS0
  obtain ⟨q1, q2, q3, q4, q5⟩ := h1
  have hlt : geS E t < geB E := (h0.2.2.2.2.2.2 t ht).2.2.2
  have hX := ((h0.2.2.2.2.2.2 t ht).2.2.1.moved hW.alike).kept (H1 := s.heap) (hq _ hlt)
  have e1 : (Int32.ofInt sp).toNatClampNeg = sp.toNat := i32_nat q1 (by omega)
  have e2 : (Int32.ofInt dp).toNatClampNeg = dp.toNat := i32_nat q2 (by omega)
  have e3 : (Int32.ofInt n).toNatClampNeg = n.toNat := i32_nat q3 (by omega)
  have nn : ∀ x : Int, 0 ≤ x → x ≤ 1000000 → ¬ Int32.ofInt x < 0 := fun x a1 a2 q => by
    rw [i32_0, i32_lt ⟨by omega, by omega⟩ rg_0] at q
    omega
  have hst2 : List.map (cV ρ) (aI n :: aI dp :: aP b :: aI sp :: aP (1000000 + t) :: st) = .int (Int32.ofInt n) :: .int (Int32.ofInt dp) :: .ref (ρ b) :: .int (Int32.ofInt sp) :: .ref (geS E t) :: st.map (cV ρ) := by
    simp [cV, cR, va_rf, hR.2.2.2.1 t ht]
  rw [hst2]
  refine va_copyx hx hb (hml.trans hl.1.symm) hown (hts _ hm.1) (hts _ hm.2.1) (hts _ hm.2.2.1) (hts _ hm.2.2.2) hS0.1 hR.1 hR.2.1 hS hX (Nat.lt_of_lt_of_le hlt hB) (Nat.not_le.mpr hlt) b 0 (by rw [gW_at hab, cE_arr hsb]; rfl) rfl (nn sp q1 (by omega)) (nn dp q2 (by omega)) (nn n q3 (by omega)) (by rw [e1, e3]; omega) (by rw [e2, e3]; omega) (by show 1 ≤ d + 1; omega) ?_ hd (fun H1 locs1 hP1 hD1 hS1 => ?_)
  · rw [acat_sum]
    have : nativeFrameWords "java/lang/System" "arraycopy" 5 + 11 ≤ 36 := by decide +kernel
    show _ ≤ 44 * (d + 1)
    omega
  · have eW : gW (geC E) ρ (hcs h t sp b dp n) z = (gW (geC E) ρ h z).set b (ρ b, .inl (geC E 0, lb, .inl (va_cpy (fun j : Nat => Int32.ofInt (lawv t j)) (fun j : Nat => Int32.ofInt (h b j)) (Int32.ofInt sp).toNatClampNeg (Int32.ofInt dp).toNatClampNeg (Int32.ofInt n).toNatClampNeg))) := by
      have e9 := gW_set (ca := geC E) (ρ := ρ) (h := h) (h' := hcs h t sp b dp n) (r := z.1) (r' := z.1) (n := z.2) (k := b) (fun c hc => by funext j; simp [hcs, hc]) (fun _ _ => rfl)
      refine e9.trans ?_
      rw [cE_arr hsb, e1, e2, e3, ← cps_int q1 q2 q3]
      rfl
    exact kk p e s m args below meth c H1 locs1 cells slots E ρ lsA hC hS0 ⟨by rw [eW]; exact hP1, by rw [eW]; exact hD1, hR.2.2.1, hR.2.2.2.1, hR.2.2.2.2.1, gSc_to hab hR.2.2.1 (fun c hc => by funext j; simp [hcs, hc]) hR.2.2.2.2.2⟩ hS1 hl
theorem g_sld {x : Int} (hd : decode i.2.1 pc = .ok (.iaload, 1)) (h1 : 0 ≤ x ∧ x < h 1000004 0) (h2 : h 1000004 0 ≤ 3072) (kk : G l d mc ms i z (pc + 1) ls (aI (h 1000003 x) :: st) h Q) : G l d mc ms i z pc ls (aI x :: aP 1000003 :: st) h Q := by
  intro p e s m args below meth c H locs cells slots E ρ lsA hC hS0 hR hS hl
  obtain ⟨hx, hb, hr, hml, hown, hts, hlk, hnm⟩ := id hC
  obtain ⟨-, hB, s0, h0, hW, hq⟩ := id hS0
  obtain ⟨-, -, -, -, hρ, hs1, hs2⟩ := id hR
  rw [hs1] at h1 h2
  have hX := (h0.2.1.moved hW.alike).kept (H1 := s.heap) (hq _ h0.2.2.1)
  have k2 := kk p e s m args below meth c H locs cells slots E ρ lsA hC hS0 hR hS hl
  have e1 : cV ρ (aI (h 1000003 x)) = .int (Int32.ofInt (geX E (Int32.ofInt x).toNatClampNeg)) := by
    rw [i32_nat h1.1 (by omega), ← hs2 _ (by omega), Int.toNat_of_nonneg h1.1]
    rfl
  rw [List.map_cons, e1] at k2
  have := va_sld hx hb hX (Nat.lt_of_lt_of_le h0.2.2.1 hB) (A := gA E) (Nat.not_le.mpr h0.2.2.1) hS (i := Int32.ofInt x) (vp_in_of_int h1.1 h1.2 (by omega)) hd k2
  simp only [List.map_cons, cV, cR, Option.map_some, va_rf, hρ]
  exact this
theorem g_slen (hd : decode i.2.1 pc = .ok (.arraylength, 1)) (kk : G l d mc ms i z (pc + 1) ls (aI (h 1000004 0) :: st) h Q) : G l d mc ms i z pc ls (aP 1000003 :: st) h Q := by
  intro p e s m args below meth c H locs cells slots E ρ lsA hC hS0 hR hS hl
  obtain ⟨hx, hb, hr, hml, hown, hts, hlk, hnm⟩ := id hC
  obtain ⟨-, hB, s0, h0, hW, hq⟩ := id hS0
  obtain ⟨-, -, -, -, hρ, hs1, hs2⟩ := id hR
  have hX := (h0.2.1.moved hW.alike).kept (H1 := s.heap) (hq _ h0.2.2.1)
  have k2 := kk p e s m args below meth c H locs cells slots E ρ lsA hC hS0 hR hS hl
  rw [hs1] at k2
  have := va_slen hx hb hX (Nat.lt_of_lt_of_le h0.2.2.1 hB) (A := gA E) (Nat.not_le.mpr h0.2.2.1) hS hd k2
  simp only [List.map_cons, cV, cR, Option.map_some, va_rf, hρ]
  exact this
end GMore
