/-! TRUTH, the reference's side: the middle -/
section TRM2
variable {l : Launch} {D : Nat} {ζ : ZP} {h : HI} {Q : Int → HI → Prop} {QV : HI → Prop} {x y : Int}
theorem s_mmiddle2 (hn : 144 ≤ ζ.2.2.2.2) {d : TD} {t : TS} {K : Int} (ok : TDok d) (hd : TDM d h) (hK : 0 ≤ K ∧ K ≤ 5000) (hb : tbd K t) (hw : TWM d t h) {b : Int} (h6 : 0 ≤ b ∧ b < 6) (hN : 0 < cN (tsh d t.1 b) d.2.2.2.2.2.1) (hq : ∀ h', FL [(110, -1)] h h' → Q (tmd d t.1 d.2.2.1 t.2.1 b) h') : RtI l (D + 2) mX12_middle (zz ζ) [aP 97, aI b, aI 2] h Q := by
  have okd := ok
  obtain ⟨o1, o2, o3, o4⟩ := ok
  obtain ⟨d1, d2, d3, d4⟩ := id hd
  refine e_X12_middle hn ?_
  have mb := fun (C : Nat) => mdA_bd (p := tsh d t.1 b) (v := tmv d t.1 d.2.2.1 t.2.1 b) (a := h 110) (C := C) (fun c _ hs => (tmv_bd okd hK.1 hb b c hs).1)
  have main : ∀ (m c : Nat) (g : HI), c + m = d.2.2.2.2.2.1 → FL [(110, -1)] h g → g 110 = (mdA (tsh d t.1 b) (tmv d t.1 d.2.2.1 t.2.1 b) (h 110) c).1 → G l (D + 2) 0 0 mX12_middle (zz ζ) 5 [aP 97, aI b, aI 2, aI (mdA (tsh d t.1 b) (tmv d t.1 d.2.2.1 t.2.1 b) (h 110) c).2, aI c, aU, aU, aU] [] g (qI (zz ζ) Q) := by
    intro m
    induction m with
    | zero =>
      intro c g hc f e
      have mc := mb c
      have cc : c = d.2.2.2.2.2.1 := by omega
      subst cc
      have nb := cN_bd (tsh d t.1 b) d.2.2.2.2.2.1
      have tb := Int.tdiv_eq_ediv_of_nonneg (a := ((mdA (tsh d t.1 b) (tmv d t.1 d.2.2.1 t.2.1 b) (h 110) d.2.2.2.2.2.1).2 : Int) - 1) (b := 2) (by omega)
      have e11 : g 99 11 = d.2.2.2.2.2.1 := by rw [f.c 99 rfl]; exact d2
      refine b_X12_middle_5 hn ⟨by constructor <;> omega, by rw [e11]; constructor <;> omega, iteP (by rw [e11]; omega) ⟨by constructor <;> omega, ⟨by omega, by omega⟩, ?_⟩⟩
      have := hq g f
      have mm := mdA_congr (p := tsh d t.1 b) (v := tmv d t.1 d.2.2.1 t.2.1 b) (a := h 110) (b := fun _ => 0) (C := d.2.2.2.2.2.1)
      unfold tmd at this
      rw [← mm.1, ← mm.2 _ (by omega) (by omega), ← e] at this
      exact this
    | succ m ih =>
      intro c g hc f e
      have mc := mb c
      have nb := cN_bd (tsh d t.1 b) c
      have hd' := hd.fl f rfl
      have hw' := hw.fl f rfl
      have w1 := hw' c (by omega) (by omega)
      have n1 := cN_bd (rdq d t.1 c) d.2.2.2.2.1
      have n2 : tcn d t.1 c = cN (rdq d t.1 c) d.2.2.2.2.1 := rfl
      have ft := tfs_bd d c b
      have ec : ((c + 1 : Nat) : Int) = (c : Int) + 1 := by omega
      have skip : tsh d t.1 b c = false → G l (D + 2) 0 0 mX12_middle (zz ζ) 5 [aP 97, aI b, aI 2, aI (mdA (tsh d t.1 b) (tmv d t.1 d.2.2.1 t.2.1 b) (h 110) c).2, aI ((c : Int) + 1), aU, aU, aU] [] g (qI (zz ζ) Q) := by
        intro es
        have k := ih (c + 1) g (by omega) f (by unfold mdA; rw [es]; exact e)
        rw [ec] at k
        unfold mdA at k
        rw [es] at k
        exact k
      refine b_X12_middle_5 hn ⟨by constructor <;> omega, by rw [hd'.2.1]; constructor <;> omega, iteN (by rw [hd'.2.1]; omega) (s_firstOn hn okd hd' (by constructor <;> omega) (by constructor <;> omega) ⟨⟨by omega, by omega⟩, ?_⟩)⟩
      rw [w1.1]
      refine ⟨by rw [n2]; constructor <;> omega, iteI (fun q => skip (decide_eq_false (fun e' => by have := e'.1; omega))) (fun q => ⟨by constructor <;> omega, iteI (fun q2 => ?_) (fun q2 => skip (decide_eq_false (fun e' => e'.2 (by omega))))⟩)⟩
      have es : tsh d t.1 b c = true := decide_eq_true ⟨by rw [n2] at q ⊢; omega, by omega⟩
      have vb := (tmv_bd okd hK.1 hb b c es).1
      obtain ⟨r1, r2, r3, r4⟩ := hd'.2.2.2 (tfs d c b).toNat (by omega)
      have er : (((tfs d c b).toNat : Nat) : Int) = tfs d c b := by omega
      rw [er] at r1 r2 r3 r4
      refine ⟨⟨by omega, by omega⟩, by decide, iteN (by decide) ?_⟩
      have ev : g 99 (77 + 4 * tfs d c b + 2) - g 106 c = tmv d t.1 d.2.2.1 t.2.1 b c := by
        rw [r3, w1.2.1, if_neg q]; rfl
      rw [ev]
      have fin : ∀ (g' : HI), FL [(110, -1)] h g' → g' 110 = (mdA (tsh d t.1 b) (tmv d t.1 d.2.2.1 t.2.1 b) (h 110) (c + 1)).1 → G l (D + 2) 0 0 mX12_middle (zz ζ) 5 [aP 97, aI b, aI 2, aI ((mdA (tsh d t.1 b) (tmv d t.1 d.2.2.1 t.2.1 b) (h 110) c).2 + 1), aI ((c : Int) + 1), aU, aU, aU] [] g' (qI (zz ζ) Q) := by
        intro g' f' e'
        have k := ih (c + 1) g' (by omega) f' e'
        have en : (((mdA (tsh d t.1 b) (tmv d t.1 d.2.2.1 t.2.1 b) (h 110) (c + 1)).2 : Nat) : Int) = ((mdA (tsh d t.1 b) (tmv d t.1 d.2.2.1 t.2.1 b) (h 110) c).2 : Int) + 1 := by
          rw [mdA_t es]; simp
        rw [ec, en] at k
        exact k
      have ins : ∀ (i : Nat) (g' : HI), (i : Int) ≤ (mdA (tsh d t.1 b) (tmv d t.1 d.2.2.1 t.2.1 b) (h 110) c).2 → FL [(110, -1)] h g' → (∀ j : Int, 0 ≤ j → j < i → rg (g' 110 j)) → insA (tmv d t.1 d.2.2.1 t.2.1 b c) i (g' 110) = (mdA (tsh d t.1 b) (tmv d t.1 d.2.2.1 t.2.1 b) (h 110) (c + 1)).1 → G l (D + 2) 0 0 mX12_middle (zz ζ) 86 [aP 97, aI b, aI 2, aI (mdA (tsh d t.1 b) (tmv d t.1 d.2.2.1 t.2.1 b) (h 110) c).2, aI c, aU, aI (tmv d t.1 d.2.2.1 t.2.1 b c), aI i] [] g' (qI (zz ζ) Q) := by
        intro i
        induction i with
        | zero =>
          intro g' hi f' hr e'
          refine b_X12_middle_86 hn ⟨by constructor <;> omega, iteP (by omega) ⟨⟨by omega, by omega⟩, fin _ (f'.ua rfl) ?_⟩⟩
          rw [hu_fu, ← e']; rfl
        | succ i ihi =>
          intro g' hi f' hr e'
          have ei : ((i + 1 : Nat) : Int) - 1 = (i : Int) := by omega
          refine b_X12_middle_86 hn ⟨by constructor <;> omega, iteN (by omega) ?_⟩
          rw [ei]
          refine ⟨⟨by omega, by omega⟩, hr i (by omega) (by omega), by constructor <;> omega, iteI (fun q => ?_) (fun q => ?_)⟩
          · refine ⟨⟨by omega, by omega⟩, fin _ (f'.ua rfl) ?_⟩
            rw [hu_fu, ← e']
            exact (insA_p q).symm
          · refine ⟨⟨by omega, by omega⟩, ?_⟩
            rw [show ((i + 1 : Nat) : Int) + (-1) = (i : Int) by omega]
            refine ihi _ (by omega) (f'.ua rfl) (fun j j0 j1 => ?_) ?_
            · rw [hu_fu, fu_n _ _ (by omega)]; exact hr j j0 (by omega)
            · rw [hu_fu, ← e']
              exact (insA_n q).symm
      refine ins _ g (by omega) f (fun j j0 j1 => ?_) ?_
      · rw [e]
        have := mc.2 j j0 j1
        constructor <;> omega
      · rw [e, mdA_t es]
  have m0 := main d.2.2.2.2.2.1 0 h (by omega) FL.refl rfl
  exact m0
theorem s_mmiddle3 (hn : 144 ≤ ζ.2.2.2.2) {d : TD} {t : TS} {K : Int} (ok : TDok d) (hd : TDM d h) (hK : 0 ≤ K ∧ K ≤ 5000) (hb : tbd K t) (hw : TWM d t h) {b : Int} (h6 : 0 ≤ b ∧ b < 6) (hN : 0 < cN (tsh d t.1 b) d.2.2.2.2.2.1) (hq : ∀ h', FL [(110, -1)] h h' → Q (tmd d t.1 d.2.2.2.1 t.2.2 b) h') : RtI l (D + 2) mX12_middle (zz ζ) [aP 97, aI b, aI 3] h Q := by
  have okd := ok
  obtain ⟨o1, o2, o3, o4⟩ := ok
  obtain ⟨d1, d2, d3, d4⟩ := id hd
  refine e_X12_middle hn ?_
  have mb := fun (C : Nat) => mdA_bd (p := tsh d t.1 b) (v := tmv d t.1 d.2.2.2.1 t.2.2 b) (a := h 110) (C := C) (fun c _ hs => (tmv_bd okd hK.1 hb b c hs).2)
  have main : ∀ (m c : Nat) (g : HI), c + m = d.2.2.2.2.2.1 → FL [(110, -1)] h g → g 110 = (mdA (tsh d t.1 b) (tmv d t.1 d.2.2.2.1 t.2.2 b) (h 110) c).1 → G l (D + 2) 0 0 mX12_middle (zz ζ) 5 [aP 97, aI b, aI 3, aI (mdA (tsh d t.1 b) (tmv d t.1 d.2.2.2.1 t.2.2 b) (h 110) c).2, aI c, aU, aU, aU] [] g (qI (zz ζ) Q) := by
    intro m
    induction m with
    | zero =>
      intro c g hc f e
      have mc := mb c
      have cc : c = d.2.2.2.2.2.1 := by omega
      subst cc
      have nb := cN_bd (tsh d t.1 b) d.2.2.2.2.2.1
      have tb := Int.tdiv_eq_ediv_of_nonneg (a := ((mdA (tsh d t.1 b) (tmv d t.1 d.2.2.2.1 t.2.2 b) (h 110) d.2.2.2.2.2.1).2 : Int) - 1) (b := 2) (by omega)
      have e11 : g 99 11 = d.2.2.2.2.2.1 := by rw [f.c 99 rfl]; exact d2
      refine b_X12_middle_5 hn ⟨by constructor <;> omega, by rw [e11]; constructor <;> omega, iteP (by rw [e11]; omega) ⟨by constructor <;> omega, ⟨by omega, by omega⟩, ?_⟩⟩
      have := hq g f
      have mm := mdA_congr (p := tsh d t.1 b) (v := tmv d t.1 d.2.2.2.1 t.2.2 b) (a := h 110) (b := fun _ => 0) (C := d.2.2.2.2.2.1)
      unfold tmd at this
      rw [← mm.1, ← mm.2 _ (by omega) (by omega), ← e] at this
      exact this
    | succ m ih =>
      intro c g hc f e
      have mc := mb c
      have nb := cN_bd (tsh d t.1 b) c
      have hd' := hd.fl f rfl
      have hw' := hw.fl f rfl
      have w1 := hw' c (by omega) (by omega)
      have n1 := cN_bd (rdq d t.1 c) d.2.2.2.2.1
      have n2 : tcn d t.1 c = cN (rdq d t.1 c) d.2.2.2.2.1 := rfl
      have ft := tfs_bd d c b
      have ec : ((c + 1 : Nat) : Int) = (c : Int) + 1 := by omega
      have skip : tsh d t.1 b c = false → G l (D + 2) 0 0 mX12_middle (zz ζ) 5 [aP 97, aI b, aI 3, aI (mdA (tsh d t.1 b) (tmv d t.1 d.2.2.2.1 t.2.2 b) (h 110) c).2, aI ((c : Int) + 1), aU, aU, aU] [] g (qI (zz ζ) Q) := by
        intro es
        have k := ih (c + 1) g (by omega) f (by unfold mdA; rw [es]; exact e)
        rw [ec] at k
        unfold mdA at k
        rw [es] at k
        exact k
      refine b_X12_middle_5 hn ⟨by constructor <;> omega, by rw [hd'.2.1]; constructor <;> omega, iteN (by rw [hd'.2.1]; omega) (s_firstOn hn okd hd' (by constructor <;> omega) (by constructor <;> omega) ⟨⟨by omega, by omega⟩, ?_⟩)⟩
      rw [w1.1]
      refine ⟨by rw [n2]; constructor <;> omega, iteI (fun q => skip (decide_eq_false (fun e' => by have := e'.1; omega))) (fun q => ⟨by constructor <;> omega, iteI (fun q2 => ?_) (fun q2 => skip (decide_eq_false (fun e' => e'.2 (by omega))))⟩)⟩
      have es : tsh d t.1 b c = true := decide_eq_true ⟨by rw [n2] at q ⊢; omega, by omega⟩
      have vb := (tmv_bd okd hK.1 hb b c es).2
      obtain ⟨r1, r2, r3, r4⟩ := hd'.2.2.2 (tfs d c b).toNat (by omega)
      have er : (((tfs d c b).toNat : Nat) : Int) = tfs d c b := by omega
      rw [er] at r1 r2 r3 r4
      refine ⟨⟨by omega, by omega⟩, by decide, iteP (by decide) ?_⟩
      have ev : g 99 (77 + 4 * tfs d c b + 3) - g 107 c = tmv d t.1 d.2.2.2.1 t.2.2 b c := by
        rw [r4, w1.2.2.1, if_neg q]; rfl
      rw [ev]
      have fin : ∀ (g' : HI), FL [(110, -1)] h g' → g' 110 = (mdA (tsh d t.1 b) (tmv d t.1 d.2.2.2.1 t.2.2 b) (h 110) (c + 1)).1 → G l (D + 2) 0 0 mX12_middle (zz ζ) 5 [aP 97, aI b, aI 3, aI ((mdA (tsh d t.1 b) (tmv d t.1 d.2.2.2.1 t.2.2 b) (h 110) c).2 + 1), aI ((c : Int) + 1), aU, aU, aU] [] g' (qI (zz ζ) Q) := by
        intro g' f' e'
        have k := ih (c + 1) g' (by omega) f' e'
        have en : (((mdA (tsh d t.1 b) (tmv d t.1 d.2.2.2.1 t.2.2 b) (h 110) (c + 1)).2 : Nat) : Int) = ((mdA (tsh d t.1 b) (tmv d t.1 d.2.2.2.1 t.2.2 b) (h 110) c).2 : Int) + 1 := by
          rw [mdA_t es]; simp
        rw [ec, en] at k
        exact k
      have ins : ∀ (i : Nat) (g' : HI), (i : Int) ≤ (mdA (tsh d t.1 b) (tmv d t.1 d.2.2.2.1 t.2.2 b) (h 110) c).2 → FL [(110, -1)] h g' → (∀ j : Int, 0 ≤ j → j < i → rg (g' 110 j)) → insA (tmv d t.1 d.2.2.2.1 t.2.2 b c) i (g' 110) = (mdA (tsh d t.1 b) (tmv d t.1 d.2.2.2.1 t.2.2 b) (h 110) (c + 1)).1 → G l (D + 2) 0 0 mX12_middle (zz ζ) 86 [aP 97, aI b, aI 3, aI (mdA (tsh d t.1 b) (tmv d t.1 d.2.2.2.1 t.2.2 b) (h 110) c).2, aI c, aU, aI (tmv d t.1 d.2.2.2.1 t.2.2 b c), aI i] [] g' (qI (zz ζ) Q) := by
        intro i
        induction i with
        | zero =>
          intro g' hi f' hr e'
          refine b_X12_middle_86 hn ⟨by constructor <;> omega, iteP (by omega) ⟨⟨by omega, by omega⟩, fin _ (f'.ua rfl) ?_⟩⟩
          rw [hu_fu, ← e']; rfl
        | succ i ihi =>
          intro g' hi f' hr e'
          have ei : ((i + 1 : Nat) : Int) - 1 = (i : Int) := by omega
          refine b_X12_middle_86 hn ⟨by constructor <;> omega, iteN (by omega) ?_⟩
          rw [ei]
          refine ⟨⟨by omega, by omega⟩, hr i (by omega) (by omega), by constructor <;> omega, iteI (fun q => ?_) (fun q => ?_)⟩
          · refine ⟨⟨by omega, by omega⟩, fin _ (f'.ua rfl) ?_⟩
            rw [hu_fu, ← e']
            exact (insA_p q).symm
          · refine ⟨⟨by omega, by omega⟩, ?_⟩
            rw [show ((i + 1 : Nat) : Int) + (-1) = (i : Int) by omega]
            refine ihi _ (by omega) (f'.ua rfl) (fun j j0 j1 => ?_) ?_
            · rw [hu_fu, fu_n _ _ (by omega)]; exact hr j j0 (by omega)
            · rw [hu_fu, ← e']
              exact (insA_n q).symm
      refine ins _ g (by omega) f (fun j j0 j1 => ?_) ?_
      · rw [e]
        have := mc.2 j j0 j1
        constructor <;> omega
      · rw [e, mdA_t es]
  have m0 := main d.2.2.2.2.2.1 0 h (by omega) FL.refl rfl
  exact m0
end TRM2
