/-! TRUTH, the class's side: the middle; all of it -/
theorem insA_p {x : Int} {i : Nat} {a : Int → Int} (h : a i ≤ x) : insA x (i + 1) a = fu a ((i : Int) + 1) x := if_pos h
theorem insA_n {x : Int} {i : Nat} {a : Int → Int} (h : ¬ a i ≤ x) : insA x (i + 1) a = insA x i (fu a ((i : Int) + 1) (a i)) := if_neg h
theorem mdA_t {p : Nat → Bool} {v : Nat → Int} {a : Int → Int} {c : Nat} (h : p c = true) : mdA p v a (c + 1) = (insA (v c) (mdA p v a c).2 (mdA p v a c).1, (mdA p v a c).2 + 1) := by
  show (if p c then _ else _) = _
  rw [h]; rfl
theorem ttr_n {d : TD} {t : TS} {k : Nat} (h : tnx d t.1 ≠ -1) : ttr d (k + 1) t = ttr d k (tst d t) := if_neg h
section TRX3
variable {l : Launch} {D : Nat} {ζ : ZP} {h : HI} {Q : Int → HI → Prop} {QV : HI → Prop} {x y : Int}
theorem s_middle_h (hn : 144 ≤ ζ.2.2.2.2) {d : TD} {t : TS} {K : Int} (ok : TDok d) (hd : TDX d h) (hK : 0 ≤ K ∧ K ≤ 5000) (hb : tbd K t) (hw : TWX d t h) (hf : TFX d h) {b : Int} (h6 : 0 ≤ b ∧ b < 6) (hN : 0 < cN (tsh d t.1 b) d.2.2.2.2.2.1) (hq : ∀ h', FL [(50, -1)] h h' → Q (tmd d t.1 d.2.2.1 t.2.1 b) h') : RtI l (D + 3) mX8_middle (zz ζ) [aP 40, aI b, aP 25, aP 44, aI d.2.2.2.2.2.1] h Q := by
  have okd := ok
  obtain ⟨o1, o2, o3, o4⟩ := ok
  obtain ⟨d1, d2, d3, d4, d5, d6, d7⟩ := id hd
  refine e_X8_middle_h hn ?_
  have mb := fun (C : Nat) => mdA_bd (p := tsh d t.1 b) (v := tmv d t.1 d.2.2.1 t.2.1 b) (a := h 50) (C := C) (fun c _ hs => (tmv_bd okd hK.1 hb b c hs).1)
  have main : ∀ (m c : Nat) (g : HI), c + m = d.2.2.2.2.2.1 → FL [(50, -1)] h g → g 50 = (mdA (tsh d t.1 b) (tmv d t.1 d.2.2.1 t.2.1 b) (h 50) c).1 → G l (D + 3) 0 0 mX8_middle (zz ζ) 6 [aP 40, aI b, aP 25, aP 44, aI d.2.2.2.2.2.1, aI (mdA (tsh d t.1 b) (tmv d t.1 d.2.2.1 t.2.1 b) (h 50) c).2, aI c, aU, aU] [] g (qI (zz ζ) Q) := by
    intro m
    induction m with
    | zero =>
      intro c g hc f e
      have mc := mb c
      have cc : c = d.2.2.2.2.2.1 := by omega
      subst cc
      have nb := cN_bd (tsh d t.1 b) d.2.2.2.2.2.1
      have tb := Int.tdiv_eq_ediv_of_nonneg (a := ((mdA (tsh d t.1 b) (tmv d t.1 d.2.2.1 t.2.1 b) (h 50) d.2.2.2.2.2.1).2 : Int) - 1) (b := 2) (by omega)
      refine b_X8_middle_h_6 hn ⟨by constructor <;> omega, by constructor <;> omega, iteP (by omega) ⟨by constructor <;> omega, iteP (by omega) ⟨by constructor <;> omega, ⟨by omega, by omega⟩, ?_⟩⟩⟩
      have := hq g f
      have mm := mdA_congr (p := tsh d t.1 b) (v := tmv d t.1 d.2.2.1 t.2.1 b) (a := h 50) (b := fun _ => 0) (C := d.2.2.2.2.2.1)
      unfold tmd at this
      rw [← mm.1, ← mm.2 _ (by omega) (by omega), ← e] at this
      exact this
    | succ m ih =>
      intro c g hc f e
      have mc := mb c
      have nb := cN_bd (tsh d t.1 b) c
      have hw' : TWX d t g := fun c c0 c1 => by
        have := hw c c0 c1
        rw [f.c 44 rfl, f.c 45 rfl, f.c 46 rfl, f.c 47 rfl, f.c 48 rfl]; exact this
      have hf' : TFX d g := fun c b hc h0 h1 => by rw [f.c 49 rfl]; exact hf c b hc h0 h1
      refine b_X8_middle_h_6 hn ⟨by constructor <;> omega, by constructor <;> omega, iteN (by omega) (s_shares hn okd hw' hf' (by omega) h6 ?_)⟩
      cases es : tsh d t.1 b c with
      | false =>
        have k := ih (c + 1) g (by omega) f (by unfold mdA; rw [es]; exact e)
        have ec : ((c + 1 : Nat) : Int) = (c : Int) + 1 := by omega
        rw [ec] at k
        unfold mdA at k
        rw [es] at k
        exact ⟨by decide, iteP rfl k⟩
      | true =>
        have ft := tfs_bd d c b
        have es2 := of_decide_eq_true es
        have vb := (tmv_bd okd hK.1 hb b c es).1
        refine ⟨by decide, iteN (by decide) ⟨⟨by omega, by omega⟩, ?_⟩⟩
        rw [hf' c b (by omega) h6.1 h6.2]
        refine ⟨⟨by omega, by omega⟩, ⟨by omega, by omega⟩, ?_⟩
        have ev : g 25 (tfs d c b) - g 44 c = tmv d t.1 d.2.2.1 t.2.1 b c := by
          rw [f.c 25 rfl, d3, (hw' c (by omega) (by omega)).2.1]; rfl
        rw [ev]
        have ins : ∀ (i : Nat) (g' : HI), (i : Int) ≤ (mdA (tsh d t.1 b) (tmv d t.1 d.2.2.1 t.2.1 b) (h 50) c).2 → FL [(50, -1)] h g' → (∀ j : Int, 0 ≤ j → j < i → rg (g' 50 j)) → insA (tmv d t.1 d.2.2.1 t.2.1 b c) i (g' 50) = (mdA (tsh d t.1 b) (tmv d t.1 d.2.2.1 t.2.1 b) (h 50) (c + 1)).1 → G l (D + 3) 0 0 mX8_middle (zz ζ) 48 [aP 40, aI b, aP 25, aP 44, aI d.2.2.2.2.2.1, aI (mdA (tsh d t.1 b) (tmv d t.1 d.2.2.1 t.2.1 b) (h 50) c).2, aI c, aI (tmv d t.1 d.2.2.1 t.2.1 b c), aI i] [] g' (qI (zz ζ) Q) := by
          have fin : ∀ (g' : HI), FL [(50, -1)] h g' → g' 50 = (mdA (tsh d t.1 b) (tmv d t.1 d.2.2.1 t.2.1 b) (h 50) (c + 1)).1 → G l (D + 3) 0 0 mX8_middle (zz ζ) 6 [aP 40, aI b, aP 25, aP 44, aI d.2.2.2.2.2.1, aI ((mdA (tsh d t.1 b) (tmv d t.1 d.2.2.1 t.2.1 b) (h 50) c).2 + 1), aI ((c : Int) + 1), aU, aU] [] g' (qI (zz ζ) Q) := by
            intro g' f' e'
            have k := ih (c + 1) g' (by omega) f' e'
            have ec : ((c + 1 : Nat) : Int) = (c : Int) + 1 := by omega
            have en : (((mdA (tsh d t.1 b) (tmv d t.1 d.2.2.1 t.2.1 b) (h 50) (c + 1)).2 : Nat) : Int) = ((mdA (tsh d t.1 b) (tmv d t.1 d.2.2.1 t.2.1 b) (h 50) c).2 : Int) + 1 := by
              rw [mdA_t es]; simp
            rw [ec, en] at k
            exact k
          intro i
          induction i with
          | zero =>
            intro g' hi f' hr e'
            refine b_X8_middle_h_48 hn ⟨by constructor <;> omega, iteP (by omega) ⟨⟨by omega, by omega⟩, fin _ (f'.ua rfl) ?_⟩⟩
            rw [hu_fu, ← e']; rfl
          | succ i ihi =>
            intro g' hi f' hr e'
            have ei : ((i + 1 : Nat) : Int) - 1 = (i : Int) := by omega
            refine b_X8_middle_h_48 hn ⟨by constructor <;> omega, iteN (by omega) ?_⟩
            rw [ei]
            refine ⟨⟨by omega, by omega⟩, hr i (by omega) (by omega), by constructor <;> omega, iteI (fun q => ?_) (fun q => ?_)⟩
            · refine ⟨⟨by omega, by omega⟩, fin _ (f'.ua rfl) ?_⟩
              rw [hu_fu, ← e']
              exact (insA_p q).symm
            · refine ⟨⟨by omega, by omega⟩, ?_⟩
              rw [show ((i + 1 : Nat) : Int) + (-1) = (i : Int) by omega]
              refine ihi _ (by omega) (f'.ua rfl) (fun j j0 j1 => ?_) ?_
              · rw [hu_fu, fu_n _ _ (by omega)]; exact hr j j0 (by omega)
              · rw [hu_fu, ← e']
                exact (insA_n q).symm
        refine ins _ g (by omega) f (fun j j0 j1 => ?_) ?_
        · rw [e]
          have := mc.2 j j0 j1
          constructor <;> omega
        · rw [e, mdA_t es]
  have m0 := main d.2.2.2.2.2.1 0 h (by omega) FL.refl rfl
  exact m0
theorem s_middle_p (hn : 144 ≤ ζ.2.2.2.2) {d : TD} {t : TS} {K : Int} (ok : TDok d) (hd : TDX d h) (hK : 0 ≤ K ∧ K ≤ 5000) (hb : tbd K t) (hw : TWX d t h) (hf : TFX d h) {b : Int} (h6 : 0 ≤ b ∧ b < 6) (hN : 0 < cN (tsh d t.1 b) d.2.2.2.2.2.1) (hq : ∀ h', FL [(50, -1)] h h' → Q (tmd d t.1 d.2.2.2.1 t.2.2 b) h') : RtI l (D + 3) mX8_middle (zz ζ) [aP 40, aI b, aP 26, aP 45, aI d.2.2.2.2.2.1] h Q := by
  have okd := ok
  obtain ⟨o1, o2, o3, o4⟩ := ok
  obtain ⟨d1, d2, d3, d4, d5, d6, d7⟩ := id hd
  refine e_X8_middle_p hn ?_
  have mb := fun (C : Nat) => mdA_bd (p := tsh d t.1 b) (v := tmv d t.1 d.2.2.2.1 t.2.2 b) (a := h 50) (C := C) (fun c _ hs => (tmv_bd okd hK.1 hb b c hs).2)
  have main : ∀ (m c : Nat) (g : HI), c + m = d.2.2.2.2.2.1 → FL [(50, -1)] h g → g 50 = (mdA (tsh d t.1 b) (tmv d t.1 d.2.2.2.1 t.2.2 b) (h 50) c).1 → G l (D + 3) 0 0 mX8_middle (zz ζ) 6 [aP 40, aI b, aP 26, aP 45, aI d.2.2.2.2.2.1, aI (mdA (tsh d t.1 b) (tmv d t.1 d.2.2.2.1 t.2.2 b) (h 50) c).2, aI c, aU, aU] [] g (qI (zz ζ) Q) := by
    intro m
    induction m with
    | zero =>
      intro c g hc f e
      have mc := mb c
      have cc : c = d.2.2.2.2.2.1 := by omega
      subst cc
      have nb := cN_bd (tsh d t.1 b) d.2.2.2.2.2.1
      have tb := Int.tdiv_eq_ediv_of_nonneg (a := ((mdA (tsh d t.1 b) (tmv d t.1 d.2.2.2.1 t.2.2 b) (h 50) d.2.2.2.2.2.1).2 : Int) - 1) (b := 2) (by omega)
      refine b_X8_middle_p_6 hn ⟨by constructor <;> omega, by constructor <;> omega, iteP (by omega) ⟨by constructor <;> omega, iteP (by omega) ⟨by constructor <;> omega, ⟨by omega, by omega⟩, ?_⟩⟩⟩
      have := hq g f
      have mm := mdA_congr (p := tsh d t.1 b) (v := tmv d t.1 d.2.2.2.1 t.2.2 b) (a := h 50) (b := fun _ => 0) (C := d.2.2.2.2.2.1)
      unfold tmd at this
      rw [← mm.1, ← mm.2 _ (by omega) (by omega), ← e] at this
      exact this
    | succ m ih =>
      intro c g hc f e
      have mc := mb c
      have nb := cN_bd (tsh d t.1 b) c
      have hw' : TWX d t g := fun c c0 c1 => by
        have := hw c c0 c1
        rw [f.c 44 rfl, f.c 45 rfl, f.c 46 rfl, f.c 47 rfl, f.c 48 rfl]; exact this
      have hf' : TFX d g := fun c b hc h0 h1 => by rw [f.c 49 rfl]; exact hf c b hc h0 h1
      refine b_X8_middle_p_6 hn ⟨by constructor <;> omega, by constructor <;> omega, iteN (by omega) (s_shares hn okd hw' hf' (by omega) h6 ?_)⟩
      cases es : tsh d t.1 b c with
      | false =>
        have k := ih (c + 1) g (by omega) f (by unfold mdA; rw [es]; exact e)
        have ec : ((c + 1 : Nat) : Int) = (c : Int) + 1 := by omega
        rw [ec] at k
        unfold mdA at k
        rw [es] at k
        exact ⟨by decide, iteP rfl k⟩
      | true =>
        have ft := tfs_bd d c b
        have es2 := of_decide_eq_true es
        have vb := (tmv_bd okd hK.1 hb b c es).2
        refine ⟨by decide, iteN (by decide) ⟨⟨by omega, by omega⟩, ?_⟩⟩
        rw [hf' c b (by omega) h6.1 h6.2]
        refine ⟨⟨by omega, by omega⟩, ⟨by omega, by omega⟩, ?_⟩
        have ev : g 26 (tfs d c b) - g 45 c = tmv d t.1 d.2.2.2.1 t.2.2 b c := by
          rw [f.c 26 rfl, d4, (hw' c (by omega) (by omega)).2.2.1]; rfl
        rw [ev]
        have ins : ∀ (i : Nat) (g' : HI), (i : Int) ≤ (mdA (tsh d t.1 b) (tmv d t.1 d.2.2.2.1 t.2.2 b) (h 50) c).2 → FL [(50, -1)] h g' → (∀ j : Int, 0 ≤ j → j < i → rg (g' 50 j)) → insA (tmv d t.1 d.2.2.2.1 t.2.2 b c) i (g' 50) = (mdA (tsh d t.1 b) (tmv d t.1 d.2.2.2.1 t.2.2 b) (h 50) (c + 1)).1 → G l (D + 3) 0 0 mX8_middle (zz ζ) 48 [aP 40, aI b, aP 26, aP 45, aI d.2.2.2.2.2.1, aI (mdA (tsh d t.1 b) (tmv d t.1 d.2.2.2.1 t.2.2 b) (h 50) c).2, aI c, aI (tmv d t.1 d.2.2.2.1 t.2.2 b c), aI i] [] g' (qI (zz ζ) Q) := by
          have fin : ∀ (g' : HI), FL [(50, -1)] h g' → g' 50 = (mdA (tsh d t.1 b) (tmv d t.1 d.2.2.2.1 t.2.2 b) (h 50) (c + 1)).1 → G l (D + 3) 0 0 mX8_middle (zz ζ) 6 [aP 40, aI b, aP 26, aP 45, aI d.2.2.2.2.2.1, aI ((mdA (tsh d t.1 b) (tmv d t.1 d.2.2.2.1 t.2.2 b) (h 50) c).2 + 1), aI ((c : Int) + 1), aU, aU] [] g' (qI (zz ζ) Q) := by
            intro g' f' e'
            have k := ih (c + 1) g' (by omega) f' e'
            have ec : ((c + 1 : Nat) : Int) = (c : Int) + 1 := by omega
            have en : (((mdA (tsh d t.1 b) (tmv d t.1 d.2.2.2.1 t.2.2 b) (h 50) (c + 1)).2 : Nat) : Int) = ((mdA (tsh d t.1 b) (tmv d t.1 d.2.2.2.1 t.2.2 b) (h 50) c).2 : Int) + 1 := by
              rw [mdA_t es]; simp
            rw [ec, en] at k
            exact k
          intro i
          induction i with
          | zero =>
            intro g' hi f' hr e'
            refine b_X8_middle_p_48 hn ⟨by constructor <;> omega, iteP (by omega) ⟨⟨by omega, by omega⟩, fin _ (f'.ua rfl) ?_⟩⟩
            rw [hu_fu, ← e']; rfl
          | succ i ihi =>
            intro g' hi f' hr e'
            have ei : ((i + 1 : Nat) : Int) - 1 = (i : Int) := by omega
            refine b_X8_middle_p_48 hn ⟨by constructor <;> omega, iteN (by omega) ?_⟩
            rw [ei]
            refine ⟨⟨by omega, by omega⟩, hr i (by omega) (by omega), by constructor <;> omega, iteI (fun q => ?_) (fun q => ?_)⟩
            · refine ⟨⟨by omega, by omega⟩, fin _ (f'.ua rfl) ?_⟩
              rw [hu_fu, ← e']
              exact (insA_p q).symm
            · refine ⟨⟨by omega, by omega⟩, ?_⟩
              rw [show ((i + 1 : Nat) : Int) + (-1) = (i : Int) by omega]
              refine ihi _ (by omega) (f'.ua rfl) (fun j j0 j1 => ?_) ?_
              · rw [hu_fu, fu_n _ _ (by omega)]; exact hr j j0 (by omega)
              · rw [hu_fu, ← e']
                exact (insA_n q).symm
        refine ins _ g (by omega) f (fun j j0 j1 => ?_) ?_
        · rw [e]
          have := mc.2 j j0 j1
          constructor <;> omega
        · rw [e, mdA_t es]
  have m0 := main d.2.2.2.2.2.1 0 h (by omega) FL.refl rfl
  exact m0
end TRX3
