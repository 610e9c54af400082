/-! swaps: the reference, and the call -/
section SW4
variable {l : Launch} {D : Nat} {ζ : ZP} {h : HI} {Q : Int → HI → Prop} {QV : HI → Prop} {key : Int → Int} {s n : Nat} {st : SW}
theorem s_mswapOne (hn : 144 ≤ ζ.2.2.2.2) (hN : h 97 43 = n) (s1 : 1 ≤ s) (s40 : s ≤ 40) (n40 : n ≤ 40) {K : Int} (K1 : 0 ≤ K ∧ K ≤ 4000000) (hK : swK s n K st) (hA : swA s n st (h 115) (h 118)) (hk : ∀ q : Int, 0 ≤ q → q < n → (0 ≤ h 114 q ∧ h 114 q < 60) ∧ h 106 (h 114 q) = key q ∧ 0 ≤ key q ∧ key q ≤ 6000) (hy : ∀ i j : Nat, swP key s n st i j → ∀ h', FL [(115, -1), (118, -1)] h h' → swA s n (swX key st i j) (h' 115) (h' 118) → Q 1 h') (hz : (∀ i j : Nat, ¬ swP key s n st i j) → ∀ h', FL [(115, -1), (118, -1)] h h' → swA s n st (h' 115) (h' 118) → Q 0 h') : RtI l (D + 2) mX12_swapOne (zz ζ) [aP 97, aI s] h Q := by
  have hk' : ∀ q : Int, 0 ≤ q → q < n → 0 ≤ key q ∧ key q ≤ 6000 := fun q q0 q1 => (hk q q0 q1).2.2
  have mb := mn_bd (f := fun r : Nat => st.2 r) (K := -K) (L := K) (n := s) (fun r hr => hK.2 r (by omega) (by omega))
  have mw : -K ≤ mnI st.2 s ∧ mnI st.2 s ≤ K := mb.1
  have mx : -K ≤ mxI st.2 s ∧ mxI st.2 s ≤ K := mb.2.1
  refine e_X12_swapOne hn (s_weakOf hn s1 (by omega) (f := fun r : Nat => st.2 r) (fun r hr => ⟨hA.2 r (by omega) (by omega), by have := hK.2 r (by omega) (by omega); constructor <;> omega⟩) (s_strongOf hn s1 (by omega) (f := fun r : Nat => st.2 r) (fun r hr => ⟨hA.2 r (by omega) (by omega), by have := hK.2 r (by omega) (by omega); constructor <;> omega⟩) ?_))
  have outer : ∀ (m i : Nat) (g : HI), i + m = n → FL [(115, -1), (118, -1)] h g → swA s n st (g 115) (g 118) → (∀ i' j' : Nat, i' < i → i' < j' → j' < n → ¬ swB key s st i' j') → G l (D + 2) 0 0 mX12_swapOne (zz ζ) 17 [aP 97, aI s, aI (mnI st.2 s), aI (mxI st.2 s - mnI st.2 s), aI i, aU, aU] [] g (qI (zz ζ) Q) := by
    intro m
    induction m with
    | zero =>
      intro i g hi f a no
      have g43 : g 97 43 = n := by rw [f.at 97 43 rfl]; exact hN
      refine b_X12_swapOne_17 hn ⟨by constructor <;> omega, by rw [g43]; constructor <;> omega, iteP (by rw [g43]; omega) (hz (fun a' b q => ?_) g f a)⟩
      exact no a' b (by have := q.1; have := q.2.1; omega) q.1 q.2.1 q.2.2.1
    | succ m ih =>
      intro i g hi f a no
      have g43 : g 97 43 = n := by rw [f.at 97 43 rfl]; exact hN
      refine b_X12_swapOne_17 hn ⟨by constructor <;> omega, by rw [g43]; constructor <;> omega, iteN (by rw [g43]; omega) ?_⟩
      have inner : ∀ (d j : Nat) (g : HI), j + d = n → i < j → FL [(115, -1), (118, -1)] h g → swA s n st (g 115) (g 118) → (∀ j' : Nat, i < j' → j' < j → ¬ swB key s st i j') → G l (D + 2) 0 0 mX12_swapOne (zz ζ) 32 [aP 97, aI s, aI (mnI st.2 s), aI (mxI st.2 s - mnI st.2 s), aI i, aI j, aU] [] g (qI (zz ζ) Q) := by
        intro d
        induction d with
        | zero =>
          intro j g hj hij f a no2
          have g43 : g 97 43 = n := by rw [f.at 97 43 rfl]; exact hN
          refine b_X12_swapOne_32 hn ⟨by constructor <;> omega, by rw [g43]; constructor <;> omega, iteP (by rw [g43]; omega) ?_⟩
          have kk := ih (i + 1) g (by omega) f a (fun a' b h1 h2 h3 => by
            by_cases e : a' = i
            · rw [e]; exact no2 b (by omega) (by omega)
            · exact no a' b (by omega) h2 h3)
          rw [show ((i + 1 : Nat) : Int) = (i : Int) + 1 by omega] at kk
          exact kk
        | succ d ihd =>
          intro j g hj hij f a no2
          have g43 : g 97 43 = n := by rw [f.at 97 43 rfl]; exact hN
          have ki := hk i (by omega) (by omega)
          have kj := hk j (by omega) (by omega)
          have ai := a.1 i (by omega) (by omega)
          have aj := a.1 j (by omega) (by omega)
          have ri := hK.1 i (by omega) (by omega)
          have rj := hK.1 j (by omega) (by omega)
          have g114 : g 114 = h 114 := f.c 114 rfl
          have g106 : g 106 = h 106 := f.c 106 rfl
          have skip : ¬ swB key s st i j → ∀ g' : HI, FL [(115, -1), (118, -1)] h g' → swA s n st (g' 115) (g' 118) → G l (D + 2) 0 0 mX12_swapOne (zz ζ) 32 [aP 97, aI s, aI (mnI st.2 s), aI (mxI st.2 s - mnI st.2 s), aI i, aI ((j : Int) + 1), aU] [] g' (qI (zz ζ) Q) := by
            intro nb g' f' a'
            have kk := ihd (j + 1) g' (by omega) (by omega) f' a' (fun j' h1 h2 => by
              by_cases e : j' = j
              · rw [e]; exact nb
              · exact no2 j' h1 (by omega))
            rw [show ((j + 1 : Nat) : Int) = (j : Int) + 1 by omega] at kk
            exact kk
          refine b_X12_swapOne_32 hn ⟨by constructor <;> omega, by rw [g43]; constructor <;> omega, iteN (by rw [g43]; omega) ⟨⟨by omega, by omega⟩, ⟨by omega, by omega⟩, ?_⟩⟩
          rw [ai, aj]
          refine ⟨by constructor <;> omega, by constructor <;> omega, iteI (fun y => e_X12_move hn ?_) (fun y => skip (fun q => q.1 (Classical.not_not.mp y)) g f a)⟩
          rw [ai, aj, g114, g106, ki.2.1, kj.2.1]
          refine ⟨⟨by omega, by omega⟩, kj.1, ⟨by omega, by omega⟩, ki.1, ⟨ri.1, by omega⟩, ⟨rj.1, by omega⟩, ?_⟩
          generalize hG : (hu (hu (hu (hu g 118 (st.1 i) (g 118 (st.1 i) + (key j - key i))) 118 (st.1 j) ((hu g 118 (st.1 i) (g 118 (st.1 i) + (key j - key i))) 118 (st.1 j) - (key j - key i))) 115 i (st.1 j)) 115 j (st.1 i)) = GG
          have fG : FL [(115, -1), (118, -1)] g GG := by subst hG; exact (((FL.refl.ua rfl).ua rfl).ua rfl).ua rfl
          have aG : swA s n (swX key st i j) (GG 115) (GG 118) := by
            subst hG
            refine ⟨fun q q0 q1 => ?_, fun r r0 r1 => ?_⟩
            · rw [hu_fu, hu_fu, hu_c _ _ _ (by decide), hu_c _ _ _ (by decide)]
              show _ = fu (fu st.1 i (st.1 j)) j (st.1 i) q
              unfold fu
              rw [a.1 q q0 q1]
            · rw [hu_c _ _ _ (by decide), hu_c _ _ _ (by decide), hu_fu, hu_fu]
              show _ = fu (fu st.2 (st.1 i) (st.2 (st.1 i) + (key j - key i))) (st.1 j) (st.2 (st.1 j) - (key j - key i)) r
              rw [fu_n (g 118) _ (fun e => y e.symm), a.2 _ ri.1 ri.2, a.2 _ rj.1 rj.2]
              unfold fu
              rw [a.2 r r0 r1]
          have FG : FL [(115, -1), (118, -1)] h GG := f.trans fG
          have KX := swK_X (key := key) hK (i := (i : Int)) (j := (j : Int)) ⟨by omega, by omega⟩ ⟨by omega, by omega⟩ hk' y
          have mbx := mn_bd (f := fun r : Nat => (swX key st i j).2 r) (K := -(K + 6000)) (L := K + 6000) (n := s) (fun r hr => KX.2 r (by omega) (by omega))
          have sF : (swX key st i j).2 = swF st.2 (st.1 i) (st.1 j) (key j - key i) := rfl
          have wv : mnF (fun r : Nat => (swX key st i j).2 r) s = mnI (swF st.2 (st.1 i) (st.1 j) (key j - key i)) s := rfl
          have xv : mxF (fun r : Nat => (swX key st i j).2 r) s = mxI (swF st.2 (st.1 i) (st.1 j) (key j - key i)) s := rfl
          rw [wv, xv] at mbx
          have frg : ∀ r : Nat, r < s → GG 118 r = (swX key st i j).2 r ∧ rg ((swX key st i j).2 r) := fun r hr => ⟨aG.2 r (by omega) (by omega), by have := KX.2 r (by omega) (by omega); constructor <;> omega⟩
          refine s_weakOf hn s1 (by omega) (f := fun r : Nat => (swX key st i j).2 r) frg ?_
          rw [wv]
          have back : ¬ swB key s st i j → RtV l (D + 1) mX12_moveBack (zz ζ) [aP 97, aI i, aI j] GG (fun h3 => G l (D + 2) 0 0 mX12_swapOne (zz ζ) 32 [aP 97, aI s, aI (mnI st.2 s), aI (mxI st.2 s - mnI st.2 s), aI i, aI ((j : Int) + 1), aU] [] h3 (qI (zz ζ) Q)) := by
            intro nb
            have bi : GG 115 i = st.1 j := by
              rw [aG.1 i (by omega) (by omega)]
              show fu (fu st.1 i (st.1 j)) j (st.1 i) i = _
              rw [fu_n _ _ (by omega), fu_s]
            have bj : GG 115 j = st.1 i := by
              rw [aG.1 j (by omega) (by omega)]
              show fu (fu st.1 i (st.1 j)) j (st.1 i) j = _
              rw [fu_s]
            refine e_X12_moveBack hn ?_
            rw [FG.c 114 rfl, FG.c 106 rfl, bi, bj, ki.2.1, kj.2.1]
            refine ⟨⟨by omega, by omega⟩, ki.1, ⟨by omega, by omega⟩, kj.1, ⟨ri.1, by omega⟩, ⟨rj.1, by omega⟩, skip nb _ ((((FG.ua rfl).ua rfl).ua rfl).ua rfl) ⟨fun q q0 q1 => ?_, fun r r0 r1 => ?_⟩⟩
            · rw [hu_fu, hu_fu, hu_c _ _ _ (by decide), hu_c _ _ _ (by decide)]
              by_cases e1 : q = j
              · rw [e1, fu_s]
              · rw [fu_n _ _ e1]
                by_cases e2 : q = i
                · rw [e2, fu_s]
                · rw [fu_n _ _ e2, aG.1 q q0 q1]
                  show fu (fu st.1 i (st.1 j)) j (st.1 i) q = _
                  rw [fu_n _ _ e1, fu_n _ _ e2]
            · rw [hu_c _ _ _ (by decide), hu_c _ _ _ (by decide), hu_fu, hu_fu, fu_n (GG 118) _ (fun e => y e.symm), aG.2 _ ri.1 ri.2, aG.2 _ rj.1 rj.2]
              have va : (swX key st i j).2 (st.1 i) = st.2 (st.1 i) + (key j - key i) := by rw [sF]; unfold swF; rw [fu_n _ _ y, fu_s]
              have vb : (swX key st i j).2 (st.1 j) = st.2 (st.1 j) - (key j - key i) := by rw [sF]; unfold swF; rw [fu_s]
              rw [va, vb]
              by_cases e1 : r = st.1 j
              · rw [e1, fu_s]; omega
              · rw [fu_n _ _ e1]
                by_cases e2 : r = st.1 i
                · rw [e2, fu_s]; omega
                · rw [fu_n _ _ e2, aG.2 r r0 r1, sF]
                  unfold swF
                  rw [fu_n _ _ e1, fu_n _ _ e2]
          have pp : swB key s st i j → swP key s n st i j := fun q => ⟨hij, by omega, q, no2, no⟩
          refine ⟨by constructor <;> omega, by constructor <;> omega, iteI (fun w => hy i j (pp ⟨y, Or.inl w⟩) GG FG aG) (fun w => iteI (fun w2 => back (fun q => by have := q.2; omega)) (fun w2 => s_strongOf hn s1 (by omega) (f := fun r : Nat => (swX key st i j).2 r) frg ?_))⟩
          rw [xv]
          refine ⟨by constructor <;> omega, by constructor <;> omega, iteI (fun w3 => back (fun q => by have := q.2; omega)) (fun w3 => hy i j (pp ⟨y, Or.inr ⟨by omega, by omega⟩⟩) GG FG aG)⟩
      have kk := inner (n - (i + 1)) (i + 1) g (by omega) (by omega) f a (fun j' h1 h2 => by omega)
      rw [show ((i + 1 : Nat) : Int) = (i : Int) + 1 by omega] at kk
      exact kk
  exact outer n 0 h (by omega) FL.refl hA (fun a b h1 => absurd h1 (by omega))
end SW4
