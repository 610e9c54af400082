/-! bestMend: the reference's side, and the call -/
theorem fu_back {f : Int → Int} {j v : Int} : fu (fu f j v) j (f j) = f := by
  funext x
  unfold fu
  by_cases e : x = j
  · rw [if_pos e, e]
  · rw [if_neg e, if_neg e]
/-- the stock's relation doesn't look at what bestPair scribbles -/
theorem SR_scr {S S' : HI} {s nm : Int → Int} (i : SR S s nm) (ek : ∀ k, k < 30 → k ≠ 7 → k ≠ 18 → S' k = S k) (e0 : S' 7 0 = S 7 0) (e7 : S' 7 7 = S 7 7) : SR S' s nm := by
  obtain ⟨sa, sc, sr, ss, sp, su⟩ := i
  have r1 := sc.1.2.1
  have k0 : S' 0 = S 0 := ek 0 (by decide) (by decide) (by decide)
  have k1 : S' 1 = S 1 := ek 1 (by decide) (by decide) (by decide)
  have td' : td S' = td S := td_eq (ek 20 (by decide) (by decide) (by decide)) (ek 21 (by decide) (by decide) (by decide)) (ek 22 (by decide) (by decide) (by decide)) (ek 23 (by decide) (by decide) (by decide)) (by rw [k0]) (by rw [k0]) (by rw [k1])
  refine ⟨?_, ?_, ?_, ?_, ?_, ?_⟩
  · exact sa.to (by rw [k1]) (by rw [k1]) (agR_of (ek 3 (by decide) (by decide) (by decide))) (agR_of (ek 4 (by decide) (by decide) (by decide))) (fun j _ _ => rfl) (fun j _ _ => rfl)
  · exact sc.to (by rw [k0]) (by rw [k1]) (agR_of (ek 19 (by decide) (by decide) (by decide))) rfl (fun j _ _ => rfl)
  · exact sr.to (ek 20 (by decide) (by decide) (by decide)) (ek 21 (by decide) (by decide) (by decide)) (ek 22 (by decide) (by decide) (by decide)) (ek 23 (by decide) (by decide) (by decide)) (by rw [k0]) (by rw [k0]) (by rw [k1]) rfl (fun j _ _ => rfl)
  · exact ss.to (by rw [k0]) (by rw [k0]) (agR_of (ek 24 (by decide) (by decide) (by decide))) (agR_of (ek 25 (by decide) (by decide) (by decide))) (agR_of (ek 26 (by decide) (by decide) (by decide))) (agR_of (ek 27 (by decide) (by decide) (by decide))) (agR_of (ek 28 (by decide) (by decide) (by decide))) (agR_of (ek 29 (by decide) (by decide) (by decide))) r1 rfl rfl rfl (fun j _ _ => rfl)
  · exact sp.to e0 e7 r1 (by rw [k0]; exact Int.le_refl _) (fun c h0 h1 => by rw [k0] at h1; omega) (fun c _ _ => by rw [ek 8 (by decide) (by decide) (by decide)]) (agR_of (ek 9 (by decide) (by decide) (by decide))) (agR_of (ek 10 (by decide) (by decide) (by decide))) (agR_of (ek 11 (by decide) (by decide) (by decide))) (agR_of (ek 12 (by decide) (by decide) (by decide))) (agR_of (ek 13 (by decide) (by decide) (by decide))) (agR_of (ek 14 (by decide) (by decide) (by decide))) (agR_of (ek 15 (by decide) (by decide) (by decide))) (agR_of (ek 16 (by decide) (by decide) (by decide))) (agR_of (ek 17 (by decide) (by decide) (by decide))) (fun c hc => by rw [td']; exact hc) rfl rfl (fun j _ _ => rfl)
  · exact su.to (by rw [ek 5 (by decide) (by decide) (by decide)]) (by rw [ek 5 (by decide) (by decide) (by decide)]) (agR_of (ek 6 (by decide) (by decide) (by decide))) rfl (fun j _ _ => rfl)
section OP18
variable {l : Launch} {D : Nat} {ζ : ZP} {h : HI} {Q : Int → HI → Prop} {QV : HI → Prop} {p A B F : Int} {v : PV}
theorem s_mbest (hn : 144 ≤ ζ.2.2.2.2) (ok : pvOk v) (x : pvM h p v) (hA : h 99 2 = A ∧ 0 ≤ A ∧ A ≤ 99) (hB : h 99 3 = B ∧ 0 ≤ B ∧ B ≤ 99) (hF : h 99 4 = F ∧ 1 ≤ F ∧ F ≤ 999) {n : Nat} (n10 : n ≤ 10) (e43 : h 97 43 = n) {t : Int → Int} (ht : ∀ k : Nat, k < n → h 114 k = t k ∧ (0 ≤ t k ∧ t k < 60) ∧ (h 106 (t k) = v.2.2.2.1 (t k) ∧ 1 ≤ v.2.2.2.1 (t k) ∧ v.2.2.2.1 (t k) ≤ 6000) ∧ (h 107 (t k) = v.2.2.2.2 (t k) ∧ 1 ≤ v.2.2.2.2 (t k) ∧ v.2.2.2.2 (t k) ≤ 6000)) (hq : ∀ h', FL [(97, 59), (97, 60), (97, 61), (99, -1)] h h' → h' 99 = h 99 → h' 97 59 = 1 → ((bmO A B F v t n (v.1 * v.2.1)).1 ≠ -1 → h' 97 60 = (bmO A B F v t n (v.1 * v.2.1)).2.1 ∧ h' 97 61 = (bmO A B F v t n (v.1 * v.2.1)).2.2) → Q (bmO A B F v t n (v.1 * v.2.1)).1 h') : G l (D + 6) 0 0 mX12_bestMend (zz ζ) 67 [aP 97, aI p, aI (-1), aI 0, aU, aU, aU] [] h (qI (zz ζ) Q) := by
  have px := x.1
  have o3 := ok.2.2.1
  have tr : ∀ k : Nat, k < n → 0 ≤ t k ∧ t k < 60 := fun k hk => (ht k hk).2.1
  have m67 : ∀ (m i : Nat) (g : HI), i + m = v.1 * v.2.1 → FL [(97, 59), (97, 60), (97, 61), (99, -1)] h g → g 99 = h 99 → ((bmO A B F v t n i).1 ≠ -1 → g 97 60 = (bmO A B F v t n i).2.1 ∧ g 97 61 = (bmO A B F v t n i).2.2) → G l (D + 6) 0 0 mX12_bestMend (zz ζ) 67 [aP 97, aI p, aI (bmO A B F v t n i).1, aI i, aU, aU, aU] [] g (qI (zz ζ) Q) := by
    intro m
    induction m with
    | zero =>
      intro i g hi f e99 hs
      have : i = v.1 * v.2.1 := by omega
      subst this
      refine b_X12_bestMend_67 hn ⟨⟨by omega, by omega⟩, by constructor <;> omega, by rw [e99, x.2.1]; constructor <;> omega, iteP (by rw [e99, x.2.1]; omega) ?_⟩
      refine hq _ (f.u rfl) (by rw [hu_c _ _ _ (by decide)]; exact e99) (hu_s _ _ _ _) (fun z => ?_)
      rw [hu_j _ _ _ (by decide), hu_j _ _ _ (by decide)]
      exact hs z
    | succ m ih =>
      intro i g hi f e99 hs
      have bo := bmO_ok (A := A) (B := B) (F := F) ok tr (i := i) (by omega)
      have ii := ok.2.2.2 i (by omega) (by omega)
      have xi := x.2.2.2 i (by omega) (by omega)
      refine b_X12_bestMend_67 hn ⟨⟨by omega, by omega⟩, by constructor <;> omega, by rw [e99, x.2.1]; constructor <;> omega, iteN (by rw [e99, x.2.1]; omega) ⟨⟨by omega, by omega⟩, ?_⟩⟩
      rw [e99, xi.1]
      have m105 : ∀ (d j : Nat) (g' : HI), j + d = n → FL [(97, 59), (97, 60), (97, 61), (99, -1)] h g' → (∀ w, fu (g' 99) (2107 + 40 * p + i) w = fu (h 99) (2107 + 40 * p + i) w) → ((bmI' A B F v t i (bmO A B F v t n i) j).1 ≠ -1 → g' 97 60 = (bmI' A B F v t i (bmO A B F v t n i) j).2.1 ∧ g' 97 61 = (bmI' A B F v t i (bmO A B F v t n i) j).2.2) → G l (D + 6) 0 0 mX12_bestMend (zz ζ) 105 [aP 97, aI p, aI (bmI' A B F v t i (bmO A B F v t n i) j).1, aI i, aI (v.2.2.1 i), aI j, aU] [] g' (qI (zz ζ) Q) := by
        intro d
        induction d with
        | zero =>
          intro j g' hj f' e' hs'
          have : j = n := by omega
          subst this
          have g43 : g' 97 43 = j := by rw [f'.at 97 43 rfl]; exact e43
          refine b_X12_bestMend_105 hn ⟨by constructor <;> omega, by rw [g43]; constructor <;> omega, iteP (by rw [g43]; omega) ⟨⟨by omega, by omega⟩, ?_⟩⟩
          have kk := ih (i + 1) (hu g' 99 (2107 + 40 * p + i) (v.2.2.1 i)) (by omega) (f'.ua rfl) (by rw [hu_fu, e', ← xi.1]; funext y; unfold fu; split <;> simp_all) (by
            rw [hu_c _ _ _ (by decide)]; exact hs')
          rw [show ((i + 1 : Nat) : Int) = (i : Int) + 1 by omega] at kk
          exact kk
        | succ d ihd =>
          intro j g' hj f' e' hs'
          have g43 : g' 97 43 = n := by rw [f'.at 97 43 rfl]; exact e43
          have tj := ht j (by omega)
          have g114 : g' 114 j = t j := by rw [f'.c 114 rfl]; exact tj.1
          have uo := pvU_ok ok (i := (i : Int)) tj.2.1 tj.2.2.1.2 tj.2.2.2.2
          have bi := bmI_ok (A := A) (B := B) (F := F) (t := t) bo ii.1 (j := j) (fun k hk => tr k (by omega))
          have lu := lifeU_bd A B F v i (t j)
          refine b_X12_bestMend_105 hn ⟨by constructor <;> omega, by rw [g43]; constructor <;> omega, iteN (by rw [g43]; omega) ⟨⟨by omega, by omega⟩, ⟨by omega, by omega⟩, ?_⟩⟩
          rw [g114]
          have fG : FL [(97, 59), (97, 60), (97, 61), (99, -1)] h (hu g' 99 (2107 + 40 * p + i) (t j)) := f'.ua rfl
          have w99 : (hu g' 99 (2107 + 40 * p + i) (t j)) 99 = fu (h 99) (2107 + 40 * p + i) (t j) := by rw [hu_fu, e']
          have wo : ∀ k, k ≠ 99 → (hu g' 99 (2107 + 40 * p + i) (t j)) k = g' k := fun k hk => hu_c _ _ _ hk
          generalize (hu g' 99 (2107 + 40 * p + i) (t j)) = GG at fG w99 wo ⊢
          have xu : pvM GG p (pvU v i (t j)) := by
            refine ⟨px, ?_, ?_, fun y y0 y1 => ?_⟩
            · rw [w99, fu_n _ _ (by omega)]; exact x.2.1
            · rw [w99, fu_n _ _ (by omega)]; exact x.2.2.1
            · have y1' : y < (v.1 * v.2.1 : Nat) := y1
              show GG 99 (2107 + 40 * p + y) = fu v.2.2.1 i (t j) y ∧ GG 106 (fu v.2.2.1 i (t j) y) = v.2.2.2.1 (fu v.2.2.1 i (t j) y) ∧ GG 107 (fu v.2.2.1 i (t j) y) = v.2.2.2.2 (fu v.2.2.1 i (t j) y)
              rw [w99, fG.c 106 rfl, fG.c 107 rfl]
              by_cases e : y = i
              · rw [e, fu_s, fu_s]; exact ⟨rfl, tj.2.2.1.1, tj.2.2.2.1⟩
              · rw [fu_n _ _ (by omega), fu_n _ _ e]; exact x.2.2.2 y y0 y1'
          have la : GG 99 2 = A ∧ 0 ≤ A ∧ A ≤ 99 := by rw [w99, fu_n _ _ (by omega)]; exact hA
          have lb : GG 99 3 = B ∧ 0 ≤ B ∧ B ≤ 99 := by rw [w99, fu_n _ _ (by omega)]; exact hB
          have lf : GG 99 4 = F ∧ 1 ≤ F ∧ F ≤ 999 := by rw [w99, fu_n _ _ (by omega)]; exact hF
          refine s_endOf hn uo xu la lb lf (s_mcyclesOf hn uo xu la lb lf (amF_lt (by have := ok.1; show 0 < v.1; omega)) ?_)
          have el : pvc A B F (pvU v i (t j)) (amF (pvc A B F (pvU v i (t j))) (pvU v i (t j)).1) = lifeU A B F v i (t j) := rfl
          rw [el]
          have e1 : bmI' A B F v t i (bmO A B F v t n i) (j + 1) = bmS (lifeU A B F v i (t j)) (v.2.2.1 i) (t j) (bmI' A B F v t i (bmO A B F v t n i) j) := rfl
          have eGG : ∀ w, fu (GG 99) (2107 + 40 * p + i) w = fu (h 99) (2107 + 40 * p + i) w := fun w => by rw [w99]; funext y; unfold fu; split <;> rfl
          refine ⟨by constructor <;> omega, by have := bi.1; have := bi.2.1; constructor <;> omega, iteI (fun y => ?_) (fun y => ?_)⟩
          · have e2 : bmI' A B F v t i (bmO A B F v t n i) (j + 1) = (lifeU A B F v i (t j), v.2.2.1 i, t j) := by rw [e1]; exact if_pos y
            have g114' : GG 114 j = t j := by rw [wo 114 (by decide)]; exact g114
            rw [g114']
            have kk := ihd (j + 1) (hu (hu GG 97 60 (v.2.2.1 i)) 97 61 (t j)) (by omega) ((fG.u rfl).u rfl) (by rw [hu_c _ _ _ (by decide), hu_c _ _ _ (by decide)]; exact eGG) (fun _ => by
              rw [e2, hu_j _ _ _ (by decide), hu_s, hu_s]; exact ⟨rfl, rfl⟩)
            rw [e2, show ((j + 1 : Nat) : Int) = (j : Int) + 1 by omega] at kk
            exact kk
          · have e2 : bmI' A B F v t i (bmO A B F v t n i) (j + 1) = bmI' A B F v t i (bmO A B F v t n i) j := by rw [e1]; exact if_neg y
            have kk := ihd (j + 1) GG (by omega) fG eGG (by rw [e2, wo 97 (by decide)]; exact hs')
            rw [e2, show ((j + 1 : Nat) : Int) = (j : Int) + 1 by omega] at kk
            exact kk
      exact m105 n 0 g (by omega) f (fun w => by rw [e99]) hs
  exact m67 (v.1 * v.2.1) 0 h (by omega) FL.refl rfl (fun z => absurd rfl z)
theorem op_bestMend (i : Inv ζ h) (hp : rg p) : Op l (D + 60) ζ mX11_bestMend mX12_bestMend [aI p] h := by
  have hn := ζok_n i.1.1
  have tp : tpI h := i.1.2 0
  have sr : SR (stk 3 h) (h 99) (h 101) := i.1.2 2
  have ok := sr.2.2.1.2.1
  have c60 : h 3 3 ≤ 60 := sr.2.1.1.2.1
  have a : h 99 14 = h 10 0 ∧ 0 ≤ h 10 0 ∧ h 10 0 ≤ 10 := ⟨sr.2.2.2.2.1.1.2.2, sr.2.2.2.2.1.1.1, sr.2.2.2.2.1.1.2.1⟩
  have rb : rg (h 10 0 - 1) := by constructor <;> omega
  have t1 := tp.1
  have t2 := tp.2.1
  have la := lwA_of sr
  obtain ⟨n, en⟩ : ∃ n : Nat, h 1 1 = n := ⟨(h 1 1).toNat, by omega⟩
  have en' : (h 1 1).toNat = n := by omega
  -- the reference, to its end or to its search
  have mref : ∀ (R : Int → HI → Prop) (g : HI) (LX : List (Nat × Int)), FL LX h g → (!inC LX 97 && !inC LX 98 && !inC LX 99) = true → (¬ ((0 ≤ p ∧ p ≤ h 10 0 - 1) ∧ (1 ≤ h 1 1 ∧ h 1 1 ≤ 10) ∧ pk (stk 3 h) (tl h) 1 n) → ∀ k, FL LMk g k → k 97 2 = 0 → R (-1) k) → ((0 ≤ p ∧ p ≤ h 10 0 - 1) → (1 ≤ h 1 1 ∧ h 1 1 ≤ 10) → pk (stk 3 h) (tl h) 1 n → ∀ k, FL LMk g k → k 97 2 = 0 → k 97 43 = n → tM (stk 3 h) k → (∀ j : Int, 0 ≤ j → j < n → k 114 j = tl h j) → G l (D + 60) 0 0 mX12_bestMend (zz ζ) 67 [aP 97, aI p, aI (-1), aI 0, aU, aU, aU] [] k (qI (zz ζ) R)) → RtI l (D + 60) mX12_bestMend (zz ζ) [aP 97, aI p] g R := by
    intro R g LX fx cx hno hyes
    simp only [Bool.and_eq_true, Bool.not_eq_true'] at cx
    have e97 : g 97 = h 97 := fx.c 97 cx.1.1
    have e98 : g 98 = h 98 := fx.c 98 cx.1.2
    have e99 : g 99 = h 99 := fx.c 99 cx.2
    refine e_X12_bestMend hn (s_taken hn (fun g1 f1 a3 a2 a4 a5 => ?_))
    have F1 : FL [(97, 0), (97, 2), (97, 3), (97, 4), (97, 5)] g g1 := (FL.refl.u rfl).trans (f1.mono rfl)
    have n3 : g1 97 3 = h 1 1 := by rw [a3, hu_j _ _ _ (by decide), e97]; exact tp.2.2.1
    have g199 : g1 99 = h 99 := by rw [F1.c 99 rfl, e99]
    refine s_isPack hn hp (by rw [g199, a.1]; exact rb) ?_
    rw [g199, a.1]
    by_cases c1 : 0 ≤ p ∧ p ≤ h 10 0 - 1
    rotate_left
    · rw [if_neg c1]
      exact ⟨by decide, iteP rfl (hno (fun q => c1 q.1) g1 (F1.mono rfl) a2)⟩
    rw [if_pos c1]
    refine ⟨by decide, iteN (by decide) (s_tells i (g := g1) g199 (by rw [F1.c 98 rfl, e98]) n3 (by decide) (by decide) (fun c0 pp k f e43 tm e114 => ?_) (fun no k f => ?_))⟩
    rotate_left
    · refine ⟨by decide, iteN (by decide) (hno (fun q => no ⟨q.2.1, ?_⟩) k ((F1.mono rfl).trans (f.mono rfl)) (by rw [f.at 97 2 rfl]; exact a2))⟩
      rw [en']
      exact fun j hj => ⟨(q.2.2 j hj).1, (q.2.2 j hj).2.1, (q.2.2 j hj).2.2.1, fun z => absurd rfl z⟩
    rw [en'] at pp
    rw [en] at e43 e114
    have FK : FL LMk g k := (F1.mono rfl).trans (f.mono rfl)
    have k2 : k 97 2 = 0 := by rw [f.at 97 2 rfl]; exact a2
    have k99 : k 99 = h 99 := by rw [FK.c 99 rfl, e99]
    refine ⟨by decide, iteP (by decide) ?_⟩
    have main : ∀ (m j : Nat), j + m = n → (∀ q : Nat, q < j → h 11 (tl h q) = -1) → G l (D + 60) 0 0 mX12_bestMend (zz ζ) 34 [aP 97, aI p, aI j, aU, aU, aU, aU] [] k (qI (zz ζ) R) := by
      intro m
      induction m with
      | zero =>
        intro j hj all
        refine b_X12_bestMend_34 hn ⟨by constructor <;> omega, by rw [e43]; constructor <;> omega, iteP (by rw [e43]; omega) ?_⟩
        exact hyes c1 c0 (fun q hq => ⟨(pp q hq).1, (pp q hq).2.1, (pp q hq).2.2.1, fun _ => all q (by omega)⟩) k FK k2 e43 tm e114
      | succ m ih =>
        intro j hj all
        have pj := pp j (by omega)
        have w := sr.2.2.2.2.1.2.2.2.1 (tl h j) pj.1.1 pj.1.2
        have w1 : -1 ≤ h 11 (tl h j) ∧ h 11 (tl h j) < h 10 0 := ⟨w.1, w.2.1⟩
        refine b_X12_bestMend_34 hn ⟨by constructor <;> omega, by rw [e43]; constructor <;> omega, iteN (by rw [e43]; omega) ⟨⟨by omega, by omega⟩, ?_⟩⟩
        rw [e114 j (by omega) (by omega)]
        refine s_mpackOf hn sr k99 pj.1 ⟨by constructor <;> omega, iteI (fun z => ?_) (fun z => hno (fun q => ?_) k FK k2)⟩
        · have kk := ih (j + 1) (by omega) (fun q hq => by
            by_cases eq : q = j
            · rw [eq]; omega
            · exact all q (by omega))
          rw [show ((j + 1 : Nat) : Int) = (j : Int) + 1 by omega] at kk
          exact kk
        · have : h 11 (tl h j) = -1 := (q.2.2 j (by omega)).2.2.2 (by decide)
          omega
    exact main n 0 (by omega) (fun q hq => absurd hq (by omega))
  have refuse : ∀ (g : HI), FL LPk h g → g 1 1 = 0 → trI g → ¬ ((0 ≤ p ∧ p ≤ h 10 0 - 1) ∧ (1 ≤ h 1 1 ∧ h 1 1 ≤ 10) ∧ pk (stk 3 h) (tl h) 1 n) → RtI l (D + 60) mX12_bestMend (zz ζ) [aP 97, aI p] g (fun r2 h2 => rg (-1) ∧ rg r2 ∧ -1 = r2 ∧ h2 1000003 = h 1000003 ∧ h2 1000004 = h 1000004 ∧ Inv ζ h2) := by
    intro g fx e11 tr no
    refine mref _ g _ fx rfl (fun _ k fk e2 => ?_) (fun q1 q2 q3 => absurd ⟨q1, q2, q3⟩ no)
    have F : FL (LPk ++ LMk) h k := (fx.mono rfl).trans (fk.mono rfl)
    exact op_fin2 i rfl (by decide) F [0] rfl (new1 (tp0 tp F (by rw [fk.at 1 1 rfl]; exact e11) e2 rfl)) (tr.fl fk rfl)
  refine e_X11_bestMend hn (s_pick i (Or.inr rfl) (by decide) (by decide) (fun c0 pk0 g fx e11 tr tx e51 => ?_) (fun no g fx e11 tr => ?_))
  rotate_left
  · exact ⟨by decide, iteP rfl ⟨fx.c _ rfl, fx.c _ rfl, refuse g fx e11 tr (fun q => no ⟨q.2.1, by rw [en']; exact q.2.2⟩)⟩⟩
  rw [en'] at pk0
  rw [en] at e51
  rw [en]
  refine ⟨by constructor <;> omega, iteN (by omega) (s_hasP hn hp (by rw [fx.at 10 0 rfl]; constructor <;> omega) ?_)⟩
  rw [fx.at 10 0 rfl]
  by_cases c1 : 0 ≤ p ∧ p ≤ h 10 0 - 1
  rotate_left
  · rw [if_neg c1]
    exact ⟨by decide, iteN (by decide) ⟨fx.c _ rfl, fx.c _ rfl, refuse g fx e11 tr (fun q => c1 q.1)⟩⟩
  rw [if_pos c1]
  have v := pvS_ok sr c1.1 (by show p < h 10 0; omega)
  have vx := pvX_of sr c1.1 (by omega) fx rfl tx
  have VH : (pvS (stk 3 h) p).2.2.2.1 = tH (stk 3 h) := rfl
  have VP : (pvS (stk 3 h) p).2.2.2.2 = tP (stk 3 h) := rfl
  have NZ : 0 < (pvS (stk 3 h) p).1 * (pvS (stk 3 h) p).2.1 := Nat.mul_pos v.1.1 v.1.2.1
  generalize hv : pvS (stk 3 h) p = V at v vx VH VP NZ
  have tok : ∀ k : Nat, k < n → (0 ≤ tl h k ∧ tl h k < h 3 3) ∧ tN (stk 3 h) (tl h k) ≠ 0 ∧ (1 ≤ tH (stk 3 h) (tl h k) ∧ tH (stk 3 h) (tl h k) ≤ 6000) ∧ (1 ≤ tP (stk 3 h) (tl h k) ∧ tP (stk 3 h) (tl h k) ≤ 6000) := by
    intro k hk
    have pj := pk0 k hk
    have b := tv_bd ok (tl h k)
    have nz : tN (stk 3 h) (tl h k) ≠ 0 := by have := pj.2.1; omega
    exact ⟨pj.1, nz, ⟨b.2.1.2.2 nz, b.2.1.2.1⟩, ⟨b.2.2.2.2 nz, b.2.2.2.1⟩⟩
  have BO := bmO_ok (A := h 99 2) (B := h 99 3) (F := h 99 4) v.1 (t := tl h) (n := n) (fun k hk => by have := (tok k hk).1; omega) (i := V.1 * V.2.1) (Nat.le_refl _)
  have BP := bmO_pos (A := h 99 2) (B := h 99 3) (F := h 99 4) (v := V) (t := tl h) (n := n) (by omega) NZ
  refine ⟨by decide, iteP (by decide) (s_bestPair hn v.1 vx (A := h 99 2) (B := h 99 3) (F := h 99 4) (by rw [fx.c 7 rfl]; exact la.1) (by rw [fx.c 7 rfl]; exact la.2.1) (by rw [fx.c 7 rfl]; exact la.2.2) (n := n) (by omega) (t := tl h) (fun k hk => ?_) (fun g2 f2 e12 => ?_))⟩
  · have tk := tok k hk
    have t1' := tx (tl h k) tk.1.1 (by omega)
    rw [VH, VP]
    exact ⟨e51 k (by omega) (by omega), ⟨tk.1.1, by omega⟩, ⟨t1'.2.1, tk.2.2.1⟩, ⟨t1'.2.2.1, tk.2.2.2⟩⟩
  have mbest := fun (kM : HI) (R : Int → HI → Prop) (k99 : kM 99 = h 99) (tm : tM (stk 3 h) kM) (e43 : kM 97 43 = n) (e114 : ∀ j : Int, 0 ≤ j → j < n → kM 114 j = tl h j) (vm : pvM kM p V) => s_mbest (l := l) (D := D + 54) (Q := R) hn v.1 vm (A := h 99 2) (B := h 99 3) (F := h 99 4) (by rw [k99]; exact ⟨rfl, la.1.2⟩) (by rw [k99]; exact ⟨rfl, la.2.1.2⟩) (by rw [k99]; exact ⟨rfl, la.2.2.2⟩) (n := n) (by omega) e43 (t := tl h) (fun k hk => by
    have tk := tok k hk
    have t1' := tm (tl h k) tk.1.1 tk.1.2
    rw [if_neg tk.2.1, if_neg tk.2.1] at t1'
    rw [VH, VP]
    exact ⟨e114 k (by omega) (by omega), ⟨tk.1.1, by omega⟩, ⟨t1'.2.1, tk.2.2.1⟩, ⟨t1'.2.2.1, tk.2.2.2⟩⟩)
  generalize hst : bmO (h 99 2) (h 99 3) (h 99 4) V (tl h) n (V.1 * V.2.1) = st at BO BP e12 mbest ⊢
  obtain ⟨o, eo⟩ : ∃ o : Nat, st.2.1 = o := ⟨st.2.1.toNat, by have := BO.2.2.1; omega⟩
  obtain ⟨c, ec⟩ : ∃ c : Nat, st.2.2 = c := ⟨st.2.2.toNat, by have := BO.2.2.2; omega⟩
  have dec := encP_dec o (by have := BO.2.2.1; omega) c (by have := BO.2.2.2; omega)
  rw [eo, ec, dec.1, dec.2, e12]
  generalize hG : hu (hu g2 0 10 o) 0 11 c = GG
  have fG : FL [(0, 10), (0, 11)] g2 GG := by subst hG; exact (FL.refl.u rfl).u rfl
  have w10 : GG 0 10 = o := by subst hG; rw [hu_j _ _ _ (by decide), hu_s]
  have w11 : GG 0 11 = c := by subst hG; rw [hu_s]
  have FX : FL ((21, -1) :: (10, 12) :: (0, 10) :: (0, 11) :: LPk) h GG := ((fx.mono rfl).trans (f2.mono rfl)).trans (fG.mono rfl)
  refine ⟨FX.c _ rfl, FX.c _ rfl, mref _ GG _ FX rfl (fun no => absurd ⟨c1, c0, pk0⟩ no) (fun _ _ _ kM fk e2 e43 tm e114 => ?_)⟩
  have k99 : kM 99 = h 99 := by rw [fk.c 99 rfl, FX.c 99 rfl]
  have vm : pvM kM p V := by rw [← hv]; exact pvM_of sr c1.1 (by omega) k99 tm
  refine mbest kM _ k99 tm e43 e114 vm (fun k fl e99 e59 e60 => ?_)
  have e6 := e60 (by omega)
  have FM : FL ((97, 59) :: (97, 60) :: (97, 61) :: (99, -1) :: LMk) GG k := (fk.mono rfl).trans (fl.mono rfl)
  have FF : FL ((21, -1) :: (10, 12) :: (0, 10) :: (0, 11) :: (97, 59) :: (97, 60) :: (97, 61) :: (99, -1) :: (LPk ++ LMk)) h k := (FX.mono rfl).trans (FM.mono rfl)
  have td' : td (stk 3 k) = td (stk 3 h) := td_eq (FF.c 23 rfl) (FF.c 24 rfl) (FF.c 25 rfl) (FF.c 26 rfl) (FF.at 3 5 rfl) (FF.at 3 3 rfl) (FF.at 4 3 rfl)
  refine op_fin2 i rfl (by have := BO.2.1; constructor <;> omega) FF [0, 2, 6] rfl ?_ ?_
  · intro y hm
    rcases List.mem_cons.mp hm with e | hm
    · subst e
      refine tp0 tp FF ?_ ?_ rfl
      · rw [FM.at 1 1 rfl, fG.at 1 1 rfl, f2.at 1 1 rfl]; exact e11
      · rw [fl.at 97 2 rfl]; exact e2
    · rcases List.mem_cons.mp hm with e | hm
      · subst e
        show SR (stk 3 k) (k 99) (k 101)
        rw [e99, k99, FF.c 101 rfl]
        refine SR_scr sr (fun q hq h7 h18 => ?_) (FF.at 10 0 rfl) (FF.at 10 7 rfl)
        rw [stk_at 3 k hq, stk_at 3 h hq]
        refine FF.c (3 + q) ?_
        simp only [inC, List.any_cons, List.any_append, LPk, LMk, List.any_nil, Bool.or_false, Bool.or_eq_false_iff, beq_eq_false_iff_ne]
        omega
      · rw [List.mem_singleton] at hm
        subst hm
        have k10 : k 0 10 = o := by rw [FM.at 0 10 rfl]; exact w10
        have k11 : k 0 11 = c := by rw [FM.at 0 11 rfl]; exact w11
        have b1 := BO.2.2.1
        have b2 := BO.2.2.2
        refine Or.inr ⟨e59, ?_, ?_, ?_, ?_⟩
        · rw [e6.1, k10, eo]
        · rw [e6.2, k11, ec]
        · rw [k10]; constructor <;> omega
        · rw [k11]; constructor <;> omega
  · have FGK : FL ((21, -1) :: (10, 12) :: (0, 10) :: (0, 11) :: (97, 59) :: (97, 60) :: (97, 61) :: (99, -1) :: LMk) g k := ((f2.mono rfl).trans (fG.mono rfl)).trans (FM.mono rfl)
    have t := tr
    have tdg : td (stk 3 g) = td (stk 3 h) := td_eq (fx.c 23 rfl) (fx.c 24 rfl) (fx.c 25 rfl) (fx.c 26 rfl) (fx.at 3 5 rfl) (fx.at 3 3 rfl) (fx.at 4 3 rfl)
    unfold trI at t ⊢
    rw [tdg] at t
    rw [FGK.c 40 rfl, td']
    exact ⟨t.1, fun z => ⟨(t.2 z).1.fl FGK rfl, (t.2 z).2.fl FGK rfl⟩⟩
end OP18
