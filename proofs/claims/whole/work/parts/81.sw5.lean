/-! swaps: the call -/
section SW5
variable {l : Launch} {D : Nat} {ζ : ZP} {h : HI} {Q : Int → HI → Prop} {QV : HI → Prop} {x : Int}
theorem op_swaps (i : Inv ζ h) (rx : rg x) : Op l (D + 60) ζ mX11_swaps mX12_swaps [aI x] h := by
  have hn := ζok_n i.1.1
  have tp : tpI h := i.1.2 0
  have sr : SR (stk 3 h) (h 99) (h 101) := i.1.2 2
  have ok := sr.2.2.1.2.1
  have c60 : h 3 3 ≤ 60 := sr.2.1.1.2.1
  have t1 := tp.1
  have t2 := tp.2.1
  obtain ⟨n, en⟩ : ∃ n : Nat, h 1 1 = n := ⟨(h 1 1).toNat, by omega⟩
  have en' : (h 1 1).toNat = n := by omega
  -- refusals
  have refuse : ∀ (g : HI), FL LPk h g → g 1 1 = 0 → trI g → ¬ ((2 ≤ h 1 1 ∧ h 1 1 ≤ 40) ∧ pk (stk 3 h) (tl h) 0 n ∧ (1 ≤ x ∧ x ≤ h 1 1 ∧ h 1 1 % x = 0)) → RtI l (D + 60) mX12_swaps (zz ζ) [aP 97, aI x] g (fun r2 h2 => rg (-1) ∧ rg r2 ∧ -1 = r2 ∧ h2 1000003 = h 1000003 ∧ h2 1000004 = h 1000004 ∧ Inv ζ h2) := by
    intro g fx e11 tr no
    have fin : ∀ k, FL LMk g k → k 97 2 = 0 → rg (-1) ∧ rg (-1) ∧ (-1 : Int) = -1 ∧ k 1000003 = h 1000003 ∧ k 1000004 = h 1000004 ∧ Inv ζ k := by
      intro k fk e2
      have F : FL (LPk ++ LMk) h k := (fx.mono rfl).trans (fk.mono rfl)
      exact op_fin2 i rfl (by decide) F [0] rfl (new1 (tp0 tp F (by rw [fk.at 1 1 rfl]; exact e11) e2 rfl)) (tr.fl fk rfl)
    refine e_X12_swaps hn (s_told i fx rfl (by decide) (by decide) (fun c0 pp k fk e2 e43 tm e114 => ?_) (fun _ k fk e2 => ⟨by decide, iteP rfl (fin k fk e2)⟩))
    rw [en'] at pp
    refine ⟨by decide, iteN (by decide) ⟨rx, iteI (fun _ => fin k fk e2) (fun y1 => ?_)⟩⟩
    rw [e43]
    have e : (h 1 1).tmod x = h 1 1 % x := Int.tmod_eq_emod_of_nonneg (by omega)
    have b0 := Int.emod_nonneg (h 1 1) (show x ≠ 0 by omega)
    have b1 := Int.emod_lt_of_pos (h 1 1) (show 0 < x by omega)
    rw [e]
    refine ⟨by constructor <;> omega, iteI (fun _ => fin k fk e2) (fun y2 => ⟨by omega, by constructor <;> omega, iteI (fun y3 => absurd ⟨c0, pp, by omega, by omega, y3⟩ no) (fun _ => fin k fk e2)⟩)⟩
  refine e_X11_swaps hn (s_pick i (Or.inl rfl) (by decide) (by decide) (fun c0 pk0 g fx e11 tr tx e51 => ?_) (fun no g fx e11 tr => ?_))
  rotate_left
  · refine s_divides hn rx (by decide) ?_
    rw [if_neg (by omega)]
    exact ⟨by decide, iteN (by decide) ⟨fx.c _ rfl, fx.c _ rfl, refuse g fx e11 tr (fun q => no ⟨q.1, by rw [en']; exact q.2.1⟩)⟩⟩
  rw [en'] at pk0
  refine s_divides hn rx (by constructor <;> omega) ?_
  by_cases y1 : 1 ≤ x ∧ x ≤ h 1 1 ∧ h 1 1 % x = 0
  rotate_left
  · rw [if_neg y1]
    exact ⟨by decide, iteN (by decide) ⟨fx.c _ rfl, fx.c _ rfl, refuse g fx e11 tr (fun q => y1 q.2.2)⟩⟩
  rw [if_pos y1]
  rw [en] at e51 c0 y1 ⊢
  obtain ⟨s, es⟩ : ∃ s : Nat, x = s := ⟨x.toNat, by omega⟩
  subst es
  have s1 : 1 ≤ s := by omega
  have s40 : s ≤ 40 := by omega
  have n40 : n ≤ 40 := by omega
  have vals : ∀ j : Int, 0 ≤ j → j < n → (0 ≤ tl h j ∧ tl h j < h 3 3) ∧ tN (stk 3 h) (tl h j) ≠ 0 ∧ 0 ≤ tH (stk 3 h) (tl h j) ∧ tH (stk 3 h) (tl h j) ≤ 6000 := by
    intro j j0 j1
    have pj := pk0 j.toNat (by omega)
    unfold pk1 at pj
    rw [show ((j.toNat : Nat) : Int) = j by omega] at pj
    have b := tv_bd ok (tl h j)
    exact ⟨pj.1, by omega, b.2.1.1, b.2.1.2.1⟩
  generalize hkey : (fun j : Int => tH (stk 3 h) (tl h j)) = key
  have kv : ∀ j, tH (stk 3 h) (tl h j) = key j := fun j => by rw [← hkey]
  have kb : ∀ q : Int, 0 ≤ q → q < n → 0 ≤ key q ∧ key q ≤ 6000 := fun q q0 q1 => by rw [← kv]; exact (vals q q0 q1).2.2
  refine ⟨by decide, iteP (by decide) (e_X6_start hn ?_)⟩
  -- the class's holds
  have xl : ∀ (m k : Nat) (g' : HI), k + m = n → FL [(65, 0), (65, 6), (65, 7), (66, -1)] g g' → g' 65 0 = n → g' 65 7 = s → g' 65 6 = 0 → (∀ j : Int, 0 ≤ j → j < k → g' 66 j = key j) → G l (D + 60) 0 0 mX11_swaps (zz ζ) 30 [aP 0, aU, aI n, aI k] [] g' (qI (zz ζ) (fun r1 h1 => h1 1000003 = h 1000003 ∧ h1 1000004 = h 1000004 ∧ RtI l (D + 60) mX12_swaps (zz ζ) [aP 97, aI s] h1 (fun r2 h2 => rg r1 ∧ rg r2 ∧ r1 = r2 ∧ h2 1000003 = h 1000003 ∧ h2 1000004 = h 1000004 ∧ Inv ζ h2))) := by
    intro m
    induction m with
    | succ m ih =>
      intro k g' hk f' a0 a7 a6 a66
      have vk := vals k (by omega) (by omega)
      have g51 : g' 51 k = tl h k := by rw [f'.c 51 rfl]; exact e51 k (by omega) (by omega)
      have g44 : g' 44 (tl h k) = key k := by rw [f'.c 44 rfl, (tx (tl h k) vk.1.1 (by omega)).2.1, kv]
      refine b_X11_swaps_30 hn ⟨by constructor <;> omega, by constructor <;> omega, iteN (by omega) ⟨⟨by omega, by omega⟩, ?_⟩⟩
      rw [g51, g44]
      have kk := ih (k + 1) (hu g' 66 k (key k)) (by omega) (f'.ua rfl) (by rw [hu_c _ _ _ (by decide)]; exact a0) (by rw [hu_c _ _ _ (by decide)]; exact a7) (by rw [hu_c _ _ _ (by decide)]; exact a6) (fun j j0 j1 => by
        by_cases e : j = k
        · rw [e, hu_s]
        · rw [hu_j _ _ _ e]; exact a66 j j0 (by omega))
      rw [show ((k + 1 : Nat) : Int) = (k : Int) + 1 by omega] at kk
      exact ⟨⟨vk.1.1, by omega⟩, ⟨by omega, by omega⟩, kk⟩
    | zero =>
      intro k g' hk f' a0 a7 a6 a66
      have : k = n := by omega
      subst this
      refine b_X11_swaps_30 hn ⟨by constructor <;> omega, by constructor <;> omega, iteP (by omega) (s_xfind hn a7 a0 a6 s1 s40 n40 (key := key) (fun q q0 q1 => ⟨a66 q q0 q1, kb q q0 q1⟩) (fun GX kx st fX EX AX KX w3 w4 w5 w6 => ?_))⟩
      have FX : FL ((65, -1) :: (66, -1) :: (67, -1) :: (68, -1) :: (69, -1) :: LPk) h GX := ((fx.mono rfl).trans (f'.mono rfl)).trans (fX.mono rfl)
      have mbx := mn_bd (f := fun r : Nat => st.2 r) (K := -(240000 + 6000 * kx)) (L := 240000 + 6000 * kx) (n := s) (fun r hr => KX.2 r (by omega) (by omega))
      have kx5 := EX.1
      have mw : -(240000 + 6000 * (kx : Int)) ≤ mnI st.2 s ∧ mnI st.2 s ≤ 240000 + 6000 * kx := mbx.1
      have mx : -(240000 + 6000 * (kx : Int)) ≤ mxI st.2 s ∧ mxI st.2 s ≤ 240000 + 6000 * kx := mbx.2.1
      rw [w3]
      refine ⟨FX.c _ rfl, FX.c _ rfl, e_X12_swaps hn (s_told i FX rfl (by decide) (by decide) (fun _ _ kM fk e2 e43 tm e114 => ?_) (fun no => absurd ⟨by rw [en]; exact c0, by rw [en']; exact pk0⟩ no))⟩
      rw [en] at e43 e114
      have e : (k : Int).tmod s = (k : Int) % s := Int.tmod_eq_emod_of_nonneg (by omega)
      rw [e43, e, y1.2.2]
      refine ⟨by decide, iteN (by decide) ⟨rx, iteN (by omega) ⟨by constructor <;> omega, iteN (by omega) ⟨by omega, by decide, iteP rfl (s_msort hn (n := k) (by omega) e43 (t := tl h) (V := key) (fun j j0 j1 => ?_) (fun k1 f1 e123 => ?_))⟩⟩⟩⟩
      · have v := vals j j0 j1
        have t' := tm (tl h j) v.1.1 v.1.2
        rw [if_neg v.2.1] at t'
        exact ⟨e114 j j0 j1, ⟨v.1.1, by omega⟩, by rw [t'.2.1, kv], by have := kb j j0 j1; constructor <;> omega⟩
      have mk : ∀ k2, FL ((97, 53) :: (97, 54) :: (97, 55) :: (97, 56) :: (115, -1) :: (118, -1) :: (122, -1) :: []) k1 k2 → k2 97 43 = k ∧ (∀ q : Int, 0 ≤ q → q < k → (0 ≤ k2 114 q ∧ k2 114 q < 60) ∧ k2 106 (k2 114 q) = key q ∧ 0 ≤ key q ∧ key q ≤ 6000) ∧ (∀ j : Int, 0 ≤ j → j < k → k2 123 j = sI key (fun _ => 0) k j) := by
        intro k2 f2
        refine ⟨by rw [f2.at 97 43 rfl, f1.at 97 43 rfl]; exact e43, fun q q0 q1 => ?_, fun j j0 j1 => ?_⟩
        · have v := vals q q0 q1
          have t' := tm (tl h q) v.1.1 v.1.2
          rw [if_neg v.2.1] at t'
          rw [f2.c 114 rfl, f1.c 114 rfl, e114 q q0 q1, f2.c 106 rfl, f1.c 106 rfl, t'.2.1, kv]
          exact ⟨⟨v.1.1, by omega⟩, rfl, kb q q0 q1⟩
        · rw [f2.c 123 rfl, e123]; exact sI_congr j j0 j1
      have σb : ∀ q : Int, 0 ≤ q → q < k → 0 ≤ sI key (fun _ => 0) k q ∧ sI key (fun _ => 0) k q < k := fun q q0 q1 => sI_bd q q0 q1
      have db := dlS_bd (key := key) (s := s) (σ := sI key (fun _ => 0) k) s1 kb σb (k := k) (Nat.le_refl _)
      have smk := sm_bd (f := fun q : Nat => key q) (K := 0) (L := 6000) (n := k) (fun q hq2 => kb q (by omega) (by omega))
      have ssum : sm (fun q => key (sI key (fun _ => 0) k q)) k = sm (fun q => key q) k := sI_sum
      -- the end: copies
      have m215 : ∀ (m j : Nat) (k2 : HI), j + m = k → FL ((97, 53) :: (97, 54) :: (97, 55) :: (97, 56) :: (115, -1) :: (118, -1) :: (122, -1) :: []) k1 k2 → swA s k st (k2 115) (k2 118) → k2 97 55 = kx → k2 97 53 = k → (∀ q : Int, 0 ≤ q → q < j → k2 122 q = st.1 q) → G l (D + 60) 0 0 mX12_swaps (zz ζ) 215 [aP 97, aI s, aI (sm (fun q => key q) k), aI j, aU] [] k2 (qI (zz ζ) (fun r2 h2 => rg (mnI st.2 s) ∧ rg r2 ∧ mnI st.2 s = r2 ∧ h2 1000003 = h 1000003 ∧ h2 1000004 = h 1000004 ∧ Inv ζ h2)) := by
        intro m
        induction m with
        | succ m ih =>
          intro j k2 hj f2 a2 a55 a53 a122
          have mk2 := mk k2 f2
          refine b_X12_swaps_215 hn ⟨by constructor <;> omega, by rw [mk2.1]; constructor <;> omega, iteN (by rw [mk2.1]; omega) ⟨⟨by omega, by omega⟩, ⟨by omega, by omega⟩, ?_⟩⟩
          rw [a2.1 j (by omega) (by omega)]
          have kk := ih (j + 1) (hu k2 122 j (st.1 j)) (by omega) (f2.ua rfl) (by rw [hu_c _ _ _ (by decide), hu_c _ _ _ (by decide)]; exact a2) (by rw [hu_c _ _ _ (by decide)]; exact a55) (by rw [hu_c _ _ _ (by decide)]; exact a53) (fun q q0 q1 => by
            by_cases e : q = j
            · rw [e, hu_s]
            · rw [hu_j _ _ _ e]; exact a122 q q0 (by omega))
          rw [show ((j + 1 : Nat) : Int) = (j : Int) + 1 by omega] at kk
          exact kk
        | zero =>
          intro j k2 hj f2 a2 a55 a53 a122
          have : j = k := by omega
          subst this
          have mk2 := mk k2 f2
          have frg : ∀ (k3 : HI), k3 118 = k2 118 → ∀ r : Nat, r < s → k3 118 r = st.2 r ∧ rg (st.2 r) := fun k3 e3 r hr => ⟨by rw [e3]; exact a2.2 r (by omega) (by omega), by have := KX.2 r (by omega) (by omega); constructor <;> omega⟩
          refine b_X12_swaps_215 hn ⟨by constructor <;> omega, by rw [mk2.1]; constructor <;> omega, iteP (by rw [mk2.1]; omega) ⟨by constructor <;> omega, rx, by omega, ?_⟩⟩
          refine s_strongOf hn s1 (by omega) (f := fun r : Nat => st.2 r) (frg _ (hu_c _ _ _ (by decide))) (s_weakOf hn s1 (by omega) (f := fun r : Nat => st.2 r) (frg _ (hu_c _ _ _ (by decide))) (s_weakOf hn s1 (by omega) (f := fun r : Nat => st.2 r) (frg _ (by rw [hu_c _ _ _ (by decide), hu_c _ _ _ (by decide)])) ?_))
          have ew : mnF (fun r : Nat => st.2 r) s = mnI st.2 s := rfl
          have ex : mxF (fun r : Nat => st.2 r) s = mxI st.2 s := rfl
          rw [ew, ex]
          generalize hK : hu (hu k2 97 54 ((sm (fun q => key q) j).tdiv s)) 97 56 (mxI st.2 s - mnI st.2 s) = KK
          have fK : FL [(97, 54), (97, 56)] k2 KK := by subst hK; exact (FL.refl.u rfl).u rfl
          have v54 : KK 97 54 = (sm (fun q => key q) j).tdiv s := by subst hK; rw [hu_j _ _ _ (by decide), hu_s]
          have v56 : KK 97 56 = mxI st.2 s - mnI st.2 s := by subst hK; rw [hu_s]
          have FM : FL ((123, -1) :: (97, 53) :: (97, 54) :: (97, 55) :: (97, 56) :: (115, -1) :: (118, -1) :: (122, -1) :: LMk) GX KK := (((fk.mono rfl).trans (f1.mono rfl)).trans (f2.mono rfl)).trans (fK.mono rfl)
          have FF : FL ((65, -1) :: (66, -1) :: (67, -1) :: (68, -1) :: (69, -1) :: (123, -1) :: (97, 53) :: (97, 54) :: (97, 55) :: (97, 56) :: (115, -1) :: (118, -1) :: (122, -1) :: (LPk ++ LMk)) h KK := (FX.mono rfl).trans (FM.mono rfl)
          have FGK : FL ((65, -1) :: (66, -1) :: (67, -1) :: (68, -1) :: (69, -1) :: (123, -1) :: (97, 53) :: (97, 54) :: (97, 55) :: (97, 56) :: (115, -1) :: (118, -1) :: (122, -1) :: LMk) g KK := ((f'.mono rfl).trans (fX.mono rfl)).trans (FM.mono rfl)
          refine op_fin2 i rfl (by constructor <;> omega) FF [0, 4] rfl ?_ (tr.fl FGK rfl)
          intro y hm
          rcases List.mem_cons.mp hm with e | hm
          · subst e
            refine tp0 tp FF ?_ ?_ rfl
            · rw [FGK.at 1 1 rfl]; exact e11
            · rw [fK.at 97 2 rfl, f2.at 97 2 rfl, f1.at 97 2 rfl]; exact e2
          · rw [List.mem_singleton] at hm
            subst hm
            have z0 : KK 65 0 = j := by rw [FM.at 65 0 rfl, fX.at 65 0 rfl]; exact a0
            have z3 : KK 65 3 = mnI st.2 s := by rw [FM.at 65 3 rfl]; exact w3
            have z4 : KK 65 4 = mxI st.2 s := by rw [FM.at 65 4 rfl]; exact w4
            have z5 : KK 65 5 = (sm (fun q => key q) j).tdiv s := by rw [FM.at 65 5 rfl]; exact w5
            have z6 : KK 65 6 = kx := by rw [FM.at 65 6 rfl]; exact w6
            have td0 := Int.tdiv_nonneg (a := sm (fun q => key q) j) (b := (s : Int)) (by omega) (by omega)
            have td1 := Int.tdiv_le_self (a := sm (fun q => key q) j) (s : Int) (by omega)
            refine ⟨by omega, by omega, by rw [z0, fK.at 97 53 rfl]; exact a53, fun q q0 q1 => ?_, fun _ => ⟨?_, ?_, ?_, ?_, ?_, ?_⟩⟩
            · rw [z0] at q1
              rw [fK.c 122 rfl, a122 q q0 q1, FM.c 67 rfl, AX.1 q q0 q1]
              have := KX.1 q q0 q1
              exact ⟨rfl, by constructor <;> omega⟩
            · rw [v54, z5]
            · rw [fK.at 97 55 rfl, a55, z6]
            · rw [v56, z4, z3]
            · rw [z5]; constructor <;> omega
            · rw [z6]; constructor <;> omega
            · rw [z4, z3]; constructor <;> omega
      -- the swaps
      have m174 : ∀ (m q : Nat) (sq : SW) (k2 : HI), q + m = 500 → FL ((97, 53) :: (97, 54) :: (97, 55) :: (97, 56) :: (115, -1) :: (118, -1) :: (122, -1) :: []) k1 k2 → swN key s k q (dlS key s (sI key (fun _ => 0) k) k) sq → swA s k sq (k2 115) (k2 118) → swK s k (240000 + 6000 * q) sq → k2 97 55 = q → G l (D + 60) 0 0 mX12_swaps (zz ζ) 174 [aP 97, aI s, aI (sm (fun q => key q) k), aU, aU] [] k2 (qI (zz ζ) (fun r2 h2 => rg (mnI st.2 s) ∧ rg r2 ∧ mnI st.2 s = r2 ∧ h2 1000003 = h 1000003 ∧ h2 1000004 = h 1000004 ∧ Inv ζ h2)) := by
        have fin : ∀ (q : Nat) (sq : SW) (k2 : HI), q ≤ 500 → FL ((97, 53) :: (97, 54) :: (97, 55) :: (97, 56) :: (115, -1) :: (118, -1) :: (122, -1) :: []) k1 k2 → swN key s k q (dlS key s (sI key (fun _ => 0) k) k) sq → swA s k sq (k2 115) (k2 118) → k2 97 55 = q → (q < 500 → ∀ a b : Nat, ¬ swP key s k sq a b) → G l (D + 60) 0 0 mX12_swaps (zz ζ) 215 [aP 97, aI s, aI (sm (fun q => key q) k), aI 0, aU] [] (hu k2 97 53 (k2 97 43)) (qI (zz ζ) (fun r2 h2 => rg (mnI st.2 s) ∧ rg r2 ∧ mnI st.2 s = r2 ∧ h2 1000003 = h 1000003 ∧ h2 1000004 = h 1000004 ∧ Inv ζ h2)) := by
          intro q sq k2 hq f2 w1 a2 a55 wn
          have eq := swE_uniq w1 EX.2.1 (fun y => wn (by omega)) (fun y => EX.2.2 (by omega))
          obtain ⟨rfl, rfl⟩ := eq
          rw [(mk k2 f2).1]
          exact m215 k 0 (hu k2 97 53 k) (by omega) (f2.u rfl) (by rw [hu_c _ _ _ (by decide), hu_c _ _ _ (by decide)]; exact a2) (by rw [hu_j _ _ _ (by decide)]; exact a55) (hu_s _ _ _ _) (fun y y0 y1 => by omega)
        intro m
        induction m with
        | zero =>
          intro q sq k2 hq f2 w1 a2 K2 a55
          exact b_X12_swaps_174 hn ⟨by rw [a55]; constructor <;> omega, iteP (by rw [a55]; omega) (fin q sq k2 (by omega) f2 w1 a2 a55 (fun y => absurd y (by omega)))⟩
        | succ m ih =>
          intro q sq k2 hq f2 w1 a2 K2 a55
          have mk2 := mk k2 f2
          refine b_X12_swaps_174 hn ⟨by rw [a55]; constructor <;> omega, iteN (by rw [a55]; omega) (s_mswapOne hn mk2.1 s1 s40 n40 (K := 240000 + 6000 * q) ⟨by omega, by omega⟩ K2 a2 mk2.2.1 (fun a b hp k3 f3 a3 => ?_) (fun no k3 f3 a3 => ?_))⟩
          · have e55 : k3 97 55 = q := by rw [f3.at 97 55 rfl]; exact a55
            have KX2 := swK_X (key := key) K2 (i := (a : Int)) (j := (b : Int)) ⟨by omega, by have := hp.1; have := hp.2.1; omega⟩ ⟨by omega, by have := hp.2.1; omega⟩ kb hp.2.2.1.1
            rw [e55]
            refine ⟨by decide, iteN (by decide) (ih (q + 1) (swX key sq a b) _ (by omega) ((f2.trans (f3.mono rfl)).u rfl) (swN_snoc w1 hp) ?_ ⟨KX2.1, fun r r0 r1 => ?_⟩ ?_)⟩
            · rw [hu_c _ _ _ (by decide), hu_c _ _ _ (by decide)]; exact a3
            · have := KX2.2 r r0 r1; omega
            · rw [hu_s]; omega
          · exact ⟨by decide, iteP rfl (fin q sq k3 (by omega) (f2.trans (f3.mono rfl)) w1 a3 (by rw [f3.at 97 55 rfl]; exact a55) (fun _ => no))⟩
      -- the deal
      have m74 : ∀ (m q : Nat) (k2 : HI), q + m = k → FL ((97, 53) :: (97, 54) :: (97, 55) :: (97, 56) :: (115, -1) :: (118, -1) :: (122, -1) :: []) k1 k2 → dlA key s (sI key (fun _ => 0) k) q (k2 115) (k2 118) → G l (D + 60) 0 0 mX12_swaps (zz ζ) 74 [aP 97, aI s, aI (sm (fun q => key (sI key (fun _ => 0) k q)) q), aI q, aU] [] k2 (qI (zz ζ) (fun r2 h2 => rg (mnI st.2 s) ∧ rg r2 ∧ mnI st.2 s = r2 ∧ h2 1000003 = h 1000003 ∧ h2 1000004 = h 1000004 ∧ Inv ζ h2)) := by
        intro m
        induction m with
        | zero =>
          intro q k2 hq f2 dA
          have : q = k := by omega
          subst this
          have mk2 := mk k2 f2
          rw [ssum]
          refine b_X12_swaps_74 hn ⟨by constructor <;> omega, by rw [mk2.1]; constructor <;> omega, iteP (by rw [mk2.1]; omega) ?_⟩
          refine m174 500 0 (dlS key s (sI key (fun _ => 0) q) q) (hu k2 97 55 0) (by omega) (f2.u rfl) rfl ⟨fun j j0 j1 => ?_, fun r r0 r1 => ?_⟩ ⟨fun j _ _ => db.1 j, fun r _ _ => by have := db.2 r; omega⟩ (hu_s _ _ _ _)
          · rw [hu_c _ _ _ (by decide)]
            obtain ⟨y, y0, y1', y2⟩ := sI_sur (key := key) (a := fun _ => 0) (n := q) j j0 j1
            have := dA.1 y.toNat (by omega)
            rw [show ((y.toNat : Nat) : Int) = y by omega, y2] at this
            exact this
          · rw [hu_c _ _ _ (by decide)]; exact dA.2 r r0 r1
        | succ m ih =>
          intro q k2 hq f2 dA
          have mk2 := mk k2 f2
          have td := dl_tdiv (k := q) s1
          have rb := dlR_bd (s := s) (k := q) s1
          have dle : q / s ≤ q := Nat.div_le_self q s
          have dge : (0 : Int) ≤ ((q / s : Nat) : Int) := Int.natCast_nonneg _
          have ml : q % s < s := Nat.mod_lt _ (by omega)
          have m2 : q / s % 2 < 2 := Nat.mod_lt _ (by decide)
          have sk := σb q (by omega) (by omega)
          have ks := mk2.2.1 _ sk.1 sk.2
          have nxt : ∀ s0, s0 = dlR s q → G l (D + 60) 0 0 mX12_swaps (zz ζ) 103 [aP 97, aI s, aI (sm (fun q => key (sI key (fun _ => 0) k q)) q), aI q, aU] [aI s0] k2 (qI (zz ζ) (fun r2 h2 => rg (mnI st.2 s) ∧ rg r2 ∧ mnI st.2 s = r2 ∧ h2 1000003 = h 1000003 ∧ h2 1000004 = h 1000004 ∧ Inv ζ h2)) := by
            intro s0 e0
            subst e0
            refine b_X12_swaps_103 hn ⟨⟨by omega, by omega⟩, ?_⟩
            rw [mk2.2.2 q (by omega) (by omega), ks.2.1]
            refine ⟨⟨sk.1, by omega⟩, ⟨rb.1, by omega⟩, ks.1, ?_⟩
            have kk := ih (q + 1) (hu (hu k2 115 (sI key (fun _ => 0) k q) (dlR s q)) 118 (dlR s q) (k2 118 (dlR s q) + key (sI key (fun _ => 0) k q))) (by omega) ((f2.ua rfl).ua rfl) (by
              have := dlA_step dA s1
              rw [hu_c (hu k2 115 _ _) (k := 118) (a := 115) _ _ (by decide), hu_fu, hu_fu, hu_c _ _ _ (by decide)]
              exact this)
            rw [show ((q + 1 : Nat) : Int) = (q : Int) + 1 by omega] at kk
            exact kk
          refine b_X12_swaps_74 hn ⟨by constructor <;> omega, by rw [mk2.1]; constructor <;> omega, iteN (by rw [mk2.1]; omega) ⟨rx, by omega, ?_⟩⟩
          rw [td.1, td.2, dl_even]
          refine ⟨by constructor <;> omega, by constructor <;> omega, iteI (fun y => nxt _ ?_) (fun y => nxt _ ?_)⟩
          · unfold dlR; rw [if_neg (by omega)]
          · unfold dlR; rw [if_pos (by omega)]
      have m52 : ∀ (m r : Nat) (k2 : HI), r + m = s → FL ((97, 53) :: (97, 54) :: (97, 55) :: (97, 56) :: (115, -1) :: (118, -1) :: (122, -1) :: []) k1 k2 → (∀ q : Int, 0 ≤ q → q < r → k2 118 q = 0) → G l (D + 60) 0 0 mX12_swaps (zz ζ) 52 [aP 97, aI s, aI r, aU, aU] [] k2 (qI (zz ζ) (fun r2 h2 => rg (mnI st.2 s) ∧ rg r2 ∧ mnI st.2 s = r2 ∧ h2 1000003 = h 1000003 ∧ h2 1000004 = h 1000004 ∧ Inv ζ h2)) := by
        intro m
        induction m with
        | zero =>
          intro r k2 hr f2 z
          exact b_X12_swaps_52 hn ⟨by constructor <;> omega, rx, iteP (by omega) (m74 k 0 k2 (by omega) f2 ⟨fun q hq2 => absurd hq2 (by omega), fun q q0 q1 => z q q0 (by omega)⟩)⟩
        | succ m ih =>
          intro r k2 hr f2 z
          refine b_X12_swaps_52 hn ⟨by constructor <;> omega, rx, iteN (by omega) ⟨⟨by omega, by omega⟩, ?_⟩⟩
          have kk := ih (r + 1) (hu k2 118 r 0) (by omega) (f2.ua rfl) (fun q q0 q1 => by
            by_cases e : q = r
            · rw [e, hu_s]
            · rw [hu_j _ _ _ e]; exact z q q0 (by omega))
          rw [show ((r + 1 : Nat) : Int) = (r : Int) + 1 by omega] at kk
          exact kk
      exact m52 s 0 k1 (by omega) FL.refl (fun q q0 q1 => by omega)
  refine xl n 0 _ (by omega) (((FL.refl.u rfl).u rfl).u rfl) ?_ ?_ ?_ (fun j j0 j1 => by omega)
  · rw [hu_j _ _ _ (by decide), hu_j _ _ _ (by decide), hu_s]
  · rw [hu_j _ _ _ (by decide), hu_s]
  · rw [hu_s]
end SW5
