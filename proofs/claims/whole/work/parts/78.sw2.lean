/-! swaps: the class -/
def swE (key : Int → Int) (s n : Nat) (k : Nat) (st0 st : SW) : Prop := k ≤ 500 ∧ swN key s n k st0 st ∧ (k < 500 → ∀ i j : Nat, ¬ swP key s n st i j)
theorem swE_uniq {key : Int → Int} {s n : Nat} : ∀ {k k' : Nat} {st0 st st' : SW}, swN key s n k st0 st → swN key s n k' st0 st' → (k < k' → ∀ i j : Nat, ¬ swP key s n st i j) → (k' < k → ∀ i j : Nat, ¬ swP key s n st' i j) → k = k' ∧ st = st'
  | 0, 0, st0, st, st', h1, h2, _, _ => ⟨rfl, h1.symm.trans h2⟩
  | 0, k' + 1, st0, st, st', h1, h2, e, _ => by
    obtain ⟨i, j, hp, _⟩ := h2
    rw [show st0 = st from h1] at hp
    exact absurd hp (e (by omega) i j)
  | k + 1, 0, st0, st, st', h1, h2, _, e => by
    obtain ⟨i, j, hp, _⟩ := h1
    rw [show st0 = st' from h2] at hp
    exact absurd hp (e (by omega) i j)
  | k + 1, k' + 1, st0, st, st', h1, h2, e, e' => by
    obtain ⟨i, j, hp, hr⟩ := h1
    obtain ⟨i', j', hp', hr'⟩ := h2
    obtain ⟨rfl, rfl⟩ := swP_uniq hp hp'
    have := swE_uniq hr hr' (fun q => e (by omega)) (fun q => e' (by omega))
    exact ⟨by omega, this.2⟩
theorem swN_snoc {key : Int → Int} {s n : Nat} : ∀ {k : Nat} {st0 st : SW} {i j : Nat}, swN key s n k st0 st → swP key s n st i j → swN key s n (k + 1) st0 (swX key st i j)
  | 0, st0, st, i, j, h, hp => ⟨i, j, by rw [show st0 = st from h]; exact hp, by rw [show st0 = st from h]; rfl⟩
  | k + 1, st0, st, i, j, h, hp => by
    obtain ⟨a, b, h1, h2⟩ := h
    exact ⟨a, b, h1, swN_snoc h2 hp⟩
section SW2
variable {l : Launch} {D : Nat} {ζ : ZP} {h : HI} {Q : Int → HI → Prop} {QV : HI → Prop} {key : Int → Int} {s n : Nat} {st : SW}
theorem s_xmeasure (hn : 144 ≤ ζ.2.2.2.2) (hs : h 65 7 = s) (s1 : 1 ≤ s) (s40 : s ≤ 40) {f : Int → Int} {K : Int} (K1 : K ≤ 4000000) (hf : ∀ r : Int, 0 ≤ r → r < s → h 68 r = f r ∧ -K ≤ f r ∧ f r ≤ K) (hq : ∀ h', FL [(65, 3), (65, 4)] h h' → h' 65 3 = mnI f s → h' 65 4 = mxI f s → QV h') : RtV l (D + 1) mX6_measure (zz ζ) [aP 65] h QV := by
  have mb := fun k (hk : k ≤ s) => mn_bd (f := fun r : Nat => f r) (K := -K) (L := K) (n := k) (fun r hr => (hf r (by omega) (by omega)).2)
  have f0 := hf 0 (by omega) (by omega)
  refine e_X6_measure hn ?_
  have main : ∀ (m k : Nat) (g : HI), k + m = s → 1 ≤ k → FL [(65, 3), (65, 4)] h g → g 65 3 = mnF (fun r : Nat => f r) k → g 65 4 = mxF (fun r : Nat => f r) k → G l (D + 1) 0 0 mX6_measure (zz ζ) 22 [aP 65, aI k] [] g (qV (zz ζ) QV) := by
    intro m
    induction m with
    | zero =>
      intro k g hk k1 fl e3 e4
      have : k = s := by omega
      subst this
      have g7 : g 65 7 = k := by rw [fl.at 65 7 rfl]; exact hs
      exact b_X6_measure_22 hn ⟨by constructor <;> omega, by rw [g7]; constructor <;> omega, iteP (by rw [g7]; omega) (hq g fl e3 e4)⟩
    | succ m ih =>
      intro k g hk k1 fl e3 e4
      have g7 : g 65 7 = s := by rw [fl.at 65 7 rfl]; exact hs
      have mk := mb k (by omega)
      have fk := hf k (by omega) (by omega)
      have g68 : g 68 k = f k := by rw [fl.c 68 rfl]; exact fk.1
      refine b_X6_measure_22 hn ⟨by constructor <;> omega, by rw [g7]; constructor <;> omega, iteN (by rw [g7]; omega) ⟨⟨by omega, by omega⟩, ?_⟩⟩
      rw [g68, e3, e4]
      refine ⟨by constructor <;> omega, by constructor <;> omega, by constructor <;> omega, ?_⟩
      have kk := ih (k + 1) (hu (hu g 65 3 (min (mnF (fun r : Nat => f r) k) (f k))) 65 4 (max (mxF (fun r : Nat => f r) k) (f k))) (by omega) (by omega) ((fl.u rfl).u rfl) (by rw [hu_j _ _ _ (by decide), hu_s]; rfl) (by rw [hu_s]; rfl)
      rw [show ((k + 1 : Nat) : Int) = (k : Int) + 1 by omega] at kk
      exact kk
  have e1 := mnF_1 (fun r : Nat => f r)
  rw [f0.1]
  exact main (s - 1) 1 _ (by omega) (by omega) ((FL.refl.u rfl).u rfl) (by rw [hu_j _ _ _ (by decide), hu_s, e1.1]; rfl) (by rw [hu_s, e1.2]; rfl)
theorem s_helps (hn : 144 ≤ ζ.2.2.2.2) (hs : h 65 7 = s) (s40 : s ≤ 40) {K : Int} (K1 : 0 ≤ K ∧ K ≤ 4000000) (hK : swK s n K st) (hA : ∀ r : Int, 0 ≤ r → r < s → h 68 r = st.2 r) (e3 : h 65 3 = mnI st.2 s) (e4 : h 65 4 = mxI st.2 s) (hk : ∀ q : Int, 0 ≤ q → q < n → 0 ≤ key q ∧ key q ≤ 6000) {i j : Int} (hi : 0 ≤ i ∧ i < n) (hj : 0 ≤ j ∧ j < n) (hy : swB key s st i j → Q 1 h) (hz : ¬ swB key s st i j → Q 0 h) : RtI l (D + 1) mX6_helps (zz ζ) [aP 65, aI (st.1 i), aI (st.1 j), aI (key j - key i)] h Q := by
  have ri := hK.1 i hi.1 hi.2
  have rj := hK.1 j hj.1 hj.2
  have ki := hk i hi.1 hi.2
  have kj := hk j hj.1 hj.2
  have s1 : 1 ≤ s := by omega
  have fa := hK.2 _ ri.1 ri.2
  have fb := hK.2 _ rj.1 rj.2
  have mb := mn_bd (f := fun r : Nat => st.2 r) (K := -K) (L := K) (n := s) (fun r hr => hK.2 r (by omega) (by omega))
  have mw : -K ≤ mnI st.2 s ∧ mnI st.2 s ≤ K := mb.1
  have mx : -K ≤ mxI st.2 s ∧ mxI st.2 s ≤ K := mb.2.1
  refine e_X6_helps hn ⟨by constructor <;> omega, by constructor <;> omega, iteI (fun y => hz (fun q => q.1 y)) (fun y => ⟨by constructor <;> omega, iteI (fun y2 => ⟨⟨ri.1, by omega⟩, ⟨rj.1, by omega⟩, ?_⟩) (fun y2 => hz (fun q => ?_))⟩)⟩
  rotate_left
  · have z : key j - key i = 0 := Classical.not_not.mp y2
    have e : swF st.2 (st.1 i) (st.1 j) (key j - key i) = st.2 := by
      rw [z]
      unfold swF
      funext w
      unfold fu
      split
      · rename_i e; rw [e]; omega
      · split
        · rename_i e; rw [e]; omega
        · rfl
    have := q.2
    rw [e] at this
    omega
  rw [hA _ ri.1 ri.2, hA _ rj.1 rj.2, e3]
  obtain ⟨a, ea⟩ : ∃ a : Nat, st.1 i = a := ⟨(st.1 i).toNat, by omega⟩
  obtain ⟨b, eb⟩ : ∃ b : Nat, st.1 j = b := ⟨(st.1 j).toNat, by omega⟩
  unfold swB at hy hz
  rw [ea, eb] at hy hz ⊢
  rw [ea] at ri fa y
  rw [eb] at rj fb y
  have sw := sw_hl (f := st.2) (a := a) (b := b) (d := key j - key i) (n := s) (by omega) (by omega) (by omega)
  have va : swF st.2 a b (key j - key i) a = st.2 a + (key j - key i) := by unfold swF; rw [fu_n _ _ (by omega), fu_s]
  have vb : swF st.2 a b (key j - key i) b = st.2 b - (key j - key i) := by unfold swF; rw [fu_s]
  have le := (mnI_le (f := swF st.2 a b (key j - key i)) (x := mnI (swF st.2 a b (key j - key i)) s) s1).mp (Int.le_refl _)
  have la := le a (by omega)
  have lb := le b (by omega)
  rw [va] at la
  rw [vb] at lb
  refine ⟨by constructor <;> omega, by constructor <;> omega, iteI (fun z => hz (fun q => by omega)) (fun z => ⟨by constructor <;> omega, iteI (fun z2 => ?_) (fun z2 => hz (fun q => by omega))⟩)⟩
  have hb : ∀ k, k ≤ s → (-(K + 6000) ≤ hlF st.2 a b (min (st.2 a + (key j - key i)) (st.2 b - (key j - key i))) k ∧ hlF st.2 a b (min (st.2 a + (key j - key i)) (st.2 b - (key j - key i))) k ≤ K + 6000) ∧ (-(K + 6000) ≤ hhF st.2 a b (max (st.2 a + (key j - key i)) (st.2 b - (key j - key i))) k ∧ hhF st.2 a b (max (st.2 a + (key j - key i)) (st.2 b - (key j - key i))) k ≤ K + 6000) := by
    intro k
    induction k with
    | zero => intro _; show (-(K + 6000) ≤ min _ _ ∧ min _ _ ≤ K + 6000) ∧ (-(K + 6000) ≤ max _ _ ∧ max _ _ ≤ K + 6000); omega
    | succ k ih =>
      intro hk'
      have := ih (by omega)
      have fk := hK.2 k (by omega) (by omega)
      unfold hlF hhF
      split <;> omega
  have main : ∀ (m k : Nat), k + m = s → G l (D + 1) 0 0 mX6_helps (zz ζ) 72 [aP 65, aI a, aI b, aU, aU, aU, aI (hlF st.2 a b (min (st.2 a + (key j - key i)) (st.2 b - (key j - key i))) k), aI (hhF st.2 a b (max (st.2 a + (key j - key i)) (st.2 b - (key j - key i))) k), aI k] [] h (qI (zz ζ) Q) := by
    intro m
    induction m with
    | zero =>
      intro k hk'
      have : k = s := by omega
      subst this
      have hs' := hb k (Nat.le_refl _)
      refine b_X6_helps_72 hn ⟨by constructor <;> omega, by rw [hs]; constructor <;> omega, iteP (by rw [hs]; omega) ⟨by constructor <;> omega, ?_⟩⟩
      rw [e3, e4, ← sw.1, ← sw.2]
      rw [← sw.1, ← sw.2] at hs'
      refine ⟨by constructor <;> omega, iteI (fun w => hy ⟨y, Or.inl w⟩) (fun w => iteI (fun w2 => hz (fun q => by omega)) (fun w2 => ⟨by constructor <;> omega, by constructor <;> omega, iteI (fun w3 => hz (fun q => by omega)) (fun w3 => hy ⟨y, Or.inr ⟨by omega, by omega⟩⟩)⟩))⟩
    | succ m ih =>
      intro k hk'
      have hs' := hb k (by omega)
      have fk := hK.2 k (by omega) (by omega)
      have kk := ih (k + 1) (by omega)
      rw [show ((k + 1 : Nat) : Int) = (k : Int) + 1 by omega] at kk
      unfold hlF hhF at kk
      refine b_X6_helps_72 hn ⟨by constructor <;> omega, by rw [hs]; constructor <;> omega, iteN (by rw [hs]; omega) ⟨by constructor <;> omega, iteI (fun w => ?_) (fun w => ⟨by constructor <;> omega, iteI (fun w2 => ?_) (fun w2 => ⟨⟨by omega, by omega⟩, by constructor <;> omega, ?_⟩)⟩)⟩⟩
      · rw [if_pos (Or.inl w), if_pos (Or.inl w)] at kk; exact kk
      · rw [if_pos (Or.inr w2), if_pos (Or.inr w2)] at kk; exact kk
      · rw [if_neg (fun q => q.elim w w2), if_neg (fun q => q.elim w w2)] at kk
        rw [hA k (by omega) (by omega)]
        exact ⟨by constructor <;> omega, by constructor <;> omega, kk⟩
  exact main s 0 (by omega)
theorem s_exchangeFirst (hn : 144 ≤ ζ.2.2.2.2) (hs : h 65 7 = s) (hN : h 65 0 = n) (s40 : s ≤ 40) (n40 : n ≤ 40) {K : Int} (K1 : 0 ≤ K ∧ K ≤ 4000000) (hK : swK s n K st) (hA : swA s n st (h 67) (h 68)) (e3 : h 65 3 = mnI st.2 s) (e4 : h 65 4 = mxI st.2 s) (hk : ∀ q : Int, 0 ≤ q → q < n → h 66 q = key q ∧ 0 ≤ key q ∧ key q ≤ 6000) (hy : ∀ i j : Nat, swP key s n st i j → ∀ h', FL [(67, -1), (68, -1)] h h' → swA s n (swX key st i j) (h' 67) (h' 68) → Q 1 h') (hz : (∀ i j : Nat, ¬ swP key s n st i j) → Q 0 h) : RtI l (D + 2) mX6_exchangeFirst (zz ζ) [aP 65] h Q := by
  have hk' : ∀ q : Int, 0 ≤ q → q < n → 0 ≤ key q ∧ key q ≤ 6000 := fun q q0 q1 => (hk q q0 q1).2
  refine e_X6_exchangeFirst hn ?_
  have outer : ∀ (m i : Nat), i + m = n → (∀ i' j' : Nat, i' < i → i' < j' → j' < n → ¬ swB key s st i' j') → G l (D + 2) 0 0 mX6_exchangeFirst (zz ζ) 2 [aP 65, aI i, aU] [] h (qI (zz ζ) Q) := by
    intro m
    induction m with
    | zero =>
      intro i hi no
      refine b_X6_exchangeFirst_2 hn ⟨by constructor <;> omega, by rw [hN]; constructor <;> omega, iteP (by rw [hN]; omega) (hz (fun a b q => ?_))⟩
      exact no a b (by have := q.1; have := q.2.1; omega) q.1 q.2.1 q.2.2.1
    | succ m ih =>
      intro i hi no
      refine b_X6_exchangeFirst_2 hn ⟨by constructor <;> omega, by rw [hN]; constructor <;> omega, iteN (by rw [hN]; omega) ?_⟩
      have inner : ∀ (d j : Nat), j + d = n → i < j → (∀ j' : Nat, i < j' → j' < j → ¬ swB key s st i j') → G l (D + 2) 0 0 mX6_exchangeFirst (zz ζ) 14 [aP 65, aI i, aI j] [] h (qI (zz ζ) Q) := by
        intro d
        induction d with
        | zero =>
          intro j hj hij no2
          refine b_X6_exchangeFirst_14 hn ⟨by constructor <;> omega, by rw [hN]; constructor <;> omega, iteP (by rw [hN]; omega) ?_⟩
          have kk := ih (i + 1) (by omega) (fun a b h1 h2 h3 => by
            by_cases e : a = i
            · rw [e]; exact no2 b (by omega) (by omega)
            · exact no a b (by omega) h2 h3)
          rw [show ((i + 1 : Nat) : Int) = (i : Int) + 1 by omega] at kk
          exact kk
        | succ d ihd =>
          intro j hj hij no2
          have ki := hk i (by omega) (by omega)
          have kj := hk j (by omega) (by omega)
          have ai := hA.1 i (by omega) (by omega)
          have aj := hA.1 j (by omega) (by omega)
          have ri := hK.1 i (by omega) (by omega)
          have rj := hK.1 j (by omega) (by omega)
          refine b_X6_exchangeFirst_14 hn ⟨by constructor <;> omega, by rw [hN]; constructor <;> omega, iteN (by rw [hN]; omega) ⟨⟨by omega, by omega⟩, ⟨by omega, by omega⟩, ?_⟩⟩
          rw [ai, aj, ki.1, kj.1]
          refine s_helps hn hs s40 K1 hK hA.2 e3 e4 hk' ⟨by omega, by omega⟩ ⟨by omega, by omega⟩ (fun q => ⟨by decide, iteN (by decide) (e_X6_exchange hn ?_)⟩) (fun q => ⟨by decide, iteP rfl ?_⟩)
          · rw [ai, aj, ki.1, kj.1]
            refine ⟨⟨by omega, by omega⟩, ⟨by omega, by omega⟩, ⟨ri.1, by omega⟩, ⟨rj.1, by omega⟩, ?_⟩
            refine hy i j ⟨hij, by omega, q, no2, no⟩ _ ((((FL.refl.ua rfl).ua rfl).ua rfl).ua rfl) ⟨fun y y0 y1 => ?_, fun r r0 r1 => ?_⟩
            · rw [hu_fu, hu_fu, hu_c _ _ _ (by decide), hu_c _ _ _ (by decide)]
              show _ = fu (fu st.1 i (st.1 j)) j (st.1 i) y
              unfold fu
              rw [hA.1 y y0 y1]
            · rw [hu_c _ _ _ (by decide), hu_c _ _ _ (by decide), hu_fu, hu_fu]
              show _ = fu (fu st.2 (st.1 i) (st.2 (st.1 i) + (key j - key i))) (st.1 j) (st.2 (st.1 j) - (key j - key i)) r
              rw [fu_n (h 68) _ (fun e => q.1 e.symm), hA.2 _ ri.1 ri.2, hA.2 _ rj.1 rj.2, show st.2 (st.1 j) + (key i - key j) = st.2 (st.1 j) - (key j - key i) by omega]
              unfold fu
              rw [hA.2 r r0 r1]
          · have kk := ihd (j + 1) (by omega) (by omega) (fun j' h1 h2 => by
              by_cases e : j' = j
              · rw [e]; exact q
              · exact no2 j' h1 (by omega))
            rw [show ((j + 1 : Nat) : Int) = (j : Int) + 1 by omega] at kk
            exact kk
      have kk := inner (n - (i + 1)) (i + 1) (by omega) (by omega) (fun j' h1 h2 => by omega)
      rw [show ((i + 1 : Nat) : Int) = (i : Int) + 1 by omega] at kk
      exact kk
  exact outer n 0 (by omega) (fun a b h1 => absurd h1 (by omega))
end SW2
