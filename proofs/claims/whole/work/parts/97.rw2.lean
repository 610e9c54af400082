/-! rows: the class's addUp -/
section RW2
variable {l : Launch} {D : Nat} {ζ : ZP} {h : HI} {QV : HI → Prop}

def dnh (v : Int → Int) (n i : Nat) (g : HI) : Prop := ∀ j : Nat, i ≤ j → j < n → ∃ a, risA v j (n - j) a ∧ ∀ k : Nat, k ≤ n - j → g 60 ((j : Int) * 13 + k) = pfA a k ∧ g 61 ((j : Int) * 13 + k) = sfA a (n - j) k
theorem s_addUp_h (hn : 144 ≤ ζ.2.2.2.2) {n : Nat} (n1 : 1 ≤ n) (n12 : n ≤ 12) {v : Int → Int} (h0 : h 52 0 = n) (hv : ∀ j : Nat, j < n → h 54 j = v j ∧ -1000000 ≤ v j ∧ v j ≤ 1000000) (hz : ∀ i : Int, 0 ≤ i → i ≤ 12 → h 60 (i * 13) = 0 ∧ h 61 (i * 13) = 0) (hq : ∀ g, FL [(60, -1), (61, -1), (64, -1)] h g → dnh v n 0 g → (∀ i : Int, 0 ≤ i → i ≤ 12 → g 60 (i * 13) = 0 ∧ g 61 (i * 13) = 0) → QV g) : RtV l (D + 1) mX2_addUp (zz ζ) [aP 52, aP 54, aP 60, aP 61] h QV := by
  refine e_X2_addUp_h hn ?_
  have main : ∀ (i : Nat) (g : HI), i ≤ n → FL [(60, -1), (61, -1), (64, -1)] h g → risA v i (n - i) (g 64) → (∀ j : Nat, j < n - i → rg (g 64 j)) → dnh v n i g → (∀ i : Int, 0 ≤ i → i ≤ 12 → g 60 (i * 13) = 0 ∧ g 61 (i * 13) = 0) → G l (D + 1) 0 0 mX2_addUp (zz ζ) 8 [aP 52, aP 54, aP 60, aP 61, aI ((i : Int) - 1), aU, aU, aU, aU] [] g (qV (zz ζ) QV) := by
    intro i
    induction i with
    | zero =>
      intro g hi f ra rr dn z
      exact b_X2_addUp_h_8 hn ⟨by constructor <;> omega, iteP (by omega) (hq g f dn z)⟩
    | succ i ih =>
      intro g hi f ra rr dn z
      have vi := hv i (by omega)
      obtain ⟨m, em⟩ : ∃ m : Nat, n - (i + 1) = m := ⟨_, rfl⟩
      rw [em] at ra rr
      have e54 : ∀ g', FL [(60, -1), (61, -1), (64, -1)] h g' → g' 54 i = v i := fun g' f' => by rw [f'.c 54 rfl]; exact vi.1
      have g0 : g 52 0 = n := by rw [f.at 52 0 rfl]; exact h0
      refine b_X2_addUp_h_8 hn ⟨by constructor <;> omega, iteN (by omega) ?_⟩
      rw [g0, show ((i + 1 : Nat) : Int) - 1 = (i : Int) by omega, show (n : Int) - i - 1 = (m : Int) by omega, show (n : Int) - i = (m : Int) + 1 by omega]
      have srt := ris_sorted ra
      -- the sums
      have s92 : ∀ (q k : Nat) (b : Int → Int) (g1 g' : HI), k + q = m + 1 → FL [(64, -1)] g g1 → FL [(60, -1), (61, -1)] g1 g' → risA v i (m + 1) b → (∀ j : Nat, j < m + 1 → g1 64 j = b j ∧ rg (b j)) → (∀ j : Nat, j ≤ k → g' 60 ((i : Int) * 13 + j) = pfA b j ∧ g' 61 ((i : Int) * 13 + j) = sfA b (m + 1) j) → (∀ y : Int, y < (i : Int) * 13 + 1 ∨ (i : Int) * 13 + m + 1 < y → g' 60 y = g1 60 y ∧ g' 61 y = g1 61 y) → G l (D + 1) 0 0 mX2_addUp (zz ζ) 92 [aP 52, aP 54, aP 60, aP 61, aI i, aI ((m : Int) + 1), aU, aI ((i : Int) * 13), aI ((k : Int) + 1)] [] g' (qV (zz ζ) QV) := by
        intro q
        induction q with
        | zero =>
          intro k b g1 g' hk f1 f' rb e64 ek eo
          refine b_X2_addUp_h_92 hn ⟨by constructor <;> omega, by constructor <;> omega, iteP (by omega) ?_⟩
          have F : FL [(60, -1), (61, -1), (64, -1)] h g' := (f.trans (f1.mono rfl)).trans (f'.mono rfl)
          have e : g' 64 = g1 64 := f'.c 64 rfl
          have kk := ih g' (by omega) F (by
            rw [show n - i = m + 1 by omega]
            obtain ⟨a, p, q1, q2, q3⟩ := rb
            exact ⟨a, p, q1, q2, fun j hj => by rw [e, (e64 j hj).1]; exact q3 j hj⟩) (fun j hj => by rw [e, (e64 j (by omega)).1]; exact (e64 j (by omega)).2) (fun j j0 j1 => by
            by_cases ej : j = i
            · subst ej
              refine ⟨b, by rw [show n - j = m + 1 by omega]; exact rb, fun k2 hk2 => ?_⟩
              rw [show n - j = m + 1 by omega]
              exact ek k2 (by omega)
            · obtain ⟨a, q1, q2⟩ := dn j (by omega) j1
              refine ⟨a, q1, fun k2 hk2 => ?_⟩
              have := eo ((j : Int) * 13 + k2) (by right; omega)
              rw [this.1, this.2, f1.c 60 rfl, f1.c 61 rfl]
              exact q2 k2 hk2) (fun y y0 y1 => by
            have := eo (y * 13) (by omega)
            rw [this.1, this.2, f1.c 60 rfl, f1.c 61 rfl]
            exact z y y0 y1)
          rw [show (i : Int) + -1 = (i : Int) - 1 by omega]
          exact kk
        | succ q ihq =>
          intro k b g1 g' hk f1 f' rb e64 ek eo
          have e : g' 64 = g1 64 := f'.c 64 rfl
          have ekk := ek k (Nat.le_refl _)
          refine b_X2_addUp_h_92 hn ⟨by constructor <;> omega, by constructor <;> omega, iteN (by omega) ⟨⟨by omega, by omega⟩, ⟨by omega, by omega⟩, ⟨by omega, by omega⟩, ⟨by omega, by omega⟩, ?_⟩⟩
          rw [show (i : Int) * 13 + ((k : Int) + 1) - 1 = (i : Int) * 13 + k by omega, show (k : Int) + 1 - 1 = (k : Int) by omega, show (m : Int) + 1 - ((k : Int) + 1) = ((m - k : Nat) : Int) by omega, e, (e64 k (by omega)).1, (e64 (m - k) (by omega)).1, ekk.1, ekk.2]
          have kk := ihq (k + 1) b g1 (hu (hu g' 60 ((i : Int) * 13 + ((k : Int) + 1)) (pfA b k + b k)) 61 ((i : Int) * 13 + ((k : Int) + 1)) (sfA b (m + 1) k + b ((m - k : Nat) : Int))) (by omega) f1 ((f'.ua rfl).ua rfl) rb e64 (fun j hj => by
            by_cases ej : j = k + 1
            · subst ej
              rw [show ((k + 1 : Nat) : Int) = (k : Int) + 1 by omega]
              refine ⟨by rw [hu_c _ _ _ (by decide), hu_s]; rfl, ?_⟩
              rw [hu_s]
              show _ = sfA b (m + 1) k + b (((m + 1 : Nat) : Int) - 1 - k)
              rw [show ((m + 1 : Nat) : Int) - 1 - k = ((m - k : Nat) : Int) by omega]
            · rw [hu_c _ _ _ (by decide), hu_j _ _ _ (by omega), hu_j _ _ _ (by omega), hu_c _ _ _ (by decide)]
              exact ek j (by omega)) (fun y hy => by
            rw [hu_c _ _ _ (by decide), hu_j _ _ _ (by omega), hu_j _ _ _ (by omega), hu_c _ _ _ (by decide)]
            exact eo y hy)
          rw [show ((k + 1 : Nat) : Int) + 1 = (k : Int) + 1 + 1 by omega] at kk
          exact kk
      -- the place found
      have fin : ∀ (k : Nat) (g' : HI), k ≤ m → FL [(64, -1)] g g' → (∀ j : Nat, j < k → g' 64 j = g 64 j) → (∀ j : Nat, k < j → j ≤ m → g' 64 j = g 64 ((j : Int) - 1)) → (∀ j : Nat, k ≤ j → j < m → v i < g 64 j) → (0 < k → g 64 ((k - 1 : Nat) : Int) ≤ v i) → G l (D + 1) 0 0 mX2_addUp (zz ζ) 92 [aP 52, aP 54, aP 60, aP 61, aI i, aI ((m : Int) + 1), aU, aI ((i : Int) * 13), aI 1] [] (hu g' 64 k (v i)) (qV (zz ζ) QV) := by
        intro k g' hk f' lo hi up dw
        have F : FL [(64, -1)] g (hu g' 64 k (v i)) := f'.ua rfl
        have zi := z i (by omega) (by omega)
        have kk := s92 (m + 1) 0 (rinA (g 64) k (v i)) (hu g' 64 k (v i)) (hu g' 64 k (v i)) (by omega) F FL.refl ⟨g 64, k, ra, ⟨hk, fun j hj => by
          have a1 := srt j (k - 1) (by omega) (by omega)
          have a2 := dw (by omega)
          omega, fun j j0 j1 => by have := up j j0 j1; omega⟩, fun j hj => rfl⟩ (fun j hj => by
          unfold rinA
          by_cases j1 : (j : Int) < k
          · rw [if_pos j1, hu_j _ _ _ (by omega), lo j (by omega)]
            exact ⟨rfl, rr j (by omega)⟩
          · rw [if_neg j1]
            by_cases j2 : (j : Int) = k
            · rw [if_pos j2, j2, hu_s]
              exact ⟨rfl, by constructor <;> omega⟩
            · rw [if_neg j2, hu_j _ _ _ j2, hi j (by omega) (by omega)]
              refine ⟨rfl, ?_⟩
              have := rr (j - 1) (by omega)
              rwa [show ((j - 1 : Nat) : Int) = (j : Int) - 1 by omega] at this) (fun j hj => by
          have : j = 0 := by omega
          subst this
          rw [show (i : Int) * 13 + ((0 : Nat) : Int) = (i : Int) * 13 by omega, F.c 60 rfl, F.c 61 rfl]
          exact zi) (fun y _ => ⟨rfl, rfl⟩)
        exact kk
      have m28 : ∀ (k : Nat) (g' : HI), k ≤ m → FL [(64, -1)] g g' → (∀ j : Nat, j < k → g' 64 j = g 64 j) → (∀ j : Nat, k < j → j ≤ m → g' 64 j = g 64 ((j : Int) - 1)) → (∀ j : Nat, k ≤ j → j < m → v i < g 64 j) → G l (D + 1) 0 0 mX2_addUp (zz ζ) 28 [aP 52, aP 54, aP 60, aP 61, aI i, aI ((m : Int) + 1), aI k, aU, aU] [] g' (qV (zz ζ) QV) := by
        intro k
        induction k with
        | zero =>
          intro g' hk f' lo hi up
          have F' : FL [(60, -1), (61, -1), (64, -1)] h g' := f.trans (f'.mono rfl)
          refine b_X2_addUp_h_28 hn ⟨by constructor <;> omega, iteP (by omega) ⟨⟨by omega, by omega⟩, ⟨by omega, by omega⟩, ?_⟩⟩
          rw [e54 g' F']
          exact fin 0 g' hk f' lo hi up (fun y => absurd y (by omega))
        | succ k ihk =>
          intro g' hk f' lo hi up
          have F' : FL [(60, -1), (61, -1), (64, -1)] h g' := f.trans (f'.mono rfl)
          have ek : g' 64 k = g 64 k := lo k (by omega)
          have rk := rr k (by omega)
          refine b_X2_addUp_h_28 hn ⟨by constructor <;> omega, iteN (by omega) ⟨⟨by omega, by omega⟩, ⟨by omega, by omega⟩, ?_⟩⟩
          rw [e54 g' F', show ((k + 1 : Nat) : Int) - 1 = (k : Int) by omega, ek]
          refine ⟨rk, by constructor <;> omega, iteI (fun y => ⟨⟨by omega, by omega⟩, fin (k + 1) g' hk f' lo hi up (fun _ => y)⟩) (fun y => ⟨⟨by omega, by omega⟩, ?_⟩)⟩
          have kk := ihk (hu g' 64 ((k + 1 : Nat) : Int) (g 64 k)) (by omega) (f'.ua rfl) (fun j hj => by rw [hu_j _ _ _ (by omega)]; exact lo j (by omega)) (fun j j0 j1 => by
            by_cases ej : j = k + 1
            · subst ej
              rw [hu_s, show ((k + 1 : Nat) : Int) - 1 = (k : Int) by omega]
            · rw [hu_j _ _ _ (by omega)]; exact hi j (by omega) j1) (fun j j0 j1 => by
            by_cases ej : j = k
            · subst ej; omega
            · exact up j (by omega) j1)
          rw [show ((k + 1 : Nat) : Int) + -1 = (k : Int) by omega]
          exact kk
      exact m28 m g (Nat.le_refl _) FL.refl (fun _ _ => rfl) (fun j j0 j1 => by omega) (fun j j0 j1 => by omega)
  have := main n h (Nat.le_refl _) FL.refl (by rw [Nat.sub_self]; trivial) (fun j hj => by omega) (fun j j0 j1 => by omega) hz
  rw [h0]
  exact this

def dnf (v : Int → Int) (n i : Nat) (g : HI) : Prop := ∀ j : Nat, i ≤ j → j < n → ∃ a, risA v j (n - j) a ∧ ∀ k : Nat, k ≤ n - j → g 62 ((j : Int) * 13 + k) = pfA a k ∧ g 63 ((j : Int) * 13 + k) = sfA a (n - j) k
theorem s_addUp_f (hn : 144 ≤ ζ.2.2.2.2) {n : Nat} (n1 : 1 ≤ n) (n12 : n ≤ 12) {v : Int → Int} (h0 : h 52 0 = n) (hv : ∀ j : Nat, j < n → h 55 j = v j ∧ -1000000 ≤ v j ∧ v j ≤ 1000000) (hz : ∀ i : Int, 0 ≤ i → i ≤ 12 → h 62 (i * 13) = 0 ∧ h 63 (i * 13) = 0) (hq : ∀ g, FL [(62, -1), (63, -1), (64, -1)] h g → dnf v n 0 g → (∀ i : Int, 0 ≤ i → i ≤ 12 → g 62 (i * 13) = 0 ∧ g 63 (i * 13) = 0) → QV g) : RtV l (D + 1) mX2_addUp (zz ζ) [aP 52, aP 55, aP 62, aP 63] h QV := by
  refine e_X2_addUp_f hn ?_
  have main : ∀ (i : Nat) (g : HI), i ≤ n → FL [(62, -1), (63, -1), (64, -1)] h g → risA v i (n - i) (g 64) → (∀ j : Nat, j < n - i → rg (g 64 j)) → dnf v n i g → (∀ i : Int, 0 ≤ i → i ≤ 12 → g 62 (i * 13) = 0 ∧ g 63 (i * 13) = 0) → G l (D + 1) 0 0 mX2_addUp (zz ζ) 8 [aP 52, aP 55, aP 62, aP 63, aI ((i : Int) - 1), aU, aU, aU, aU] [] g (qV (zz ζ) QV) := by
    intro i
    induction i with
    | zero =>
      intro g hi f ra rr dn z
      exact b_X2_addUp_f_8 hn ⟨by constructor <;> omega, iteP (by omega) (hq g f dn z)⟩
    | succ i ih =>
      intro g hi f ra rr dn z
      have vi := hv i (by omega)
      obtain ⟨m, em⟩ : ∃ m : Nat, n - (i + 1) = m := ⟨_, rfl⟩
      rw [em] at ra rr
      have e54 : ∀ g', FL [(62, -1), (63, -1), (64, -1)] h g' → g' 55 i = v i := fun g' f' => by rw [f'.c 55 rfl]; exact vi.1
      have g0 : g 52 0 = n := by rw [f.at 52 0 rfl]; exact h0
      refine b_X2_addUp_f_8 hn ⟨by constructor <;> omega, iteN (by omega) ?_⟩
      rw [g0, show ((i + 1 : Nat) : Int) - 1 = (i : Int) by omega, show (n : Int) - i - 1 = (m : Int) by omega, show (n : Int) - i = (m : Int) + 1 by omega]
      have srt := ris_sorted ra
      -- the sums
      have s92 : ∀ (q k : Nat) (b : Int → Int) (g1 g' : HI), k + q = m + 1 → FL [(64, -1)] g g1 → FL [(62, -1), (63, -1)] g1 g' → risA v i (m + 1) b → (∀ j : Nat, j < m + 1 → g1 64 j = b j ∧ rg (b j)) → (∀ j : Nat, j ≤ k → g' 62 ((i : Int) * 13 + j) = pfA b j ∧ g' 63 ((i : Int) * 13 + j) = sfA b (m + 1) j) → (∀ y : Int, y < (i : Int) * 13 + 1 ∨ (i : Int) * 13 + m + 1 < y → g' 62 y = g1 62 y ∧ g' 63 y = g1 63 y) → G l (D + 1) 0 0 mX2_addUp (zz ζ) 92 [aP 52, aP 55, aP 62, aP 63, aI i, aI ((m : Int) + 1), aU, aI ((i : Int) * 13), aI ((k : Int) + 1)] [] g' (qV (zz ζ) QV) := by
        intro q
        induction q with
        | zero =>
          intro k b g1 g' hk f1 f' rb e64 ek eo
          refine b_X2_addUp_f_92 hn ⟨by constructor <;> omega, by constructor <;> omega, iteP (by omega) ?_⟩
          have F : FL [(62, -1), (63, -1), (64, -1)] h g' := (f.trans (f1.mono rfl)).trans (f'.mono rfl)
          have e : g' 64 = g1 64 := f'.c 64 rfl
          have kk := ih g' (by omega) F (by
            rw [show n - i = m + 1 by omega]
            obtain ⟨a, p, q1, q2, q3⟩ := rb
            exact ⟨a, p, q1, q2, fun j hj => by rw [e, (e64 j hj).1]; exact q3 j hj⟩) (fun j hj => by rw [e, (e64 j (by omega)).1]; exact (e64 j (by omega)).2) (fun j j0 j1 => by
            by_cases ej : j = i
            · subst ej
              refine ⟨b, by rw [show n - j = m + 1 by omega]; exact rb, fun k2 hk2 => ?_⟩
              rw [show n - j = m + 1 by omega]
              exact ek k2 (by omega)
            · obtain ⟨a, q1, q2⟩ := dn j (by omega) j1
              refine ⟨a, q1, fun k2 hk2 => ?_⟩
              have := eo ((j : Int) * 13 + k2) (by right; omega)
              rw [this.1, this.2, f1.c 62 rfl, f1.c 63 rfl]
              exact q2 k2 hk2) (fun y y0 y1 => by
            have := eo (y * 13) (by omega)
            rw [this.1, this.2, f1.c 62 rfl, f1.c 63 rfl]
            exact z y y0 y1)
          rw [show (i : Int) + -1 = (i : Int) - 1 by omega]
          exact kk
        | succ q ihq =>
          intro k b g1 g' hk f1 f' rb e64 ek eo
          have e : g' 64 = g1 64 := f'.c 64 rfl
          have ekk := ek k (Nat.le_refl _)
          refine b_X2_addUp_f_92 hn ⟨by constructor <;> omega, by constructor <;> omega, iteN (by omega) ⟨⟨by omega, by omega⟩, ⟨by omega, by omega⟩, ⟨by omega, by omega⟩, ⟨by omega, by omega⟩, ?_⟩⟩
          rw [show (i : Int) * 13 + ((k : Int) + 1) - 1 = (i : Int) * 13 + k by omega, show (k : Int) + 1 - 1 = (k : Int) by omega, show (m : Int) + 1 - ((k : Int) + 1) = ((m - k : Nat) : Int) by omega, e, (e64 k (by omega)).1, (e64 (m - k) (by omega)).1, ekk.1, ekk.2]
          have kk := ihq (k + 1) b g1 (hu (hu g' 62 ((i : Int) * 13 + ((k : Int) + 1)) (pfA b k + b k)) 63 ((i : Int) * 13 + ((k : Int) + 1)) (sfA b (m + 1) k + b ((m - k : Nat) : Int))) (by omega) f1 ((f'.ua rfl).ua rfl) rb e64 (fun j hj => by
            by_cases ej : j = k + 1
            · subst ej
              rw [show ((k + 1 : Nat) : Int) = (k : Int) + 1 by omega]
              refine ⟨by rw [hu_c _ _ _ (by decide), hu_s]; rfl, ?_⟩
              rw [hu_s]
              show _ = sfA b (m + 1) k + b (((m + 1 : Nat) : Int) - 1 - k)
              rw [show ((m + 1 : Nat) : Int) - 1 - k = ((m - k : Nat) : Int) by omega]
            · rw [hu_c _ _ _ (by decide), hu_j _ _ _ (by omega), hu_j _ _ _ (by omega), hu_c _ _ _ (by decide)]
              exact ek j (by omega)) (fun y hy => by
            rw [hu_c _ _ _ (by decide), hu_j _ _ _ (by omega), hu_j _ _ _ (by omega), hu_c _ _ _ (by decide)]
            exact eo y hy)
          rw [show ((k + 1 : Nat) : Int) + 1 = (k : Int) + 1 + 1 by omega] at kk
          exact kk
      -- the place found
      have fin : ∀ (k : Nat) (g' : HI), k ≤ m → FL [(64, -1)] g g' → (∀ j : Nat, j < k → g' 64 j = g 64 j) → (∀ j : Nat, k < j → j ≤ m → g' 64 j = g 64 ((j : Int) - 1)) → (∀ j : Nat, k ≤ j → j < m → v i < g 64 j) → (0 < k → g 64 ((k - 1 : Nat) : Int) ≤ v i) → G l (D + 1) 0 0 mX2_addUp (zz ζ) 92 [aP 52, aP 55, aP 62, aP 63, aI i, aI ((m : Int) + 1), aU, aI ((i : Int) * 13), aI 1] [] (hu g' 64 k (v i)) (qV (zz ζ) QV) := by
        intro k g' hk f' lo hi up dw
        have F : FL [(64, -1)] g (hu g' 64 k (v i)) := f'.ua rfl
        have zi := z i (by omega) (by omega)
        have kk := s92 (m + 1) 0 (rinA (g 64) k (v i)) (hu g' 64 k (v i)) (hu g' 64 k (v i)) (by omega) F FL.refl ⟨g 64, k, ra, ⟨hk, fun j hj => by
          have a1 := srt j (k - 1) (by omega) (by omega)
          have a2 := dw (by omega)
          omega, fun j j0 j1 => by have := up j j0 j1; omega⟩, fun j hj => rfl⟩ (fun j hj => by
          unfold rinA
          by_cases j1 : (j : Int) < k
          · rw [if_pos j1, hu_j _ _ _ (by omega), lo j (by omega)]
            exact ⟨rfl, rr j (by omega)⟩
          · rw [if_neg j1]
            by_cases j2 : (j : Int) = k
            · rw [if_pos j2, j2, hu_s]
              exact ⟨rfl, by constructor <;> omega⟩
            · rw [if_neg j2, hu_j _ _ _ j2, hi j (by omega) (by omega)]
              refine ⟨rfl, ?_⟩
              have := rr (j - 1) (by omega)
              rwa [show ((j - 1 : Nat) : Int) = (j : Int) - 1 by omega] at this) (fun j hj => by
          have : j = 0 := by omega
          subst this
          rw [show (i : Int) * 13 + ((0 : Nat) : Int) = (i : Int) * 13 by omega, F.c 62 rfl, F.c 63 rfl]
          exact zi) (fun y _ => ⟨rfl, rfl⟩)
        exact kk
      have m28 : ∀ (k : Nat) (g' : HI), k ≤ m → FL [(64, -1)] g g' → (∀ j : Nat, j < k → g' 64 j = g 64 j) → (∀ j : Nat, k < j → j ≤ m → g' 64 j = g 64 ((j : Int) - 1)) → (∀ j : Nat, k ≤ j → j < m → v i < g 64 j) → G l (D + 1) 0 0 mX2_addUp (zz ζ) 28 [aP 52, aP 55, aP 62, aP 63, aI i, aI ((m : Int) + 1), aI k, aU, aU] [] g' (qV (zz ζ) QV) := by
        intro k
        induction k with
        | zero =>
          intro g' hk f' lo hi up
          have F' : FL [(62, -1), (63, -1), (64, -1)] h g' := f.trans (f'.mono rfl)
          refine b_X2_addUp_f_28 hn ⟨by constructor <;> omega, iteP (by omega) ⟨⟨by omega, by omega⟩, ⟨by omega, by omega⟩, ?_⟩⟩
          rw [e54 g' F']
          exact fin 0 g' hk f' lo hi up (fun y => absurd y (by omega))
        | succ k ihk =>
          intro g' hk f' lo hi up
          have F' : FL [(62, -1), (63, -1), (64, -1)] h g' := f.trans (f'.mono rfl)
          have ek : g' 64 k = g 64 k := lo k (by omega)
          have rk := rr k (by omega)
          refine b_X2_addUp_f_28 hn ⟨by constructor <;> omega, iteN (by omega) ⟨⟨by omega, by omega⟩, ⟨by omega, by omega⟩, ?_⟩⟩
          rw [e54 g' F', show ((k + 1 : Nat) : Int) - 1 = (k : Int) by omega, ek]
          refine ⟨rk, by constructor <;> omega, iteI (fun y => ⟨⟨by omega, by omega⟩, fin (k + 1) g' hk f' lo hi up (fun _ => y)⟩) (fun y => ⟨⟨by omega, by omega⟩, ?_⟩)⟩
          have kk := ihk (hu g' 64 ((k + 1 : Nat) : Int) (g 64 k)) (by omega) (f'.ua rfl) (fun j hj => by rw [hu_j _ _ _ (by omega)]; exact lo j (by omega)) (fun j j0 j1 => by
            by_cases ej : j = k + 1
            · subst ej
              rw [hu_s, show ((k + 1 : Nat) : Int) - 1 = (k : Int) by omega]
            · rw [hu_j _ _ _ (by omega)]; exact hi j (by omega) j1) (fun j j0 j1 => by
            by_cases ej : j = k
            · subst ej; omega
            · exact up j (by omega) j1)
          rw [show ((k + 1 : Nat) : Int) + -1 = (k : Int) by omega]
          exact kk
      exact m28 m g (Nat.le_refl _) FL.refl (fun _ _ => rfl) (fun j j0 j1 => by omega) (fun j j0 j1 => by omega)
  have := main n h (Nat.le_refl _) FL.refl (by rw [Nat.sub_self]; trivial) (fun j hj => by omega) (fun j j0 j1 => by omega) hz
  rw [h0]
  exact this
end RW2
