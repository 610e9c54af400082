/-! ORDER, CHECK: the class's shorts -/
/-- SHORTS: strip k itself, or one of its nears -/
def shp (A B : Int → Int) (NT NA NB : Int → Int) (nn : Nat) (p lv : Int → Int) (k : Int) : Prop := (p (A k) = p (B k) ∧ lv (A k) ≠ lv (B k)) ∨ ∃ j : Nat, j < nn ∧ NT j = k ∧ p (NA j) = p (NB j) ∧ (1 < lv (NA j) - lv (NB j) ∨ lv (NA j) - lv (NB j) < -1)
def cp60 (t : Int) (g : HI) : Int → Int := fun x => g 94 (t * 60 + x / 2)
def cl60 (t : Int) (g : HI) : Int → Int := fun x => g 95 (t * 60 + x / 2) + x % 2
/-- groups and heights in range -/
def gb (t : Int) (K : Int) (g : HI) : Prop := ∀ c : Int, 0 ≤ c → c < 60 → (0 ≤ g 94 (t * 60 + c) ∧ g 94 (t * 60 + c) < 60) ∧ -K ≤ g 95 (t * 60 + c) ∧ g 95 (t * 60 + c) ≤ K
theorem nd_sh : ∀ x : Nat, x < 120 → bshr (x : Int) 1 = (x : Int) / 2 ∧ band (x : Int) 1 = (x : Int) % 2 := by decide +kernel
section OD2
variable {l : Launch} {D : Nat} {ζ : ZP} {h : HI} {Q : Int → HI → Prop} {W : Nat} {t K : Int}
theorem nd_shi {x : Int} (hx : nd x) : bshr x 1 = x / 2 ∧ band x 1 = x % 2 := by
  obtain ⟨k, rfl⟩ := Int.eq_ofNat_of_zero_le hx.1
  exact nd_sh k (by have := hx.2; omega)
theorem s_together (hn : 144 ≤ ζ.2.2.2.2) (ht : 0 ≤ t ∧ t ≤ 12) (b : gb t K h) {x y : Int} (hx : nd x) (hy : nd y) (h1 : cp60 t h x = cp60 t h y → Q 1 h) (h0 : cp60 t h x ≠ cp60 t h y → Q 0 h) : RtI l (D + 1) mX9_together (zz ζ) [aP 91, aI t, aI x, aI y] h Q := by
  have ex := nd_shi hx
  have ey := nd_shi hy
  unfold nd at hx hy
  have bx := b (x / 2) (by omega) (by omega)
  have by' := b (y / 2) (by omega) (by omega)
  refine e_X9_together hn ?_
  rw [ex.1, ey.1]
  refine ⟨by omega, by omega, by constructor <;> omega, by constructor <;> omega, ?_⟩
  by_cases c : cp60 t h x = cp60 t h y
  · exact iteN (fun z => z c) (h1 c)
  · exact iteP c (h0 c)
theorem s_apart (hn : 144 ≤ ζ.2.2.2.2) (ht : 0 ≤ t ∧ t ≤ 12) {x y : Int} (hx : nd x) (hy : nd y) (hq : Q (cl60 t h x - cl60 t h y) h) : RtI l (D + 1) mX9_apart (zz ζ) [aP 91, aI t, aI x, aI y] h Q := by
  have ex := nd_shi hx
  have ey := nd_shi hy
  unfold nd at hx hy
  refine e_X9_apart hn ?_
  rw [ex.1, ey.1, ex.2, ey.2]
  refine ⟨by omega, by omega, ?_⟩
  rw [show h 95 (t * 60 + x / 2) + x % 2 - h 95 (t * 60 + y / 2) - y % 2 = cl60 t h x - cl60 t h y by unfold cl60; omega]
  exact hq
theorem s_shorts (hn : 144 ≤ ζ.2.2.2.2) (hW : isW W) (ht : 0 ≤ t ∧ t ≤ 12) (hK : 0 ≤ K ∧ K ≤ 1000000) (b : gb t K h) (we : weI W h) {k : Int} (hk : 0 ≤ k ∧ k < h W 0) (h1 : shp (h (W + 1)) (h (W + 2)) (h (W + 4)) (h (W + 5)) (h (W + 6)) (h W 4).toNat (cp60 t h) (cl60 t h) k → Q 1 h) (h0 : ¬ shp (h (W + 1)) (h (W + 2)) (h (W + 4)) (h (W + 5)) (h (W + 6)) (h W 4).toNat (cp60 t h) (cl60 t h) k → Q 0 h) : RtI l (D + 2) mX9_shorts (zz ζ) [aP 91, aP W, aI t, aI k] h Q := by
  obtain ⟨w1, w2, w3, w4⟩ := we
  have wk := w2 k hk.1 hk.2
  have nA : nd (h (W + 1) k) := wk.1.2
  have nB : nd (h (W + 2) k) := wk.2.1.2
  have lb : ∀ x : Int, nd x → -K ≤ cl60 t h x ∧ cl60 t h x ≤ K + 1 := by
    intro x hx
    unfold nd at hx
    have := b (x / 2) (by omega) (by omega)
    unfold cl60
    omega
  -- the nears
  have LP : ¬ (cp60 t h (h (W + 1) k) = cp60 t h (h (W + 2) k) ∧ cl60 t h (h (W + 1) k) ≠ cl60 t h (h (W + 2) k)) → ∀ (f i : Nat), i + f = (h W 4).toNat → (∀ j : Nat, j < i → ¬ (h (W + 4) j = k ∧ cp60 t h (h (W + 5) j) = cp60 t h (h (W + 6) j) ∧ (1 < cl60 t h (h (W + 5) j) - cl60 t h (h (W + 6) j) ∨ cl60 t h (h (W + 5) j) - cl60 t h (h (W + 6) j) < -1))) → G l (D + 2) 0 0 mX9_shorts (zz ζ) 45 [aP 91, aP W, aI t, aI k, aI i, aU] [] h (qI (zz ζ) Q) := by
    intro n0 f
    induction f with
    | zero =>
      intro i ei no
      refine b_X9_shorts_45 hn hW ⟨by constructor <;> omega, by constructor <;> omega, iteP (by omega) (h0 (fun z => ?_))⟩
      rcases z with z | ⟨j, j1, j2⟩
      · exact n0 z
      · exact no j (by omega) j2
    | succ f ih =>
      intro i ei no
      have wi := w4 i (by omega) (by omega)
      have n5 : nd (h (W + 5) i) := wi.2.1.2
      have n6 : nd (h (W + 6) i) := wi.2.2.2
      have l5 := lb _ n5
      have l6 := lb _ n6
      have nxt : ¬ (h (W + 4) i = k ∧ cp60 t h (h (W + 5) i) = cp60 t h (h (W + 6) i) ∧ (1 < cl60 t h (h (W + 5) i) - cl60 t h (h (W + 6) i) ∨ cl60 t h (h (W + 5) i) - cl60 t h (h (W + 6) i) < -1)) → G l (D + 2) 0 0 mX9_shorts (zz ζ) 45 [aP 91, aP W, aI t, aI k, aI (i + 1), aU] [] h (qI (zz ζ) Q) := by
        intro z
        have := ih (i + 1) (by omega) (fun j hj => by
          by_cases y : j = i
          · rw [y]; exact z
          · exact no j (by omega))
        rw [show ((i + 1 : Nat) : Int) = (i : Int) + 1 by omega] at this
        exact this
      refine b_X9_shorts_45 hn hW ⟨by constructor <;> omega, by constructor <;> omega, iteN (by omega) ⟨by omega, by constructor <;> omega, by constructor <;> omega, ?_⟩⟩
      by_cases c : h (W + 4) i = k
      · refine iteN (fun z => z c) (s_together hn ht b n5 n6 (fun y => ⟨by decide, iteN (by decide) ?_⟩) (fun y => ⟨by decide, iteP rfl (nxt (fun z => y z.2.1))⟩))
        refine s_apart hn ht n5 n6 ⟨by constructor <;> omega, ?_⟩
        have yes : (1 < cl60 t h (h (W + 5) i) - cl60 t h (h (W + 6) i) ∨ cl60 t h (h (W + 5) i) - cl60 t h (h (W + 6) i) < -1) → Q 1 h := fun z => h1 (Or.inr ⟨i, by omega, c, y, z⟩)
        exact iteI (fun z => yes (Or.inl z)) (fun z => iteI (fun z2 => nxt (fun q => by have := q.2.2; omega)) (fun z2 => yes (Or.inr (by omega))))
      · exact iteP c (nxt (fun z => c z.1))
  have lA := lb _ nA
  have lB := lb _ nB
  refine e_X9_shorts hn hW ⟨by omega, s_together hn ht b nA nB (fun y => ⟨by decide, iteN (by decide) ?_⟩) (fun y => ⟨by decide, iteP rfl ?_⟩)⟩
  · refine s_apart hn ht nA nB ⟨by constructor <;> omega, ?_⟩
    by_cases c : cl60 t h (h (W + 1) k) - cl60 t h (h (W + 2) k) = 0
    · exact iteP c (LP (fun z => z.2 (by omega)) (h W 4).toNat 0 (by omega) (fun j hj => by omega))
    · exact iteN c (h1 (Or.inl ⟨y, by omega⟩))
  · exact LP (fun z => y z.1) (h W 4).toNat 0 (by omega) (fun j hj => by omega)
end OD2
