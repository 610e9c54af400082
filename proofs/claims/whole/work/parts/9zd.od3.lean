/-! ORDER, CHECK: the class welds -/
theorem vds_congr {A B : Int → Int} {m M : Nat} {p lv p' lv' : Int → Int} (a : vds A B m M p lv) (nA : ∀ k : Nat, k < m → nd (A k) ∧ nd (B k)) (e : ∀ x : Int, nd x → p' x = p x ∧ lv' x = lv x) : vds A B m M p' lv' := by
  refine ⟨⟨fun c c0 c1 => ?_, fun k hk b => ?_⟩, fun q mv eg x y hx hy z => ?_⟩
  · have e1 := e (2 * c + 1) ⟨by omega, by omega⟩
    have e2 := e (2 * c) ⟨by omega, by omega⟩
    rw [e1.1, e1.2, e2.1, e2.2]; exact a.1.1 c c0 c1
  · have e1 := e _ (nA k hk).1
    have e2 := e _ (nA k hk).2
    rw [e1.1, e1.2, e2.1, e2.2]; exact a.1.2 k hk b
  · have e1 := e x hx
    have e2 := e y hy
    rw [e1.1, e2.1] at z
    rw [e1.2, e2.2]; exact a.2 q mv eg x y hx hy z
section OD3
variable {l : Launch} {D : Nat} {ζ : ZP} {h : HI} {Q : Int → HI → Prop} {W : Nat} {t K : Int}
/-- what a weld makes of groups and heights: the same, or two parts joined -/
def wdd (t : Int) (h g : HI) (x y : Int) : Prop := (cp60 t h x = cp60 t h y → ∀ z : Int, nd z → cp60 (t + 1) g z = cp60 t h z ∧ cl60 (t + 1) g z = cl60 t h z) ∧ (cp60 t h x ≠ cp60 t h y → ∀ z : Int, nd z → cp60 (t + 1) g z = (if cp60 t h z = cp60 t h y then cp60 t h x else cp60 t h z) ∧ cl60 (t + 1) g z = (if cp60 t h z = cp60 t h y then cl60 t h z + (cl60 t h x - cl60 t h y) else cl60 t h z))
theorem s_weld (hn : 144 ≤ ζ.2.2.2.2) (hW : isW W) (ht : 0 ≤ t ∧ t ≤ 11) (hK : 0 ≤ K ∧ 3 * K + 1 ≤ 1000000) (b : gb t K h) (we : weI W h) {k : Int} (hk : 0 ≤ k ∧ k < h W 0) (hq : ∀ g, FL [(94, -1), (95, -1)] h g → (∀ j : Int, j < t * 60 + 60 → g 94 j = h 94 j ∧ g 95 j = h 95 j) → gb (t + 1) (3 * K + 1) g → wdd t h g (h (W + 1) k) (h (W + 2) k) → (shp (h (W + 1)) (h (W + 2)) (h (W + 4)) (h (W + 5)) (h (W + 6)) (h W 4).toNat (cp60 (t + 1) g) (cl60 (t + 1) g) k → Q 0 g) ∧ (¬ shp (h (W + 1)) (h (W + 2)) (h (W + 4)) (h (W + 5)) (h (W + 6)) (h W 4).toNat (cp60 (t + 1) g) (cl60 (t + 1) g) k → Q 1 g)) : RtI l (D + 3) mX9_weld (zz ζ) [aP 91, aP W, aI t, aI k] h Q := by
  have wk := we.2.1 k hk.1 hk.2
  have nA : nd (h (W + 1) k) := wk.1.2
  have nB : nd (h (W + 2) k) := wk.2.1.2
  have m12 := we.1.2.1
  have W94 : ∀ c, c ≤ 7 → W + c ≠ 94 ∧ W + c ≠ 95 := fun c hc => by rcases hW with z | z <;> omega
  have W0 : W ≠ 94 ∧ W ≠ 95 := W94 0 (by omega)
  -- the copy
  have F0 : FL [(94, -1), (95, -1)] h (hcp (hcp h 94 (t * 60) 94 (t * 60 + 60) 60) 95 (t * 60) 95 (t * 60 + 60) 60) := by
    intro a j q
    have na : a ≠ 94 ∧ a ≠ 95 := by
      constructor <;> intro z <;> subst z
      · rw [inL_of.mpr ⟨(94, -1), by decide, rfl, Or.inl rfl⟩] at q; cases q
      · rw [inL_of.mpr ⟨(95, -1), by decide, rfl, Or.inl rfl⟩] at q; cases q
    unfold hcp
    rw [if_neg (fun z => na.2 z.1), if_neg (fun z => na.1 z.1)]
  have c94 : ∀ j : Int, (j < t * 60 + 60 → (hcp (hcp h 94 (t * 60) 94 (t * 60 + 60) 60) 95 (t * 60) 95 (t * 60 + 60) 60) 94 j = h 94 j ∧ (hcp (hcp h 94 (t * 60) 94 (t * 60 + 60) 60) 95 (t * 60) 95 (t * 60 + 60) 60) 95 j = h 95 j) ∧ (t * 60 + 60 ≤ j → j < t * 60 + 120 → (hcp (hcp h 94 (t * 60) 94 (t * 60 + 60) 60) 95 (t * 60) 95 (t * 60 + 60) 60) 94 j = h 94 (j - 60) ∧ (hcp (hcp h 94 (t * 60) 94 (t * 60 + 60) 60) 95 (t * 60) 95 (t * 60 + 60) 60) 95 j = h 95 (j - 60)) := by
    intro j
    unfold hcp
    constructor
    · intro hj
      constructor
      · rw [if_neg (fun z => by omega), if_neg (fun z => by omega)]
      · rw [if_neg (fun z => by omega), if_neg (fun z => by omega)]
    · intro h1 h2
      constructor
      · rw [if_neg (fun z => by omega), if_pos ⟨rfl, by omega, by omega⟩]; congr 1; omega
      · rw [if_pos ⟨rfl, by omega, by omega⟩, if_neg (fun z => by omega)]; congr 1; omega
  refine e_X9_weld hn hW ⟨by omega, by omega, ?_⟩
  generalize hcp (hcp h 94 (t * 60) 94 (t * 60 + 60) 60) 95 (t * 60) 95 (t * 60 + 60) 60 = h' at F0 c94 ⊢
  have eW : ∀ c, c ≤ 7 → h' (W + c) = h (W + c) := fun c hc => F0.c (W + c) (by have := W94 c hc; simp [inC]; omega)
  have e0 : h' W = h W := eW 0 (by omega)
  rw [eW 1 (by omega), eW 2 (by omega)]
  have bt : gb t K h' := fun c c0 c1 => by
    have q := (c94 (t * 60 + c)).1 (by omega)
    rw [q.1, q.2]; exact b c c0 c1
  have pt : ∀ x : Int, nd x → cp60 t h' x = cp60 t h x ∧ cl60 t h' x = cl60 t h x := by
    intro x hx
    unfold nd at hx
    have q := (c94 (t * 60 + x / 2)).1 (by omega)
    unfold cp60 cl60
    rw [q.1, q.2]; exact ⟨rfl, rfl⟩
  have shrt : ∀ (g : HI), FL [(94, -1), (95, -1)] h g → (∀ j : Int, j < t * 60 + 60 → g 94 j = h 94 j ∧ g 95 j = h 95 j) → gb (t + 1) (3 * K + 1) g → wdd t h g (h (W + 1) k) (h (W + 2) k) → RtI l (D + 2) mX9_shorts (zz ζ) [aP 91, aP W, aI (t + 1), aI k] g (fun r2 h2 => (rg r2) ∧ (if ¬ r2 = 0 then Q 0 h2 else Q 1 h2)) := by
    intro g f kp bg wd
    have q := hq g f kp bg wd
    have gW : ∀ c, c ≤ 7 → g (W + c) = h (W + c) := fun c hc => f.c (W + c) (by have := W94 c hc; simp [inC]; omega)
    have g0 : g W = h W := gW 0 (by omega)
    have wg : weI W g := by
      refine weI_keep we (fun c hc => gW c (by omega)) (KP.fl f (by decide)) ?_ ?_
      · rw [f.c 133 (by decide)]
      · rw [f.c 134 (by decide)]
    have r := s_shorts (l := l) (D := D) (Q := fun r2 h2 => (rg r2) ∧ (if ¬ r2 = 0 then Q 0 h2 else Q 1 h2)) (t := t + 1) (k := k) hn hW (by omega) ⟨by omega, hK.2⟩ bg wg (by rw [g0]; exact hk)
    rw [gW 1 (by omega), gW 2 (by omega), gW 4 (by omega), gW 5 (by omega), gW 6 (by omega), g0] at r
    exact r (fun z => ⟨by decide, iteP (by decide) (q.1 z)⟩) (fun z => ⟨by decide, iteN (by decide) (q.2 z)⟩)
  refine s_together hn (by omega) bt nA nB (fun y => ⟨by decide, iteP (by decide) ?_⟩) (fun y => ⟨by decide, iteN (by decide) ?_⟩)
  · rw [(pt _ nA).1, (pt _ nB).1] at y
    refine shrt h' F0 (fun j hj => (c94 j).1 hj) (fun c c0 c1 => ?_) ⟨fun _ z hz => ?_, fun n => absurd y n⟩
    · have q := (c94 ((t + 1) * 60 + c)).2 (by omega) (by omega)
      have o := b c c0 c1
      rw [show (t + 1) * 60 + c - 60 = t * 60 + c by omega] at q
      rw [q.1, q.2]
      exact ⟨o.1, by omega⟩
    · unfold nd at hz
      have q := (c94 ((t + 1) * 60 + z / 2)).2 (by omega) (by omega)
      rw [show (t + 1) * 60 + z / 2 - 60 = t * 60 + z / 2 by omega] at q
      unfold cp60 cl60
      rw [q.1, q.2]; exact ⟨rfl, rfl⟩
  · rw [(pt _ nA).1, (pt _ nB).1] at y
    rw [eW 1 (by omega), eW 2 (by omega)]
    refine s_apart hn (by omega) nA nB ?_
    rw [eW 1 (by omega), eW 2 (by omega), (nd_shi nA).1, (nd_shi nB).1, (pt _ nA).2, (pt _ nB).2]
    have nA' := nA
    have nB' := nB
    unfold nd at nA' nB'
    have qA := (c94 (t * 60 + 60 + h (W + 1) k / 2)).2 (by omega) (by omega)
    have qB := (c94 (t * 60 + 60 + h (W + 2) k / 2)).2 (by omega) (by omega)
    have eA : h' 94 (t * 60 + 60 + h (W + 1) k / 2) = cp60 t h (h (W + 1) k) := by rw [qA.1]; unfold cp60; congr 1; omega
    have eB : h' 94 (t * 60 + 60 + h (W + 2) k / 2) = cp60 t h (h (W + 2) k) := by rw [qB.1]; unfold cp60; congr 1; omega
    rw [eA, eB]
    have bA := b (h (W + 1) k / 2) (by omega) (by omega)
    have bB := b (h (W + 2) k / 2) (by omega) (by omega)
    have rA : 0 ≤ cp60 t h (h (W + 1) k) ∧ cp60 t h (h (W + 1) k) < 60 := bA.1
    have rB : 0 ≤ cp60 t h (h (W + 2) k) ∧ cp60 t h (h (W + 2) k) < 60 := bB.1
    have rl' : -(2 * K + 1) ≤ cl60 t h (h (W + 1) k) - cl60 t h (h (W + 2) k) ∧ cl60 t h (h (W + 1) k) - cl60 t h (h (W + 2) k) ≤ 2 * K + 1 := by
      unfold cl60; omega
    refine ⟨by omega, by omega, ?_⟩
    generalize hmv : cp60 t h (h (W + 2) k) = mv at y rB ⊢
    generalize hin : cp60 t h (h (W + 1) k) = inn at y rA ⊢
    generalize hlf : cl60 t h (h (W + 1) k) - cl60 t h (h (W + 2) k) = lf at rl' ⊢
    have LP := lup (N := 60) (R := fun i g => G l (D + 3) 0 0 mX9_weld (zz ζ) 126 [aP 91, aP W, aI t, aI k, aU, aI (t * 60 + 60), aI lf, aI mv, aI inn, aI (t * 60 + 60 + i)] [] g (qI (zz ζ) Q)) (P := fun i g => FL [(94, -1), (95, -1)] h g ∧ (∀ j : Int, j < t * 60 + 60 → g 94 j = h 94 j ∧ g 95 j = h 95 j) ∧ ∀ c : Int, 0 ≤ c → c < 60 → g 94 (t * 60 + 60 + c) = (if c < i ∧ h 94 (t * 60 + c) = mv then inn else h 94 (t * 60 + c)) ∧ g 95 (t * 60 + 60 + c) = (if c < i ∧ h 94 (t * 60 + c) = mv then h 95 (t * 60 + c) + lf else h 95 (t * 60 + c))) ?_ ?_
    · have := LP 0 h' (by omega) (by omega) ⟨F0, fun j hj => (c94 j).1 hj, fun c c0 c1 => by
        have q := (c94 (t * 60 + 60 + c)).2 (by omega) (by omega)
        rw [show t * 60 + 60 + c - 60 = t * 60 + c by omega] at q
        rw [if_neg (by omega), if_neg (by omega)]; exact q⟩
      rw [show t * 60 + 60 + 0 = t * 60 + 60 by omega] at this
      exact this
    · rintro i g h0 h1 ⟨f, kp, w⟩ k1
      have wi := w i h0 h1
      rw [if_neg (by omega), if_neg (by omega)] at wi
      have bi := b i h0 h1
      refine b_X9_weld_126 hn hW ⟨by constructor <;> omega, by constructor <;> omega, iteN (by omega) ⟨by omega, by rw [wi.1]; constructor <;> omega, by constructor <;> omega, ?_⟩⟩
      rw [wi.1, wi.2, show t * 60 + 60 + i + 1 = t * 60 + 60 + (i + 1) by omega]
      by_cases c : h 94 (t * 60 + i) = mv
      · refine iteN (fun z => z c) (k1 _ ⟨(f.ua (by decide)).ua (by decide), fun j hj => ?_, fun c' c0 c1 => ?_⟩)
        · rw [hu_c _ _ _ (by decide), hu_j _ _ _ (by omega), hu_j _ _ _ (by omega), hu_c _ _ _ (by decide)]; exact kp j hj
        · by_cases z : c' = i
          · subst z
            rw [hu_c _ _ _ (by decide), hu_s, hu_s, if_pos ⟨by omega, c⟩, if_pos ⟨by omega, c⟩]; exact ⟨rfl, rfl⟩
          · rw [hu_c _ _ _ (by decide), hu_j _ _ _ (by omega), hu_j _ _ _ (by omega), hu_c _ _ _ (by decide)]
            have o := w c' c0 c1
            have e : (c' < i + 1 ∧ h 94 (t * 60 + c') = mv) ↔ (c' < i ∧ h 94 (t * 60 + c') = mv) := ⟨fun q => ⟨by omega, q.2⟩, fun q => ⟨by omega, q.2⟩⟩
            simp only [e]; exact o
      · refine iteP c (k1 _ ⟨f, kp, fun c' c0 c1 => ?_⟩)
        have o := w c' c0 c1
        have e : (c' < i + 1 ∧ h 94 (t * 60 + c') = mv) ↔ (c' < i ∧ h 94 (t * 60 + c') = mv) := by
          constructor
          · intro q
            refine ⟨?_, q.2⟩
            by_cases z : c' = i
            · rw [z] at q; exact absurd q.2 c
            · omega
          · exact fun q => ⟨by omega, q.2⟩
        simp only [e]; exact o
    · rintro g ⟨f, kp, w⟩
      refine b_X9_weld_126 hn hW ⟨by constructor <;> omega, by constructor <;> omega, iteP (by omega) ?_⟩
      have w' : ∀ c : Int, 0 ≤ c → c < 60 → g 94 ((t + 1) * 60 + c) = (if h 94 (t * 60 + c) = mv then inn else h 94 (t * 60 + c)) ∧ g 95 ((t + 1) * 60 + c) = (if h 94 (t * 60 + c) = mv then h 95 (t * 60 + c) + lf else h 95 (t * 60 + c)) := by
        intro c c0 c1
        have o := w c c0 c1
        have e : (c < 60 ∧ h 94 (t * 60 + c) = mv) ↔ h 94 (t * 60 + c) = mv := ⟨fun q => q.2, fun q => ⟨c1, q⟩⟩
        simp only [e] at o
        rw [show (t + 1) * 60 + c = t * 60 + 60 + c by omega]; exact o
      refine shrt g f kp (fun c c0 c1 => ?_) ⟨fun q => absurd (hin.symm.trans (q.trans hmv)) y, fun _ z hz => ?_⟩
      · have o := w' c c0 c1
        have bc := b c c0 c1
        rw [o.1, o.2]
        split <;> omega
      · unfold nd at hz
        have o := w' (z / 2) (by omega) (by omega)
        rw [hmv, hin, hlf]
        unfold cp60 cl60
        rw [o.1, o.2]
        by_cases c : h 94 (t * 60 + z / 2) = mv
        · rw [if_pos c, if_pos c, if_pos c]; exact ⟨rfl, by omega⟩
        · rw [if_neg c, if_neg c, if_neg c]; exact ⟨rfl, rfl⟩
end OD3
