/-! CHECK, ORDER: the class's steps over sets -/
section ODC
variable {l : Launch} {D : Nat} {ζ : ZP} {Q : Int → HI → Prop} {QV : HI → Prop} {h g : HI} {W : Nat}
theorem weI_fl {L : List (Nat × Int)} (hW : isW W) (we : weI W h) (f : FL L h g) (c : ((List.range 16).all (fun k => !inC L (75 + k)) && (List.range 8).all (fun k => !inC L (127 + k))) = true) : weI W g ∧ ∀ c, c ≤ 7 → g (W + c) = h (W + c) := by
  simp only [Bool.and_eq_true] at c
  have a : ∀ k, k < 16 → g (75 + k) = h (75 + k) := fun k hk => f.c (75 + k) (by have := List.all_eq_true.mp c.1 k (List.mem_range.mpr hk); simpa using this)
  have b : ∀ k, k < 8 → g (127 + k) = h (127 + k) := fun k hk => f.c (127 + k) (by have := List.all_eq_true.mp c.2 k (List.mem_range.mpr hk); simpa using this)
  refine ⟨weI.fl hW we a (b 0 (by decide)) (b 1 (by decide)) (b 2 (by decide)) (b 3 (by decide)) (b 4 (by decide)) (b 5 (by decide)) (b 6 (by decide)) (b 7 (by decide)), fun c hc => ?_⟩
  rcases hW with z | z <;> subst z
  · exact a c (by omega)
  · have := a (8 + c) (by omega)
    rwa [show 75 + (8 + c) = 83 + c by omega] at this
/-- how high the heights may stand behind t steps -/
def kb : Nat → Int
  | 0 => 0
  | t + 1 => 3 * kb t + 1
theorem kb_top : ∀ t : Nat, t < 13 → 0 ≤ kb t ∧ kb t ≤ 265720 := by decide
abbrev SHw (W : Nat) (h : HI) (M k : Nat) : Prop := SHs (h (W + 1)) (h (W + 2)) (h (W + 4)) (h (W + 5)) (h (W + 6)) (h W 0).toNat (h W 4).toNat M k
abbrev cnw (W : Nat) (h : HI) (M k : Nat) : Prop := cnx (h (W + 1)) (h (W + 2)) (h (W + 4)) (h (W + 5)) (h (W + 6)) (h (W + 3)) (h W 0).toNat (h W 4).toNat M k
abbrev vdw (W : Nat) (h : HI) (M : Nat) (p lv : Int → Int) : Prop := vds (h (W + 1)) (h (W + 2)) (h W 0).toNat M p lv
def CSt (W : Nat) (h : HI) (t M : Nat) (g : HI) : Prop := gb t (kb t) g ∧ vdw W h M (cp60 t g) (cl60 t g)
theorem we_A (we : weI W h) : ∀ k : Nat, k < (h W 0).toNat → nd (h (W + 1) k) ∧ nd (h (W + 2) k) := fun k hk => ⟨(we.2.1 k (by omega) (by omega)).1.2, (we.2.1 k (by omega) (by omega)).2.1.2⟩
theorem we_N (we : weI W h) : ∀ k : Nat, k < (h W 4).toNat → nd (h (W + 5) k) ∧ nd (h (W + 6) k) := fun k hk => ⟨(we.2.2.2 k (by omega) (by omega)).2.1.2, (we.2.2.2 k (by omega) (by omega)).2.2.2⟩
theorem CSt_keep {t M : Nat} {g' : HI} (c : CSt W h t M g) (we : weI W h) (e : ∀ j : Int, j < (t : Int) * 60 + 60 → g' 94 j = g 94 j ∧ g' 95 j = g 95 j) : CSt W h t M g' := by
  refine ⟨fun c' c0 c1 => ?_, vds_congr c.2 (we_A we) (fun x hx => ?_)⟩
  · have q := e (t * 60 + c') (by omega)
    rw [q.1, q.2]; exact c.1 c' c0 c1
  · unfold nd at hx
    have q := e (t * 60 + x / 2) (by omega)
    unfold cp60 cl60
    rw [q.1, q.2]; exact ⟨rfl, rfl⟩
theorem s_cweld (hn : 144 ≤ ζ.2.2.2.2) (hW : isW W) (we : weI W h) (weg : weI W g) (gW : ∀ c, c ≤ 7 → g (W + c) = h (W + c)) {t M k : Nat} (ht : t ≤ 11) (hk : k < (h W 0).toNat) (cs : CSt W h t M g) (hq : ∀ g', FL [(94, -1), (95, -1)] g g' → (∀ j : Int, j < (t : Int) * 60 + 60 → g' 94 j = g 94 j ∧ g' 95 j = g 95 j) → (SHw W h M k → Q 0 g') ∧ (¬ SHw W h M k → CSt W h (t + 1) (M ||| 2 ^ k) g' → Q 1 g')) : RtI l (D + 3) mX9_weld (zz ζ) [aP 91, aP W, aI t, aI k] g Q := by
  have g0 : g W = h W := gW 0 (by omega)
  have kt := kb_top t (by omega)
  have kt1 := kb_top (t + 1) (by omega)
  have ek : kb (t + 1) = 3 * kb t + 1 := rfl
  have := s_weld (l := l) (D := D) (Q := Q) (h := g) (W := W) (t := t) (K := kb t) (k := k) hn hW (by omega) (by omega) cs.1 weg (by rw [g0]; omega)
  rw [gW 1 (by omega), gW 2 (by omega), gW 4 (by omega), gW 5 (by omega), gW 6 (by omega), g0] at this
  refine this (fun g' f kp b w => ?_)
  have q := hq g' f kp
  have iff := shp_iff (NT := h (W + 4)) (we_A we) (we_N we) hk cs.2 w
  refine ⟨fun z => q.1 (iff.mp z), fun z => q.2 (fun y => z (iff.mpr y)) ⟨?_, ?_⟩⟩
  · rw [show ((t + 1 : Nat) : Int) = (t : Int) + 1 by omega]; exact b
  · rw [show ((t + 1 : Nat) : Int) = (t : Int) + 1 by omega]
    exact wdd_vds cs.2 (we_A we) hk w (fun y => z (Or.inl y))
theorem s_begin (hn : 144 ≤ ζ.2.2.2.2) (hq : ∀ g, FL [(94, -1), (95, -1)] h g → (∀ W h0, weI W h0 → CSt W h0 0 0 g) → QV g) : RtV l (D + 1) mX9_begin (zz ζ) [aP 91] h QV := by
  refine e_X9_begin hn ?_
  have LP := lup (N := 60) (R := fun i g => G l (D + 1) 0 0 mX9_begin (zz ζ) 2 [aP 91, aI i] [] g (qV (zz ζ) QV)) (P := fun i g => FL [(94, -1), (95, -1)] h g ∧ ∀ j : Int, 0 ≤ j → j < i → g 94 j = j ∧ g 95 j = 0) ?_ ?_
  · exact LP 0 h (by omega) (by omega) ⟨FL.refl, fun j j0 j1 => by omega⟩
  · rintro i g h0 h1 ⟨f, w⟩ k1
    refine b_X9_begin_2 hn ⟨by constructor <;> omega, iteN (by omega) ⟨by omega, k1 _ ⟨(f.ua (by decide)).ua (by decide), fun j j0 j1 => ?_⟩⟩⟩
    by_cases z : j = i
    · subst z
      rw [hu_c _ _ _ (by decide), hu_s, hu_s]; exact ⟨rfl, rfl⟩
    · rw [hu_c _ _ _ (by decide), hu_j _ _ _ (by omega), hu_j _ _ _ (by omega), hu_c _ _ _ (by decide)]
      exact w j j0 (by omega)
  · rintro g ⟨f, w⟩
    refine b_X9_begin_2 hn ⟨by decide, iteP (by decide) (hq g f (fun W h0 we => ⟨fun c c0 c1 => ?_, vds_congr vds_0 (we_A we) (fun x hx => ?_)⟩))⟩
    · have q := w c c0 c1
      rw [show ((0 : Nat) : Int) * 60 + c = c by omega, q.1, q.2]
      exact ⟨⟨c0, c1⟩, by decide, by decide⟩
    · unfold nd at hx
      have q := w (x / 2) (by omega) (by omega)
      unfold cp60 cl60
      rw [show ((0 : Nat) : Int) * 60 + x / 2 = x / 2 by omega, q.1, q.2]
      exact ⟨rfl, by omega⟩
theorem s_isNext (hn : 144 ≤ ζ.2.2.2.2) (hW : isW W) {M k : Nat} (hM : M < 4096) (hk : k < 12) (h1 : M.testBit k = false → band (h (W + 3) k) (bxor (M : Int) (-1)) = 0 → Q 1 h) (h0 : ¬ (M.testBit k = false ∧ band (h (W + 3) k) (bxor (M : Int) (-1)) = 0) → Q 0 h) : RtI l (D + 1) mX9_isNext (zz ζ) [aP W, aI M, aI k] h Q := by
  refine e_X9_isNext hn hW ?_
  rw [tb32 (by omega) (by omega)]
  cases c : M.testBit k with
  | true => exact ⟨by decide, iteP (by decide) (h0 (fun z => by rw [c] at z; cases z.1))⟩
  | false =>
    refine ⟨by decide, iteN (by decide) ⟨by omega, band_rg _ _, ?_⟩⟩
    by_cases d : band (h (W + 3) k) (bxor (M : Int) (-1)) = 0
    · exact iteN (fun z => z d) (h1 c d)
    · exact iteP d (h0 (fun z => d z.2))
theorem s_mcanNext (hn : 144 ≤ ζ.2.2.2.2) (hW : isW W) (we : weI W h) (weg : weI W g) (gW : ∀ c, c ≤ 7 → g (W + c) = h (W + c)) {M k : Nat} (hM : M < 4096) (hk : k < (h W 0).toNat) (hq : ∀ r g', FL L3 g g' → (r = 0 ∨ r = 1) → (∀ p lv, vdw W h M p lv → (r = 1 ↔ cnw W h M k)) → (r = 1 → M.testBit k = false) → Q r g') : RtI l (D + 4) mX12_canNext (zz ζ) [aP 97, aI M, aI k] g Q := by
  have g0 : g W = h W := gW 0 (by omega)
  have m12 := we.1.2.1
  have e129 : g 129 k = h (W + 3) k := by
    have := (weg.2.1 k (by omega) (by rw [g0]; omega)).2.2.1
    rw [this, gW 3 (by omega)]
  refine e_X12_canNext hn ?_
  rw [tb32 (by omega) (by omega), e129]
  cases c : M.testBit k with
  | true => exact ⟨by decide, iteP (by decide) (hq 0 g FL.refl (Or.inl rfl) (fun p lv _ => ⟨fun z => by omega, fun z => by have := z.1; rw [c] at this; cases this⟩) (fun z => by omega))⟩
  | false =>
    refine ⟨by decide, iteN (by decide) ⟨by omega, band_rg _ _, ?_⟩⟩
    by_cases d : band (h (W + 3) k) (bxor (M : Int) (-1)) = 0
    · refine iteN (fun z => z d) ?_
      have se : SE g (h (W + 1)) (h (W + 2)) (h W 0).toNat g := by
        refine ⟨⟨by have := weg.1.2.2; rw [g0] at this; rw [this]; have := we.1.1; omega, FL.refl⟩, by omega, fun j hj => ?_⟩
        have q := weg.2.1 j (by omega) (by rw [g0]; omega)
        rw [gW 1 (by omega), gW 2 (by omega)] at q
        exact ⟨q.1.1, q.2.1.1, q.1.2, q.2.1.2⟩
      have ne : NE (h (W + 4)) (h (W + 5)) (h (W + 6)) (h W 4).toNat g := by
        have n0 := weg.2.2.1
        rw [g0] at n0
        refine ⟨by rw [n0.2.2]; omega, by omega, fun j hj => ?_⟩
        have q := weg.2.2.2 j (by omega) (by rw [g0]; omega)
        rw [gW 4 (by omega), gW 5 (by omega), gW 6 (by omega), g0] at q
        exact ⟨q.1.1, q.2.1.1, q.2.2.1, by omega, q.2.1.2, q.2.2.2⟩
      refine s_mshorts hn hM se ne hk (fun r g' f r01 st => ?_)
      have tell : ∀ p lv, vdw W h M p lv → (r = 1 ↔ SHw W h M k) := fun p lv v => shT_iff (we_A we) (we_N we) hk v st
      rcases r01 with z | z <;> subst z
      · refine ⟨by decide, iteN (by decide) (hq 1 g' f (Or.inr rfl) (fun p lv v => ⟨fun _ => ⟨c, d, fun s => by have := (tell p lv v).mpr s; omega⟩, fun _ => rfl⟩) (fun _ => c))⟩
      · refine ⟨by decide, iteP (by decide) (hq 0 g' f (Or.inl rfl) (fun p lv v => ⟨fun z => by omega, fun z => absurd ((tell p lv v).mp rfl) z.2.2⟩) (fun z => by omega))⟩
    · exact iteP d (hq 0 g FL.refl (Or.inl rfl) (fun p lv _ => ⟨fun z => by omega, fun z => absurd z.2.1 d⟩) (fun z => by omega))
end ODC
