/-! THE BEGINNING: the invariant at the law's loop, first round -/
theorem hini_c (h : HI) (a : Nat) (w : (a = 0 ∨ a = 1 ∨ a = 7 ∨ a = 37 ∨ a = 40 ∨ a = 97 ∨ a = 99 ∨ a = 100 ∨ a = 102) → False) : hini h a = h a := by
  have n0 : a ≠ 0 := fun q => w (by omega)
  have n1 : a ≠ 1 := fun q => w (by omega)
  have n7 : a ≠ 7 := fun q => w (by omega)
  have n37 : a ≠ 37 := fun q => w (by omega)
  have n40 : a ≠ 40 := fun q => w (by omega)
  have n97 : a ≠ 97 := fun q => w (by omega)
  have n99 : a ≠ 99 := fun q => w (by omega)
  have n100 : a ≠ 100 := fun q => w (by omega)
  have n102 : a ≠ 102 := fun q => w (by omega)
  unfold hini
  simp only [hu_ne a n0, hu_ne a n1, hlu_ne a n7, hlu_ne a n37, hu_ne a n40, hu_ne a n97, hu_ne a n99, hu_ne a n100, hu_ne a n102]
theorem hlu_eq (h : HI) (k a : Nat) (b : Int) : hlu h k a b = if a = k then lawv 2 b else h a b := rfl
theorem hini_0 (h : HI) (j : Int) : hini h 0 j = if j = 12 then -1 else if j = 11 then -1 else if j = 10 then -1 else h 0 j := by
  simp [hini, hu_eq, hlu_eq]
theorem hini_1 (h : HI) (j : Int) : hini h 1 j = if j = 7 then -1 else h 1 j := by
  simp [hini, hu_eq, hlu_eq]
theorem hini_7 (h : HI) (j : Int) : hini h 7 j = lawv 2 j := by
  simp [hini, hu_eq, hlu_eq]
theorem hini_40 (h : HI) : hini h 40 0 = 1 := by
  simp [hini, hu_eq, hlu_eq]
theorem hini_97 (h : HI) (j : Int) : hini h 97 j = if j = 62 then -1 else h 97 j := by
  simp [hini, hu_eq, hlu_eq]
theorem hini_99 (h : HI) (j : Int) : hini h 99 j = if j = 10 then 40 else if j = 9 then 20 else if j = 8 then 3 else if j = 7 then 2 else if j = 6 then 100 else if j = 5 then 5 else if j = 4 then 100 else if j = 3 then 1 else if j = 2 then 2 else if j = 1 then 0 else if j = 0 then 0 else h 99 j := by
  simp [hini, hu_eq, hlu_eq]
theorem hini_102 (h : HI) : rsI (hini h) := by
  intro k hk
  have c : k = 0 ∨ k = 1 ∨ k = 2 ∨ k = 3 ∨ k = 4 ∨ k = 5 ∨ k = 6 ∨ k = 7 ∨ k = 8 ∨ k = 9 ∨ k = 10 ∨ k = 11 ∨ k = 12 ∨ k = 13 ∨ k = 14 ∨ k = 15 ∨ k = 16 ∨ k = 17 ∨ k = 18 ∨ k = 19 ∨ k = 20 ∨ k = 21 ∨ k = 22 := by omega
  rcases c with rfl | rfl | rfl | rfl | rfl | rfl | rfl | rfl | rfl | rfl | rfl | rfl | rfl | rfl | rfl | rfl | rfl | rfl | rfl | rfl | rfl | rfl | rfl <;> simp [hini, hu_eq, rsvL]
/-- the relation of an empty stock -/
theorem SR_ini {S : HI} {s nm : Int → Int} (z : ∀ k j, k ≠ 4 → S k j = 0) (a : ∀ i : Int, 0 ≤ i → i < 9 → s (2 + i) = S 4 i ∧ lawv 0 i ≤ S 4 i ∧ S 4 i ≤ lawv 1 i) (s0 : s 0 = 0) (s1 : s 1 = 0) (s2 : ∀ j : Int, 11 ≤ j → s j = 0) : SR S s nm := by
  have z13 := z 1 3 (by decide)
  have z14 := z 1 4 (by decide)
  have z03 := z 0 3 (by decide)
  have z05 := z 0 5 (by decide)
  have z010 := z 0 10 (by decide)
  have z70 := z 7 0 (by decide)
  have z77 := z 7 7 (by decide)
  have z51 := z 5 1 (by decide)
  have z52 := z 5 2 (by decide)
  have s11 := s2 11 (by decide)
  have s12 := s2 12 (by decide)
  have s13 := s2 13 (by decide)
  have s14 := s2 14 (by decide)
  have s15 := s2 15 (by decide)
  have s16 := s2 16 (by decide)
  refine ⟨⟨by omega, by omega, a, fun b b0 b1 => absurd b1 (by omega), fun b b' b0 b1 => absurd b1 (by omega)⟩, ⟨by omega, fun c c0 c1 => absurd c1 (by omega)⟩, ⟨by omega, ?_, fun r r0 => absurd r0 (by omega), fun j _ => ⟨z 20 j (by decide), z 21 j (by decide), z 22 j (by decide), z 23 j (by decide)⟩⟩, ⟨by omega, fun k k0 => absurd k0 (by omega), fun k k' _ k0 => absurd k0 (by omega), fun c c0 c1 => absurd c1 (by omega)⟩, ⟨by omega, by omega, fun p p0 p1 => absurd p1 (by omega), fun c c0 c1 => absurd c1 (by omega), fun m m0 => absurd m0 (by omega), fun m m' _ m0 => absurd m0 (by omega)⟩, ⟨by omega, by omega, fun k k0 => absurd k0 (by omega), fun q => absurd q (by omega)⟩⟩
  unfold TDok td
  simp only
  refine ⟨by omega, by omega, by omega, fun r hr => absurd hr (by omega)⟩
theorem inv_ini {h : HI} (h0 : ∀ a q, 0 ≤ a → a < 1000000 → h a q = 0) : Inv ζ0 (hini h) := by
  have Z : ∀ (a : Nat) (j : Int), a < 1000000 → ((a = 0 ∨ a = 1 ∨ a = 7 ∨ a = 37 ∨ a = 40 ∨ a = 97 ∨ a = 99 ∨ a = 100 ∨ a = 102) → False) → hini h a j = 0 := by
    intro a j ha w
    rw [hini_c h a w]
    exact h0 a j (Nat.zero_le _) ha
  have M : ∀ j : Int, j ≠ 62 → hini h 97 j = 0 := by
    intro j hj
    rw [hini_97, if_neg hj]
    exact h0 97 j (by decide) (by decide)
  have X1 : ∀ j : Int, j ≠ 7 → hini h 1 j = 0 := by
    intro j hj
    rw [hini_1, if_neg hj]
    exact h0 1 j (by decide) (by decide)
  refine ⟨⟨⟨Or.inl ⟨rfl, rfl⟩, Or.inl ⟨rfl, rfl, rfl⟩⟩, ?_⟩, ⟨Or.inr (hini_40 h), fun q => ?_⟩⟩
  · intro n
    match n with
    | 0 =>
      show tpI (hini h)
      have a1 := X1 1 (by decide)
      have a2 := M 2 (by decide)
      refine ⟨by omega, by omega, by omega, fun j _ _ => ?_⟩
      rw [Z 98 j (by decide) (by decide), Z 2 j (by decide) (by decide)]
      decide
    | 1 =>
      show ftI (hini h)
      have a1 := X1 8 (by decide)
      have a2 := M 14 (by decide)
      refine ⟨by omega, by omega, by omega⟩
    | 2 =>
      show SR (stk 3 (hini h)) (hini h 99) (hini h 101)
      refine SR_ini ?_ ?_ ?_ ?_ ?_
      · intro k j hk
        unfold stk
        by_cases q : k < 30
        · rw [if_pos q]
          exact Z (3 + k) j (by omega) (by omega)
        · rw [if_neg q]
      · intro i i0 i1
        have e : stk 3 (hini h) 4 i = lawv 2 i := by
          show hini h 7 i = _
          exact hini_7 h i
        rw [e, hini_99]
        have c : i = 0 ∨ i = 1 ∨ i = 2 ∨ i = 3 ∨ i = 4 ∨ i = 5 ∨ i = 6 ∨ i = 7 ∨ i = 8 := by omega
        rcases c with rfl | rfl | rfl | rfl | rfl | rfl | rfl | rfl | rfl <;> exact ⟨rfl, by decide, by decide⟩
      · rw [hini_99]; rfl
      · rw [hini_99]; rfl
      · intro j hj
        rw [hini_99, if_neg (show ¬ j = 10 by omega), if_neg (show ¬ j = 9 by omega), if_neg (show ¬ j = 8 by omega), if_neg (show ¬ j = 7 by omega), if_neg (show ¬ j = 6 by omega), if_neg (show ¬ j = 5 by omega), if_neg (show ¬ j = 4 by omega), if_neg (show ¬ j = 3 by omega), if_neg (show ¬ j = 2 by omega), if_neg (show ¬ j = 1 by omega), if_neg (show ¬ j = 0 by omega)]
        exact h0 99 j (by decide) (by decide)
    | 3 =>
      show roI (hini h)
      have a1 := Z 52 0 (by decide) (by decide)
      have a2 := M 48 (by decide)
      exact ⟨by omega, by omega, by omega, fun i i0 i1 => absurd i1 (by omega), fun q => absurd a1 q⟩
    | 4 =>
      show swI (hini h)
      have a1 := Z 65 0 (by decide) (by decide)
      have a2 := M 53 (by decide)
      exact ⟨by omega, by omega, by omega, fun i i0 i1 => absurd i1 (by omega), fun q => absurd a1 q⟩
    | 5 =>
      show shI (hini h)
      have a1 := Z 70 0 (by decide) (by decide)
      have a2 := M 58 (by decide)
      exact ⟨by omega, by omega, by omega, fun i i0 i1 => absurd i1 (by omega)⟩
    | 6 =>
      show bmI (hini h)
      exact Or.inl ⟨M 59 (by decide), by rw [hini_0]; rfl, by rw [hini_0]; rfl⟩
    | 7 =>
      show loI (hini h)
      have e : hini h 0 12 = -1 := by rw [hini_0]; rfl
      refine ⟨?_, ?_⟩
      · rw [e, hini_97]; rfl
      · rw [e]; decide
    | 8 =>
      show weI 75 (hini h)
      have a1 := Z 75 0 (by decide) (by decide)
      have a2 := Z 133 0 (by decide) (by decide)
      have a3 := Z 75 4 (by decide) (by decide)
      have a4 := Z 134 0 (by decide) (by decide)
      exact ⟨by omega, fun k k0 k1 => absurd k1 (by omega), by omega, fun k k0 k1 => absurd k1 (by omega)⟩
    | 9 =>
      show orI (hini h)
      have a1 := Z 91 0 (by decide) (by decide)
      have a2 := M 78 (by decide)
      exact ⟨by omega, by omega, by omega, fun i i0 i1 => absurd i1 (by omega)⟩
    | 10 => exact hini_102 h
    | 11 =>
      show hini h 142 _ = 0 ∧ hini h 142 _ = 0
      exact ⟨Z 142 _ (by decide) (by decide), Z 142 _ (by decide) (by decide)⟩
    | 12 =>
      intro i _ _
      exact ⟨Z 60 _ (by decide) (by decide), Z 61 _ (by decide) (by decide), Z 62 _ (by decide) (by decide), Z 63 _ (by decide) (by decide)⟩
    | n + 13 => trivial
  · rw [hini_40] at q
    exact absurd q (by decide)
/-- the law, from its entry: it comes to its end with 1 -/
theorem law_G {l : Launch} (hl9 : l.stackTraces = false) (h : HI) (h0 : ∀ a q, 0 ≤ a → a < 1000000 → h a q = 0) (h1 : h 1000004 0 ≤ 3072) (h2 : 0 ≤ h 1000004 0) (h3 : ∀ j : Int, 0 ≤ j → j < h 1000004 0 → rg (h 1000003 j)) : G l 1900 601024 7293034 mL_law (zt 0) 0 [aP 1000003, aU, aU, aU, aU, aU, aU] [] h (fun v _ _ => v = some (aI 1)) := by
  have e3 : hini h 1000003 = h 1000003 := hini_c h _ (by decide)
  have e4 : hini h 1000004 = h 1000004 := hini_c h _ (by decide)
  have k := law_loop (D := 1838) hl9 512 ζ0 (hini h) 0 600880 7270978 (inv_ini h0) (by decide) (by decide) (by rw [e4]; exact ⟨h2, h1⟩) (by rw [e3, e4]; exact h3) (by rw [e4]; omega) (by decide) (by decide)
  exact e_law (D := 1896) (mc := 600880) (ms := 7270978) h0 k
