/-! rows: the class's take -/
section RW8
variable {l : Launch} {D : Nat} {ζ : ZP} {h : HI} {QV : HI → Prop}
theorem s_rtake (hn : 144 ≤ ζ.2.2.2.2) {n s : Nat} {f fl : Nat → Int} (n12 : n ≤ 12) (s1 : 1 ≤ s) (s12 : s ≤ 12) (h0 : h 52 0 = n) (h5 : h 52 5 = s) (hf : ∀ r : Nat, r < s → (h 57 r = f r ∧ 0 ≤ f r ∧ f r ≤ 1000000) ∧ (h 58 r = fl r ∧ 0 ≤ fl r ∧ fl r ≤ 20000000)) (hq : ∀ g', FL [(52, 2), (52, 3), (52, 4), (53, -1)] h g' → g' 52 2 = mnF f s → g' 52 3 = mxF f s - mnF f s → g' 52 4 = mxF fl s - mnF fl s → (∀ j : Nat, j < n → g' 53 j = h 56 j) → QV g') : RtV l (D + 1) mX2_take (zz ζ) [aP 52] h QV := by
  have b1 := fun k (hk : k ≤ s) => mn_bd (f := f) (K := 0) (L := 1000000) (n := k) (fun i hi => (hf i (by omega)).1.2)
  have b2 := fun k (hk : k ≤ s) => mn_bd (f := fl) (K := 0) (L := 20000000) (n := k) (fun i hi => (hf i (by omega)).2.2)
  have z := hf 0 (by omega)
  refine e_X2_take hn ?_
  have main : ∀ (m r : Nat) (g : HI), r + m = s → 1 ≤ r → FL [(52, 2)] h g → g 52 2 = mnF f r → G l (D + 1) 0 0 mX2_take (zz ζ) 34 [aP 52, aI (mxF f r), aI (mnF fl r), aI (mxF fl r), aI r] [] g (qV (zz ζ) QV) := by
    intro m
    induction m with
    | zero =>
      intro r g hm r1 F e2
      have : r = s := by omega
      subst this
      have q1 := b1 r (Nat.le_refl _)
      have q2 := b2 r (Nat.le_refl _)
      refine b_X2_take_34 hn ⟨by constructor <;> omega, by rw [F.at 52 5 rfl, h5]; constructor <;> omega, iteP (by rw [F.at 52 5 rfl, h5]; omega) ⟨by rw [F.at 52 0 rfl, h0]; omega, ?_⟩⟩
      rw [F.at 52 0 rfl, h0, e2]
      refine hq _ ?_ ?_ ?_ ?_ (fun j hj => ?_)
      · exact FL.cp (((F.mono rfl).u rfl).u rfl) rfl
      · rw [cp_c (by decide), hu_j _ _ _ (by decide), hu_j _ _ _ (by decide)]; exact e2
      · rw [cp_c (by decide), hu_j _ _ _ (by decide), hu_s]
      · rw [cp_c (by decide), hu_s]
      · rw [cp_s (by omega) (by omega), hu_c _ _ _ (by decide), hu_c _ _ _ (by decide), F.c 56 rfl]
    | succ m ih =>
      intro r g hm r1 F e2
      have q := hf r (by omega)
      have q1 := b1 r (by omega)
      have q2 := b2 r (by omega)
      refine b_X2_take_34 hn ⟨by constructor <;> omega, by rw [F.at 52 5 rfl, h5]; constructor <;> omega, iteN (by rw [F.at 52 5 rfl, h5]; omega) ⟨⟨by omega, by omega⟩, ?_⟩⟩
      rw [F.c 57 rfl, F.c 58 rfl, q.1.1, q.2.1, e2]
      refine ⟨by constructor <;> omega, by constructor <;> omega, by constructor <;> omega, by constructor <;> omega, by constructor <;> omega, by constructor <;> omega, ?_⟩
      have kk := ih (r + 1) (hu g 52 2 (min (mnF f r) (f r))) (by omega) (by omega) (F.u rfl) (by rw [hu_s]; rfl)
      rw [show ((r + 1 : Nat) : Int) = (r : Int) + 1 by omega] at kk
      exact kk
  have e1 : ∀ k : Nat → Int, mnF k 1 = k 0 ∧ mxF k 1 = k 0 := fun k => ⟨by show min (k 0) (k 0) = _; omega, by show max (k 0) (k 0) = _; omega⟩
  have kk := main (s - 1) 1 (hu h 52 2 (h 57 0)) (by omega) (by omega) (FL.refl.u rfl) (by rw [hu_s, (e1 f).1]; exact z.1.1)
  rw [(e1 f).2, (e1 fl).1, (e1 fl).2] at kk
  have z1 : h 57 0 = f 0 := z.1.1
  have z2 : h 58 0 = fl 0 := z.2.1
  rw [z1] at kk
  rw [z1, z2]
  exact kk
end RW8
